/-! ===== the class: votes, dreams, ended states ===== -/
theorem ST_j {F F0 : FI} {d : Nat} {l : Nat → Int} {st h p n : Int} (hs : ST F0 d l st h p n) (hk : ∀ j, j < 13 → F 22 j = F0 22 j) : ST F d l st h p n := by
  unfold ST at hs ⊢
  rw [hk 8 (by decide), hk 9 (by decide), hk 10 (by decide), hk 11 (by decide), hk 12 (by decide)]
  exact hs
/-- what working a state's move out leaves as it is -/
def KB (b : Nat) (F F0 : FI) : Prop := (∀ c, c ≠ 22 → c ≠ 23 → c ≠ 25 → c ≠ b + 4 → c ≠ b + 5 → F c = F0 c) ∧ ∀ j, j < 13 → F 22 j = F0 22 j
theorem KB_t {b : Nat} {F F1 F2 : FI} (h1 : KB b F1 F) (h2 : KB b F2 F1) : KB b F2 F := ⟨fun c a1 a2 a3 a4 a5 => (h2.1 c a1 a2 a3 a4 a5).trans (h1.1 c a1 a2 a3 a4 a5), fun j h => (h2.2 j h).trans (h1.2 j h)⟩
theorem KB_a {b : Nat} {F F0 : FI} (h : KA 13 F F0) : KB b F F0 := ⟨fun c a1 _ _ _ _ => h.1 c a1, h.2⟩
theorem KB_l {b : Nat} {F F0 : FI} (hb : oW b) (h : KL b F F0) : KB b F F0 := ⟨fun c _ a2 _ a4 a5 => h c a2 a4 a5, fun j _ => by rw [h 22 (by decide) (by omega) (by omega)]⟩
theorem YX_b {S : FS} {F F' : FI} {G : FJ} {a b c d : Nat} {l : Nat → Int} {w : La} {st : Int} (h : YX S F G a b c d l w st) (hF : KB b F' F) : YX S F' G a b c d l w st := YX_k h (fun j h1 h2 h3 h4 h5 _ => hF.1 j h1 h2 h3 h4 h5) (fun _ _ => rfl)
theorem SR_b {F F' : FI} {b e : Nat} {l : Nat → Int} {w : La} {c : Cf} (h : SR F e l w c) (he : oC e) (hb : oW b) (hF : KB b F' F) : SR F' e l w c := SR_c h (fun i hi => hF.1 _ (by omega) (by omega) (by omega) (by omega) (by omega))
noncomputable def bkV (l : Nat → Int) (g : Cf) (st h p n M : Int) : Int → Int := fun k => bst (fun m => sBr l st h p n m (sW l g st (l 3 - (h + 1)).toNat k)) M (l 1 + 1).toNat
theorem l_264_51 {Q : Rs → Mm → Prop} {a : Nat} {l : Nat → Int} {x2 x3 : Int} {v : Int → Int} {S : FS} {F : FI} {G : FJ} (ha : oL a) (hS0 : S 22 0 = a) (hl : F a 10 = l 1) (hw : l 1 ≤ 24) (h2 : 0 ≤ x2) (h2' : x2 ≤ 24) (h3 : 1 ≤ x3) (h3' : x3 ≤ l 1 + 1) (hv : ∀ m, 0 ≤ m → m < 25 → F 25 m.toNat = v m) (e2 : x2 = bst v 33554431 x3.toNat)
    (hk : Q (.inl (some (.inl (bst v 33554431 (l 1 + 1).toNat)))) (mm S F G)) : wph 4 264 51 [.inr (.inr (.inl 22)), jk, .inl x2, .inl x3] [] (mm S F G) (0, 0) Q := by
  refine sg_264_51 ?_
  simp only [hS0, lk ha, hl]
  refine ck_i rfl (cn_i (fun h => ?_) (fun h => ?_))
  · rw [e2, show x3 = l 1 + 1 by omega]
    exact hk
  · have b1 := bst_t (v := v) (i := x3) (by omega) (bit_all (by omega) (by omega))
    rw [← e2] at b1
    rw [hv x2 h2 (by omega), hv x3 (by omega) (by omega), wr_id (by omega) (by omega)]
    refine ck_i (jb_i (by omega) (by omega)) (ck_i (jb_i (by omega) (by omega)) (cn_i (fun g => ?_) (fun g => ?_)))
    · exact l_264_51 ha hS0 hl hw (by omega) (by omega) (by omega) (by omega) hv (by rw [b1, if_pos (Or.inr g)]) hk
    · exact l_264_51 ha hS0 hl hw h2 h2' (by omega) (by omega) hv (by rw [b1, if_neg (by omega)]) hk
termination_by (l 1 + 1 - x3).toNat
decreasing_by all_goals omega
def KV (F F0 : FI) : Prop := (∀ c, c ≠ 22 → c ≠ 25 → F c = F0 c) ∧ ∀ j, j < 13 → F 22 j = F0 22 j
theorem YX_v {S : FS} {F F' : FI} {G : FJ} {a b c d : Nat} {l : Nat → Int} {w : La} {st : Int} (h : YX S F G a b c d l w st) (hF : KV F' F) : YX S F' G a b c d l w st := YX_k h (fun j h1 _ h3 _ _ _ => hF.1 j h1 h3) (fun _ _ => rfl)
theorem l_264_10 {Q : Rs → Mm → Prop} {a b c d : Nat} {l : Nat → Int} {w : La} {g : Cf} {st h p n x1 x2 : Int} {S : FS} {F F0 : FI} {G : FJ} (hx : YX S F0 G a b c d l w st) (hc : CV l st g) (h1 : 0 ≤ p) (h1' : p < l 0) (h2 : 0 ≤ h) (h2' : h < l 3) (h3 : 1 ≤ n) (h3' : n ≤ st)
    (hst : ST F0 d l st h p n) (hy : YS G d l g st h p n) (hM : 1 ≤ x1 ∧ x1 < 33554432) (hAM : ∀ m, 0 ≤ m → bit x1 m → AM l p m) (hMe : ∃ m, 0 ≤ m ∧ m ≤ l 1 ∧ bit x1 m) (h4 : 0 ≤ x2) (h4' : x2 ≤ l 2) (hF : KV F F0) (hv : ∀ m : Int, 0 ≤ m → m < 25 → F 25 m.toNat = sVt (bkV l g st h p n x1) m x2.toNat)
    (hk : ∀ F', KV F' F0 → Q (.inl (some (.inl (bst (fun m => sVt (bkV l g st h p n x1) m (l 2).toNat) 33554431 (l 1 + 1).toNat)))) (mm S F' G)) : wph 4 264 10 [.inr (.inr (.inl 22)), .inl x1, .inl x2] [] (mm S F G) (0, 0) Q := by
  obtain ⟨ha, hb, hc', hd, ⟨s0, s1, s2, s3⟩, hV, hw', hl, hrw, hst', htw, hs1, hs2⟩ := id (YX_v hx hF)
  have hv' := hV
  have e0 : LV l := hV
  obtain ⟨⟨hv1, hv2⟩, ⟨hv3, hv4⟩, ⟨hv5, hv6⟩, ⟨hv7, hv8⟩, ⟨hv9, hv10⟩, ⟨hv11, hv12⟩, ⟨hv13, hv14⟩, hvw, hvs, hvk, hvc, hvx⟩ := id e0
  refine sg_264_10 ?_
  simp only [s0, lk ha, hl.1.2.2.1]
  refine ck_i rfl (cn_i (fun z => ?_) (fun z => ?_))
  · have cs := shl_1 (i := 2 + x2) (by omega) (by omega)
    rw [wr_id (a := 2 + x2) (by omega) (by omega), wr_id (a := x2 + 1) (by omega) (by omega)]
    refine c_266 (f := fC l g st (l 3 - (h + 1)).toNat) (YX_v hx hF) h1 h1' h2 h2' h3 h3' (ST_j hst hF.2) hM.1 hM.2 cs.2.1 cs.2.2 (Or.inl rfl) (YS_M hV hs1 hs2 hc h2 h2' h1 h1' h3 h3' hy hAM (fun o o0 o1 ob => YV_w h4 z hv6 o0 ob)) (fun F' hF' => ?_)
    rw [bst_v1 (by omega) (by omega), fC_w h4 (by omega)]
    have bi := bst_in (v := fun m => sBr l st h p n m (sW l g st (l 3 - (h + 1)).toNat x2)) hv3 hMe
    have eb : bst (fun m => sBr l st h p n m (sW l g st (l 3 - (h + 1)).toNat x2)) x1 (l 1 + 1).toNat = bkV l g st h p n x1 x2 := rfl
    rw [eb] at bi ⊢
    have v25 : F' 25 = F 25 := hF'.1 25 (by decide)
    have vb := sVt_b (bkV l g st h p n x1) (bkV l g st h p n x1 x2) x2.toNat
    rw [v25, hv _ bi.1 (by omega), wr_id (by omega) (by omega)]
    refine ck_i (jb_i bi.1 (by omega)) (ck_i (jb_i bi.1 (by omega)) ?_)
    refine l_264_10 hx hc h1 h1' h2 h2' h3 h3' hst hy hM hAM hMe (by omega) (by omega) ⟨fun c c1 c2 => ?_, fun j hj => ?_⟩ (fun m m0 m1 => ?_) hk
    · rw [u2_o c2, hF'.1 c c1]
      exact hF.1 c c1 c2
    · rw [u2_o (by decide), hF'.2 j hj]
      exact hF.2 j hj
    · rw [u2_k, sVt_s h4, v25]
      by_cases y : m = bkV l g st h p n x1 x2
      · rw [if_pos (by rw [y]), if_pos y.symm, y]
      · rw [if_neg (by omega), if_neg (fun q => y q.symm), hv m m0 m1, Int.add_zero]
  · rw [show x2 = l 2 by omega] at hv
    exact l_264_51 (v := fun m => sVt (bkV l g st h p n x1) m (l 2).toNat) ha s0 hl.1.2.1 hv4 (by omega) (by omega) (by omega) (by omega) hv (by
      have := bst_t (v := fun m => sVt (bkV l g st h p n x1) m (l 2).toNat) (b := 33554431) (i := 0) (by omega) (bit_all (by omega) (by omega))
      rw [show (0 + 1 : Int).toNat = (1 : Int).toNat from rfl] at this
      rw [this]
      exact (if_pos (Or.inl rfl)).symm) (hk F hF)
termination_by (l 2 - x2).toNat
decreasing_by omega
theorem c_264 {k : Int → FS → FI → FJ → Prop} {a b c d : Nat} {l : Nat → Int} {w : La} {g : Cf} {st h p n x1 : Int} {S : FS} {F : FI} {G : FJ} (hx : YX S F G a b c d l w st) (hr : SR F c l w g) (hc : CV l st g) (h1 : 0 ≤ p) (h1' : p < l 0) (h2 : 0 ≤ h) (h2' : h < l 3) (h3 : 1 ≤ n) (h3' : n ≤ st) (he : sEnd l h p n = 0)
    (hst : ST F d l st h p n) (hy : YS G d l g st h p n) (hvt : g.2.2.2.2.2.2 = 1) (e2 : x1 = g.2.2.2.1 (g.1 h) h p n) (hk : ∀ F', KV F' F → k (sTk l g st h p n) S F' G) : calI 4 264 [.inr (.inr (.inl 22)), .inl x1] (mm S F G) k nof := by
  have hv := hx.2.2.2.2.2.1
  obtain ⟨⟨hv1, hv2⟩, ⟨hv3, hv4⟩, ⟨hv5, hv6⟩, ⟨hv7, hv8⟩, ⟨hv9, hv10⟩, ⟨hv11, hv12⟩, ⟨hv13, hv14⟩, hvw, hvs, hvk, hvc, hvx⟩ := id hv
  have lh := hc.1 h h2 h2'
  have em : x1 = sMask l w (F c 5) (g.1 h) h p n := by rw [e2, hr.2.2.2.1]
  have mbd := sMask_b l w (F c 5) (g.1 h) h p n hv4 hv3
  rw [← em] at mbd
  have hAM : ∀ m, 0 ≤ m → bit x1 m → AM l p m := fun m m0 mb => by
    rw [em] at mb
    exact AM_mask hv4 hv3 m0 mb
  have mk := (hc.2.2.1 (g.1 h) h p n lh.1 lh.2 h2 h2' h1 h1' (by omega) h3' he).2.2
  rw [← e2] at mk
  have tk := sTk_g (c := g) (st := st) h2' he
  rw [← e2] at tk
  unfold sPick at tk
  rw [if_pos hvt] at tk
  refine sg_264_0 (c_343 (n := 25) rfl (by decide) ?_)
  refine l_264_10 hx hc h1 h1' h2 h2' h3 h3' hst hy mbd hAM mk (by omega) (by omega) ⟨fun c c1 c2 => yfl_o c2, fun j hj => by rw [yfl_o (by decide)]⟩ (fun m m0 m1 => by rw [yfl_i (by omega)]; rfl) (fun F' hF' => ⟨_, _, _, rfl, ?_⟩)
  have := hk F' hF'
  rw [tk] at this
  exact this
theorem m_262 {Q : Rs → Mm → Prop} {a b c d : Nat} {l : Nat → Int} {w : La} {g : Cf} {st h p n x1 x2 ld sg : Int} {S : FS} {F : FI} {G : FJ} (hx : YX S F G a b c d l w st) (hr : SR F c l w g) (hc : CV l st g) (hmc : MC (F 23) l w) (h1 : 0 ≤ p) (h1' : p < l 0) (h2 : 0 ≤ h) (h2' : h < l 3) (h3 : 1 ≤ n) (h3' : n ≤ st) (he : sEnd l h p n = 0)
    (hst : ST F d l st h p n) (hy : YS G d l g st h p n) (e1 : x1 = sp d h p n) (h4 : 0 ≤ x2) (h4' : x2 < l 2) (hkd : cK g x2 = 1 ∨ cK g x2 = 4) (hld : 0 ≤ ld) (hld' : ld < l 2) (hsg : sg = 1 ∨ sg = -1)
    (hk : ∀ F', KB b F' F → MC (F' 23) l w → Q (.inl none) (mm S F' (u2 G (d + 1) (sp d h p n * 12 + (7 + x2)).toNat (sBr l st h p n (bst (fun m => sg * sBr l st h p n m (fC l g st (l 3 - (h + 1)).toNat (7 + x2))) (g.2.2.2.1 ld h p n) (l 1 + 1).toNat) (fC l g st (l 3 - (h + 1)).toNat (7 + x2)))))) :
    calI 2 256 [.inr (.inr (.inl 22)), .inl ld, .inl p, .inl h, .inl n, .inl (F c 5)] (mm S F G) (fun v1 S1 F1 G1 => calI 3 266 [.inr (.inr (.inl 22)), .inl v1, .inl (shl 1 (7 + x2)), .inl sg] (mm S1 F1 G1) (fun v2 S2 F2 G2 => calV 1 268 [.inr (.inr (.inl 22)), .inl v2] (mm S2 F2 G2) (fun S3 F3 G3 => chk (kq (kk (S3 22 3)) 0 7) (calL 2 269 [.inr (.inr (.inl 22)), .inl (shl 1 (7 + x2))] (mm S3 F3 G3) (fun v4 S4 F4 G4 => chk (Nat.beq (kk (rr (S3 22 3) 1)).1 2) (chk (ib (x1 * 12 + (7 + x2)) (kk (rr (S3 22 3) 1)).2) (Q (.inl none) (mm S4 F4 (u2 G4 (rr (S3 22 3) 1) (x1 * 12 + (7 + x2)).toNat v4))))) nof)) nof) nof) nof := by
  obtain ⟨ha, hb, hc', hd, ⟨s0, s1, s2, s3⟩, hv, hw', hl, hrw, hst', htw, hs1, hs2⟩ := id hx
  have hv' := hv
  obtain ⟨⟨hv1, hv2⟩, ⟨hv3, hv4⟩, ⟨hv5, hv6⟩, ⟨hv7, hv8⟩, ⟨hv9, hv10⟩, ⟨hv11, hv12⟩, ⟨hv13, hv14⟩, hvw, hvs, hvk, hvc, hvx⟩ := id hv
  have mbd := sMask_b l w (F c 5) ld h p n hv4 hv3
  have em : g.2.2.2.1 ld h p n = sMask l w (F c 5) ld h p n := by rw [hr.2.2.2.1]
  have hAM : ∀ m, 0 ≤ m → bit (sMask l w (F c 5) ld h p n) m → AM l p m := fun m m0 mb => AM_mask hv4 hv3 m0 mb
  have mk := (hc.2.2.1 ld h p n hld hld' h2 h2' h1 h1' (by omega) h3' he).2.2
  rw [em] at mk hk
  have cs := shl_1 (i := 7 + x2) (by omega) (by omega)
  have yv := YS_M (cs := shl 1 (7 + x2)) hv hs1 hs2 hc h2 h2' h1 h1' h3 h3' hy hAM (fun o o0 o1 ob => YV_d h4 h4' hv6 hkd o0 ob)
  refine c_256 ha hb s0 s1 hv hw' hl hrw hmc hld (by omega) h1 h1' h2 h2' (by omega) (by omega) (fun F1 k1 mc1 => ?_)
  have kb1 := KB_l hb k1
  have hx1 := YX_b hx kb1
  have st1 := ST_j hst kb1.2
  refine c_266 (f := fC l g st (l 3 - (h + 1)).toNat) hx1 h1 h1' h2 h2' h3 h3' st1 mbd.1 mbd.2 cs.2.1 cs.2.2 hsg yv (fun F2 k2 => ?_)
  have eb : bst (vE l st h p n (fC l g st (l 3 - (h + 1)).toNat) (shl 1 (7 + x2)) sg) (sMask l w (F c 5) ld h p n) (l 1 + 1).toNat = bst (fun m => sg * sBr l st h p n m (fC l g st (l 3 - (h + 1)).toNat (7 + x2))) (sMask l w (F c 5) ld h p n) (l 1 + 1).toNat := bst_c (fun m _ _ _ => vE_1 (by omega) (by omega))
  rw [eb]
  have bi := bst_in (v := fun m => sg * sBr l st h p n m (fC l g st (l 3 - (h + 1)).toNat (7 + x2))) hv3 mk
  generalize bst (fun m => sg * sBr l st h p n m (fC l g st (l 3 - (h + 1)).toNat (7 + x2))) (sMask l w (F c 5) ld h p n) (l 1 + 1).toNat = bm at bi hk ⊢
  have am := hAM bm bi.1 bi.2.2
  have hx2 := YX_a hx1 k2
  refine c_268 hx2 h1 h1' h2 h2' h3 h3' (ST_k st1 k2) am (fun F3 k3 ai => ?_)
  have hx3 := YX_a hx2 k3
  simp only [s3, tk hd, tk1 hd, tk2 hd, tr1 hd, tr2 hd]
  refine ck_i rfl (c_269 (f := fC l g st (l 3 - (h + 1)).toNat) hx3 h1 h1' h2 h2' h3 h3' ai bi.2.1 cs.2.1 cs.2.2 (fun q hq => ?_) (fun v4 e4 => ?_))
  · rcases hq with hq | ⟨q1, q2⟩
    · rw [hq]
      exact yv.2.1
    · rw [q2]
      exact yv.2.2 bm q1 bi.2.2
  · rw [sSum_1 (g := fun c => sBr l st h p n bm (fC l g st (l 3 - (h + 1)).toNat c)) (i := 7 + x2) (by omega) (by omega) (fun k a b => by rw [cs.1]; exact bit_p (by omega) a)] at e4
    have sb := sp_b (h := h) (p := p) (n := n) hd h2 (by omega) h1 (by omega) (by omega) (by omega)
    subst e1
    refine ck_i rfl (ck_i (jb_i (by omega) (by omega)) ?_)
    rw [e4]
    refine hk F3 (KB_t (KB_t kb1 (KB_a k2)) (KB_a k3)) ?_
    rw [k3.1 23 (by decide), k2.1 23 (by decide)]
    exact mc1
theorem n_262 {Q : Rs → Mm → Prop} {a b c d : Nat} {l : Nat → Int} {w : La} {g : Cf} {st h p n x1 x2 : Int} {S : FS} {F : FI} {G : FJ} (hx : YX S F G a b c d l w st) (hr : SR F c l w g) (hc : CV l st g) (hmc : MC (F 23) l w) (h1 : 0 ≤ p) (h1' : p < l 0) (h2 : 0 ≤ h) (h2' : h < l 3) (h3 : 1 ≤ n) (h3' : n ≤ st) (he : sEnd l h p n = 0)
    (hst : ST F d l st h p n) (hy : YS G d l g st h p n) (e1 : x1 = sp d h p n) (h4 : 0 ≤ x2) (h4' : x2 < l 2) (hkd : cK g x2 = 1 ∨ cK g x2 = 4)
    (hk : ∀ F', KB b F' F → MC (F' 23) l w → Q (.inl none) (mm S F' (u2 G (d + 1) (sp d h p n * 12 + (7 + x2)).toNat (fC l g st (l 3 - h).toNat (7 + x2) p n)))) : cal 4 262 [.inr (.inr (.inl 22)), .inl x1, .inl x2] (mm S F G) Q := by
  obtain ⟨ha, hb, hc', hd, ⟨s0, s1, s2, s3⟩, hv, hw', hl, hrw, hst', htw, hs1, hs2⟩ := id hx
  have hv' := hv
  obtain ⟨⟨hv1, hv2⟩, ⟨hv3, hv4⟩, ⟨hv5, hv6⟩, ⟨hv7, hv8⟩, ⟨hv9, hv10⟩, ⟨hv11, hv12⟩, ⟨hv13, hv14⟩, hvw, hvs, hvk, hvc, hvx⟩ := id hv
  obtain ⟨t1, t2, t3, t4, t5⟩ := id hst
  have lh := hc.1 h h2 h2'
  have kd := hr.2.1 x2 h4 h4'
  have ldh := hr.1 h h2 h2'
  have sb := sp_b (h := h) (p := p) (n := n) hd h2 (by omega) h1 (by omega) (by omega) (by omega)
  refine sg_262_0 ?_
  simp only [s2, ck_ hc', ck1 hc', ck2 hc', cr0 hc', cr1 hc', t1, t2, t3, kd, ldh]
  have z1 : wr (7 + x2) = 7 + x2 := wr_id (by omega) (by omega)
  have z2 : wr (wr (x1 * 12) + (7 + x2)) = x1 * 12 + (7 + x2) := by
    rw [wr_id (a := x1 * 12) (by omega) (by omega), wr_id (by omega) (by omega)]
  simp only [z1, z2]
  refine ck_i rfl (ck_i rfl (ck_i (jb_i h4 (by omega)) (cn_i (fun q => ?_) (fun q => ?_))))
  · refine cd_t trivial (ck_i rfl ?_)
    refine m_262 hx hr hc hmc h1 h1' h2 h2' h3 h3' he hst hy e1 h4 h4' hkd h4 h4' (Or.inl rfl) (fun F' k1 mc1 => ?_)
    have := hk F' k1 mc1
    rw [fC_o h4 q, sDr_g h2' he, if_pos rfl] at this
    rw [fC_o h4 q]
    exact this
  · have q4 : cK g x2 = 4 := hkd.resolve_left q
    refine ck_i rfl (ck_i rfl (ck_i (jb_i h2 (by omega)) (cn_i (fun y => ?_) (fun y => ?_))))
    · refine ck_i rfl ?_
      refine m_262 hx hr hc hmc h1 h1' h2 h2' h3 h3' he hst hy e1 h4 h4' hkd lh.1 lh.2 (Or.inl rfl) (fun F' k1 mc1 => ?_)
      have := hk F' k1 mc1
      rw [fC_d h4 q, sDr_g h2' he, if_pos y] at this
      rw [fC_d h4 q]
      exact this
    · refine ck_i rfl ?_
      refine m_262 hx hr hc hmc h1 h1' h2 h2' h3 h3' he hst hy e1 h4 h4' hkd lh.1 lh.2 (Or.inr rfl) (fun F' k1 mc1 => ?_)
      have := hk F' k1 mc1
      rw [fC_d h4 q, sDr_g h2' he, if_neg y] at this
      rw [fC_d h4 q]
      exact this
theorem c_262 {k : FS → FI → FJ → Prop} {a b c d : Nat} {l : Nat → Int} {w : La} {g : Cf} {st h p n x1 x2 : Int} {S : FS} {F : FI} {G : FJ} (hx : YX S F G a b c d l w st) (hr : SR F c l w g) (hc : CV l st g) (hmc : MC (F 23) l w) (h1 : 0 ≤ p) (h1' : p < l 0) (h2 : 0 ≤ h) (h2' : h < l 3) (h3 : 1 ≤ n) (h3' : n ≤ st) (he : sEnd l h p n = 0)
    (hst : ST F d l st h p n) (hy : YS G d l g st h p n) (e1 : x1 = sp d h p n) (h4 : 0 ≤ x2) (h4' : x2 < l 2) (hkd : cK g x2 = 1 ∨ cK g x2 = 4)
    (hk : ∀ F', KB b F' F → MC (F' 23) l w → k S F' (u2 G (d + 1) (sp d h p n * 12 + (7 + x2)).toNat (fC l g st (l 3 - h).toNat (7 + x2) p n))) : calV 4 262 [.inr (.inr (.inl 22)), .inl x1, .inl x2] (mm S F G) k nof :=
  n_262 hx hr hc hmc h1 h1' h2 h2' h3 h3' he hst hy e1 h4 h4' hkd (fun F' k1 k2 => ⟨_, _, _, rfl, hk F' k1 k2⟩)
