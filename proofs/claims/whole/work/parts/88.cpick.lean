/-! ===== the class: rows filled, the move picked ===== -/
def yfl {α : Type} (f : Nat → Nat → α) (r n : Nat) (v : α) : Nat → Nat → α := fun a b => if a = r ∧ b < n then v else f a b
theorem yfl_o {α : Type} {f : Nat → Nat → α} {r n a : Nat} {v : α} (h : a ≠ r) : yfl f r n v a = f a := by
  funext b
  unfold yfl
  rw [if_neg (fun q => h q.1)]
theorem yfl_i {α : Type} {f : Nat → Nat → α} {r n b : Nat} {v : α} (h : b < n) : yfl f r n v r b = v := if_pos ⟨rfl, h⟩
theorem yfl_s {α : Type} {f : Nat → Nat → α} {r n : Nat} {v : α} : u2 (yfl f r n v) r n v = yfl f r (n + 1) v := by
  funext a b
  unfold u2 yfl
  by_cases q : a = r
  · by_cases p : b = n
    · rw [if_pos ⟨q, p⟩, if_pos ⟨q, by omega⟩]
    · rw [if_neg (fun z => p z.2)]
      by_cases y : b < n
      · rw [if_pos ⟨q, y⟩, if_pos ⟨q, by omega⟩]
      · rw [if_neg (fun z => y z.2), if_neg (fun z => by omega)]
  · rw [if_neg (fun z => q z.1), if_neg (fun z => q z.1), if_neg (fun z => q z.1)]
theorem yfl_0 {α : Type} {f : Nat → Nat → α} {r : Nat} {v : α} : yfl f r 0 v = f := by
  funext a b
  unfold yfl
  rw [if_neg (fun z => by omega)]
theorem l_343 {Q : Rs → Mm → Prop} {r n : Nat} {x1 x2 : Int} {S : FS} {F F0 : FI} {G : FJ} (hr : kk r = (1, n)) (hn : n < 100000) (h2 : 0 ≤ x2) (h2' : x2 ≤ n) (hF : F = yfl F0 r x2.toNat x1) (hk : Q (.inl none) (mm S (yfl F0 r n x1) G)) : wph 0 343 5 [.inr (.inr (.inl r)), .inl x1, .inl x2, .inl (n : Int)] [] (mm S F G) (0, 0) Q := by
  refine sg_343_5 ?_
  simp only [hr]
  refine cn_i (fun h => ?_) (fun h => ?_)
  · rw [wr_id (by omega) (by omega)]
    refine ck_i rfl (ck_i (jb_i h2 h) (l_343 hr hn (by omega) (by omega) ?_ hk))
    rw [hF, yfl_s, show (x2 + 1).toNat = x2.toNat + 1 by omega]
  · rw [hF, show x2.toNat = n by omega]
    exact hk
termination_by (n - x2).toNat
decreasing_by omega
theorem c_343 {k : FS → FI → FJ → Prop} {r n : Nat} {x1 : Int} {S : FS} {F : FI} {G : FJ} (hr : kk r = (1, n)) (hn : n < 100000) (hk : k S (yfl F r n x1) G) : calV 0 343 [.inr (.inr (.inl r)), .inl x1] (mm S F G) k nof := by
  refine sg_343_0 ?_
  simp only [hr]
  exact ck_i rfl (l_343 hr hn (by omega) (by omega) (by rw [show (0 : Int).toNat = 0 from rfl, yfl_0]) ⟨_, _, _, rfl, hk⟩)
theorem l_344 {Q : Rs → Mm → Prop} {r n : Nat} {y1 x3 : Int} {S : FS} {F : FI} {G G0 : FJ} (hr : kk r = (2, n)) (hn : n < 100000) (h2 : 0 ≤ x3) (h2' : x3 ≤ n) (hG : G = yfl G0 r x3.toNat y1) (hk : Q (.inl none) (mm S F (yfl G0 r n y1))) : wph 0 344 6 [.inr (.inr (.inl r)), .inr (.inl y1), jk, .inl x3, .inl (n : Int)] [] (mm S F G) (0, 0) Q := by
  refine sg_344_6 ?_
  simp only [hr]
  refine cn_i (fun h => ?_) (fun h => ?_)
  · rw [wr_id (by omega) (by omega)]
    refine ck_i rfl (ck_i (jb_i h2 h) (l_344 hr hn (by omega) (by omega) ?_ hk))
    rw [hG, yfl_s, show (x3 + 1).toNat = x3.toNat + 1 by omega]
  · rw [hG, show x3.toNat = n by omega]
    exact hk
termination_by (n - x3).toNat
decreasing_by omega
theorem c_344 {k : FS → FI → FJ → Prop} {r n : Nat} {y1 : Int} {S : FS} {F : FI} {G : FJ} (hr : kk r = (2, n)) (hn : n < 100000) (hk : k S F (yfl G r n y1)) : calV 0 344 [.inr (.inr (.inl r)), .inr (.inl y1)] (mm S F G) k nof := by
  refine sg_344_0 ?_
  simp only [hr]
  exact ck_i rfl (l_344 hr hn (by omega) (by omega) (by rw [show (0 : Int).toNat = 0 from rfl, yfl_0]) ⟨_, _, _, rfl, hk⟩)
/-- a scene as the class keeps it -/
def SR (F : FI) (e : Nat) (l : Nat → Int) (w : La) (c : Cf) : Prop := (∀ h : Int, 0 ≤ h → h < l 3 → F (e + 1) h.toNat = c.1 h) ∧ (∀ k : Int, 0 ≤ k → k < l 2 → F (e + 2) k.toNat = cK c k) ∧ (∀ h : Int, 0 ≤ h → h < l 3 → F (e + 3) h.toNat = c.2.2.1 h) ∧ c.2.2.2.1 = sMask l w (F e 5) ∧
  (c.2.2.2.2.1 ≠ -1 → (1 ≤ F e 6 ∧ F e 6 < 4096) ∧ ∀ k, 0 ≤ k → k < 12 → (bit (F e 6) k ↔ k = 2 + c.2.2.2.2.1 ∨ k = 2 + c.2.2.2.2.2.1))
theorem SR_c {F F' : FI} {e : Nat} {l : Nat → Int} {w : La} {c : Cf} (h : SR F e l w c) (hF : ∀ i, i < 4 → F' (e + i) = F (e + i)) : SR F' e l w c := by
  have h0 := hF 0 (by decide)
  rw [Nat.add_zero] at h0
  unfold SR at h ⊢
  rw [h0, hF 1 (by decide), hF 2 (by decide), hF 3 (by decide)]
  exact h
/-- where the moves of a state lead, the table tells what comes of it -/
def YS (G : FJ) (d : Nat) (l : Nat → Int) (g : Cf) (st h p n : Int) : Prop := ∀ q, (q = p ∨ ∃ m, AM l p m ∧ 1 ≤ m ∧ q = sOth l (m - 1) p) → ∀ o, YV l g o → G (d + 1) (sp d (h + 1) q (sAf l st q n) * 12 + o).toNat = fC l g st (l 3 - (h + 1)).toNat o q (sAf l st q n)
theorem YS_M {G : FJ} {d : Nat} {l : Nat → Int} {g : Cf} {st h p n cs M : Int} (hv : LV l) (hs : 0 ≤ st) (hst : st ≤ 12) (hc : CV l st g) (h1 : 0 ≤ h) (h2 : h < l 3) (h3 : 0 ≤ p) (h4 : p < l 0) (h5 : 1 ≤ n) (h6 : n ≤ st) (hy : YS G d l g st h p n) (hM : ∀ m, 0 ≤ m → bit M m → AM l p m) (ho : ∀ o, 0 ≤ o → o < 12 → bit cs o → YV l g o) :
    YM G d l st h p n (fC l g st (l 3 - (h + 1)).toNat) cs M := by
  have hv' := hv
  obtain ⟨⟨hv1, hv2⟩, ⟨hv3, hv4⟩, ⟨hv5, hv6⟩, ⟨hv7, hv8⟩, ⟨hv9, hv10⟩, ⟨hv11, hv12⟩, ⟨hv13, hv14⟩, hvw, hvs, hvk, hvc, hvx⟩ := id hv
  have one : ∀ q, 0 ≤ q → q < l 0 → (q = p ∨ ∃ m, AM l p m ∧ 1 ≤ m ∧ q = sOth l (m - 1) p) → YL G d l st h q n (fC l g st (l 3 - (h + 1)).toNat) cs := by
    intro q q0 q1 hq o o0 o1 ob
    have a := sAf_b (l := l) (st := st) (q := q) (n := n) hs hst h5 h6
    exact ⟨hy q hq o (ho o o0 o1 ob), fC_B hv hs hst hc (ho o o0 o1 ob) (by omega) q0 q1 a.1 a.2⟩
  refine ⟨hM, one p h3 h4 (Or.inl rfl), fun m m1 mb => ?_⟩
  have am := hM m (by omega) mb
  have ml : m ≤ l 1 := by
    unfold AM at am
    omega
  have ob := sOth_b (p := p) hv (w := m - 1) (by omega) (by omega)
  exact one _ ob.1 ob.2 (Or.inr ⟨m, am, m1, rfl⟩)
theorem fC_w {l : Nat → Int} {g : Cf} {st k : Int} {t : Nat} (h0 : 0 ≤ k) (h1 : k < 5) : fC l g st t (2 + k) = sW l g st t k := by
  funext q s
  unfold fC
  rw [if_neg (by omega), if_neg (by omega), if_pos (by omega), show 2 + k - 2 = k by omega]
theorem fC_o {l : Nat → Int} {g : Cf} {st k : Int} {t : Nat} (h0 : 0 ≤ k) (hk : cK g k = 1) : fC l g st t (7 + k) = sDr l st g.2.2.2.1 (fun _ => k) k t := by
  funext q s
  unfold fC
  rw [if_neg (by omega), if_neg (by omega), if_neg (by omega), show 7 + k - 7 = k by omega, if_pos hk]
theorem fC_d {l : Nat → Int} {g : Cf} {st k : Int} {t : Nat} (h0 : 0 ≤ k) (hk : cK g k ≠ 1) : fC l g st t (7 + k) = sDr l st g.2.2.2.1 g.1 k t := by
  funext q s
  unfold fC
  rw [if_neg (by omega), if_neg (by omega), if_neg (by omega), show 7 + k - 7 = k by omega, if_neg hk]
theorem bst_v1 {l : Nat → Int} {st h p n i M : Int} {f : Int → Int → Int → Int} {N : Nat} (h0 : 0 ≤ i) (h1 : i < 12) : bst (vE l st h p n f (shl 1 i) 1) M N = bst (fun m => sBr l st h p n m (f i)) M N := by
  refine bst_c (fun m _ _ _ => ?_)
  rw [vE_1 h0 h1, Int.one_mul]
theorem YV_w {l : Nat → Int} {g : Cf} {k o : Int} (h0 : 0 ≤ k) (h1 : k < l 2) (h5 : l 2 ≤ 5) (o0 : 0 ≤ o) (ob : bit (shl 1 (2 + k)) o) : YV l g o := by
  rw [(shl_1 (by omega) (by omega)).1, bit_p (by omega) o0] at ob
  exact ⟨o0, Or.inl (by omega)⟩
theorem YV_d {l : Nat → Int} {g : Cf} {k o : Int} (h0 : 0 ≤ k) (h1 : k < l 2) (h5 : l 2 ≤ 5) (hk : cK g k = 1 ∨ cK g k = 4) (o0 : 0 ≤ o) (ob : bit (shl 1 (7 + k)) o) : YV l g o := by
  rw [(shl_1 (by omega) (by omega)).1, bit_p (by omega) o0] at ob
  refine ⟨o0, Or.inr ⟨by omega, ?_⟩⟩
  rw [ob, show 7 + k - 7 = k by omega]
  exact hk
theorem c_263 {k : Int → FS → FI → FJ → Prop} {a b c d : Nat} {l : Nat → Int} {w : La} {g : Cf} {st h p n x1 x2 : Int} {S : FS} {F : FI} {G : FJ} (hx : YX S F G a b c d l w st) (hr : SR F c l w g) (hc : CV l st g) (hw : CW l g) (h1 : 0 ≤ p) (h1' : p < l 0) (h2 : 0 ≤ h) (h2' : h < l 3) (h3 : 1 ≤ n) (h3' : n ≤ st) (he : sEnd l h p n = 0)
    (hst : ST F d l st h p n) (hy : YS G d l g st h p n) (hvt : g.2.2.2.2.2.2 = 0) (e1 : x1 = g.1 h) (e2 : x2 = g.2.2.2.1 (g.1 h) h p n) (hk : ∀ F', KA 13 F' F → k (sTk l g st h p n) S F' G) : calI 4 263 [.inr (.inr (.inl 22)), .inl x1, .inl x2] (mm S F G) k nof := by
  obtain ⟨ha, hb, hc', hd, ⟨s0, s1, s2, s3⟩, hv, hw', hl, hrw, hst', htw, hs1, hs2⟩ := id hx
  have hv' := hv
  obtain ⟨⟨hv1, hv2⟩, ⟨hv3, hv4⟩, ⟨hv5, hv6⟩, ⟨hv7, hv8⟩, ⟨hv9, hv10⟩, ⟨hv11, hv12⟩, ⟨hv13, hv14⟩, hvw, hvs, hvk, hvc, hvx⟩ := id hv
  obtain ⟨r1, r2, r3, r4, r5⟩ := id hr
  have lh := hc.1 h h2 h2'
  rw [← e1] at lh
  have mbd := sMask_b l w (F c 5) x1 h p n hv4 hv3
  have em : x2 = sMask l w (F c 5) x1 h p n := by rw [e2, r4, e1]
  rw [← em] at mbd
  have hAM : ∀ m, 0 ≤ m → bit x2 m → AM l p m := fun m m0 mb => by
    rw [em] at mb
    exact AM_mask hv4 hv3 m0 mb
  have hkd := r2 x1 lh.1 lh.2
  have hpl := r3 h h2 h2'
  have hpb := hc.2.1 h h2 (by omega)
  have tk := sTk_g (c := g) (st := st) h2' he
  rw [← e2] at tk
  unfold sPick at tk
  rw [hvt, if_neg (show ¬ (0 : Int) = 1 by decide), ← e1] at tk
  have mg : ∀ cs : Int, (∀ o, 0 ≤ o → o < 12 → bit cs o → YV l g o) → YM G d l st h p n (fC l g st (l 3 - (h + 1)).toNat) cs x2 := fun cs ho => YS_M hv hs1 hs2 hc h2 h2' h1 h1' h3 h3' hy hAM ho
  refine sg_263_0 ?_
  obtain ⟨X, hX⟩ := Int.eq_ofNat_of_zero_le (show 0 ≤ x2 by omega)
  rw [hX]
  refine c_265 (by omega) (by omega) (fun j q ej => ?_)
  have lb := low_b ej
  rw [← hX] at lb ⊢
  have jl : (j : Int) ≤ l 1 := by
    have := hAM j (by omega) lb.1
    unfold AM at this
    omega
  have fst : bst (fun _ => 0) x2 (l 1 + 1).toNat = (j : Int) := bst_0 (by omega) (by omega) lb.1 (fun i i0 i1 => by
    obtain ⟨I, rfl⟩ := Int.eq_ofNat_of_zero_le i0
    exact lb.2 I (by omega))
  have e9 := hst.2.1
  simp only [s2, s0, ck_ hc', ck1 hc', ck2 hc', ck3 hc', cr0 hc', cr1 hc', cr2 hc', lk ha, e9, hkd, hpl]
  refine ck_i rfl (ck_i rfl (ck_i (jb_i h2 (by omega)) (ck_i rfl (ck_i rfl (ck_i (jb_i lh.1 (by omega)) ?_)))))
  have ckd : cK g x1 = if x1 = g.2.2.2.2.1 ∨ x1 = g.2.2.2.2.2.1 then 6 else g.2.1 x1 := by
    unfold cK
    rw [hvt, if_neg (by decide)]
  have kb := hw.1 x1 lh.1 lh.2
  by_cases pc : x1 = g.2.2.2.2.1 ∨ x1 = g.2.2.2.2.2.1
  · rw [if_pos pc] at ckd tk
    rw [ckd]
    have hp := hw.2
    have p1 : g.2.2.2.2.1 ≠ -1 := by omega
    obtain ⟨r5a, r5b⟩ := r5 p1
    have hp : (0 ≤ g.2.2.2.2.1 ∧ g.2.2.2.2.1 < l 2) ∧ (0 ≤ g.2.2.2.2.2.1 ∧ g.2.2.2.2.2.1 < l 2) ∧ g.2.2.2.2.1 ≠ g.2.2.2.2.2.1 := by omega
    refine cd_f (by decide) (cd_f (by decide) (cd_f (by decide) (cd_f (by decide) (cd_f (by decide) (cd_t rfl (ck_i rfl ?_))))))
    refine c_266 (f := fC l g st (l 3 - (h + 1)).toNat) hx h1 h1' h2 h2' h3 h3' hst mbd.1 mbd.2 r5a.1 r5a.2 (Or.inl rfl) (mg _ (fun o o0 o1 ob => ⟨o0, Or.inl (by have := (r5b o o0 o1).mp ob; omega)⟩)) (fun F' hF' => ⟨_, _, _, rfl, ?_⟩)
    have e : bst (vE l st h p n (fC l g st (l 3 - (h + 1)).toNat) (F c 6) 1) x2 (l 1 + 1).toNat = sTk l g st h p n := by
      rw [tk]
      refine bst_c (fun m m0 m1 _ => ?_)
      unfold vE
      rw [Int.one_mul, sSum_p (n := (l 2).toNat) hp.1.1 (by omega) hp.2.1.1 (by omega) hp.2.2 r5b (by omega)]
      exact sSum_c (fun k k0 k1 => ⟨Iff.rfl, by rw [show k + 2 = 2 + k by omega, fC_w k0 (by omega)]⟩)
    rw [e]
    exact hk F' hF'
  · rw [if_neg pc] at ckd tk
    rw [ckd]
    refine cn_i (fun z => ?_) (fun z1 => cn_i (fun z => ?_) (fun z2 => cn_i (fun z => ?_) (fun z3 => cn_i (fun z => ?_) (fun z4 => cn_i (fun z => ?_) (fun z5 => ?_)))))
    · rw [z, if_neg (by decide), if_pos rfl] at tk
      have cs := shl_1 (i := 7 + x1) (by omega) (by omega)
      rw [wr_id (by omega) (by omega)]
      refine c_266 (f := fC l g st (l 3 - (h + 1)).toNat) hx h1 h1' h2 h2' h3 h3' hst mbd.1 mbd.2 cs.2.1 cs.2.2 (Or.inl rfl) (mg _ (fun o o0 o1 ob => YV_d lh.1 lh.2 (by omega) (Or.inl (ckd.trans z)) o0 ob)) (fun F' hF' => ⟨_, _, _, rfl, ?_⟩)
      rw [bst_v1 (by omega) (by omega), fC_o lh.1 (ckd.trans z), ← tk]
      exact hk F' hF'
    · rw [z, if_neg (by decide), if_neg (by decide), if_pos rfl] at tk
      obtain ⟨N, hN⟩ := Int.eq_ofNat_of_zero_le (show 0 ≤ l 2 by omega)
      have kb := kb_0 N (by omega) (by omega)
      rw [hl.1.2.2.1, hN, kb.1]
      have bb : ∀ o : Int, 0 ≤ o → o < 12 → (bit (((2 ^ N - 1) * 4 : Nat) : Int) o ↔ 2 ≤ o ∧ o < 2 + (N : Int)) := fun o o0 o1 => by
        obtain ⟨O, rfl⟩ := Int.eq_ofNat_of_zero_le o0
        rw [bit_tb, kb.2.1 O (by omega)]
        omega
      refine ck_i rfl (c_266 (f := fC l g st (l 3 - (h + 1)).toNat) hx h1 h1' h2 h2' h3 h3' hst mbd.1 mbd.2 (by omega) (by omega) (Or.inl rfl) (mg _ (fun o o0 o1 ob => ⟨o0, Or.inl (by have := (bb o o0 o1).mp ob; omega)⟩)) (fun F' hF' => ⟨_, _, _, rfl, ?_⟩))
      have e : bst (vE l st h p n (fC l g st (l 3 - (h + 1)).toNat) (((2 ^ N - 1) * 4 : Nat) : Int) 1) x2 (l 1 + 1).toNat = sTk l g st h p n := by
        rw [tk]
        refine bst_c (fun m m0 m1 _ => ?_)
        unfold vE
        rw [Int.one_mul, sSum_s (n := N) bb (by omega), show (l 2).toNat = N by omega]
        exact sSum_c (fun k k0 k1 => ⟨Iff.rfl, by rw [show k + 2 = 2 + k by omega, fC_w k0 (by omega)]⟩)
      rw [e]
      exact hk F' hF'
    · rw [z, if_neg (by decide), if_neg (by decide), if_neg (by decide), if_pos rfl, fst] at tk
      have := hk F KA_r
      rw [tk] at this
      exact ⟨_, _, _, rfl, this⟩
    · rw [z, if_neg (by decide), if_neg (by decide), if_neg (by decide), if_neg (by decide), if_pos rfl] at tk
      have cs := shl_1 (i := 7 + x1) (by omega) (by omega)
      rw [wr_id (by omega) (by omega)]
      refine c_266 (f := fC l g st (l 3 - (h + 1)).toNat) hx h1 h1' h2 h2' h3 h3' hst mbd.1 mbd.2 cs.2.1 cs.2.2 (Or.inl rfl) (mg _ (fun o o0 o1 ob => YV_d lh.1 lh.2 (by omega) (Or.inr (ckd.trans z)) o0 ob)) (fun F' hF' => ⟨_, _, _, rfl, ?_⟩)
      rw [bst_v1 (by omega) (by omega), fC_d lh.1 (by rw [ckd, z]; decide), ← tk]
      exact hk F' hF'
    · rw [z, if_neg (by decide), if_neg (by decide), if_neg (by decide), if_neg (by decide), if_neg (by decide), fst] at tk
      refine cn_i (fun y => ?_) (fun y => ?_)
      · rw [bit_z (by omega) (by omega) (by omega) (by omega)] at y
        rw [if_neg y] at tk
        have := hk F KA_r
        rw [tk] at this
        exact ⟨_, _, _, rfl, this⟩
      · rw [bit_z (by omega) (by omega) (by omega) (by omega), Classical.not_not] at y
        rw [if_pos y] at tk
        have := hk F KA_r
        rw [tk] at this
        exact ⟨_, _, _, rfl, this⟩
    · have z : g.2.1 x1 = 0 := by omega
      rw [if_pos z] at tk
      refine cd_f (by omega) ?_
      have cs := shl_1 (i := 2 + x1) (by omega) (by omega)
      rw [wr_id (by omega) (by omega)]
      refine c_266 (f := fC l g st (l 3 - (h + 1)).toNat) hx h1 h1' h2 h2' h3 h3' hst mbd.1 mbd.2 cs.2.1 cs.2.2 (Or.inl rfl) (mg _ (fun o o0 o1 ob => YV_w lh.1 lh.2 (by omega) o0 ob)) (fun F' hF' => ⟨_, _, _, rfl, ?_⟩)
      rw [bst_v1 (by omega) (by omega), fC_w lh.1 (by omega), ← tk]
      exact hk F' hF'
