/-! ===== the class walks: rows judged, rows proved ===== -/
theorem sJg_1 {F : FI} {c : Nat} {k p n : Int} (he : sEnd (F 100) k p n ≠ 0) : sJg F (c + 1) k p n = 10 * k + 2 := if_pos he
theorem sJg_2 {F : FI} {c : Nat} {k p n : Int} (he : sEnd (F 100) k p n = 0) (hb : ¬ bit (mk0 F (sLd (F 100) (F 112) k) k p n) (F 112 (55 + k).toNat)) : sJg F (c + 1) k p n = 10 * k + 1 := by
  show (if _ then _ else _) = _
  rw [if_neg (fun q => q he), if_neg hb]
theorem sJg_3 {F : FI} {c : Nat} {k p n : Int} (he : sEnd (F 100) k p n = 0) (hb : bit (mk0 F (sLd (F 100) (F 112) k) k p n) (F 112 (55 + k).toNat)) : sJg F (c + 1) k p n = sJg F c (k + 1) (sTo1 (F 100) p (F 112 (55 + k).toNat)) (sAf (F 100) (F 100 4) (sTo1 (F 100) p (F 112 (55 + k).toNat)) n) := by
  show (if _ then _ else _) = _
  rw [if_neg (fun q => q he), if_pos hb]
theorem vs_to {l : Nat → Int} {st h p n m : Int} (hv : LV l) (hst : st ≤ 12) (hw : vs l st h p n) (he : sEnd l h p n = 0) (m0 : 0 ≤ m) (m1 : m ≤ l 1) : vs l st (h + 1) (sTo1 l p m) (sAf l st (sTo1 l p m) n) := by
  obtain ⟨w1, w2, w3, w4, w5, w6⟩ := hw
  have c := sEnd_n he
  have tb := sTo1_b hv w3 w4 m0 m1
  have ab := sAf_b (l := l) (st := st) (q := sTo1 l p m) (n := n) (by omega) hst (by omega) w6
  exact ⟨by omega, by omega, tb.1, tb.2, ab.1, ab.2⟩
theorem l_290 {Q : Rs → Mm → Prop} {a b : Nat} {F0 : FI} {x3 x4 x5 : Int} {S S0 : FS} {F Fz : FI} {G Gz : FJ} (hk0 : YK S F G a b (F0 100) (F0 112) (mL F0)) (hq : QC S0 S Fz F Gz G) (hw : vs (F0 100) (F0 100 4) x5 x3 x4) (h5 : x5 ≤ F0 112 54)
    (hk : ∀ F', YK S F' G a b (F0 100) (F0 112) (mL F0) → QC S0 S Fz F' Gz G → Q (.inl (some (.inl (sJg F0 (F0 112 54 - x5).toNat x5 x3 x4)))) (mm S F' G)) :
    wph 4 290 22 [.inr (.inr (.inl 26)), .inr (.inr (.inl 31)), .inr (.inr (.inl a)), .inl x3, .inl x4, .inl x5] [] (mm S F G) (0, 0) Q := by
  have hp : oP 31 := Or.inl rfl
  obtain ⟨ha, hb, ⟨k1, k2, k3, k4⟩, hv, hs, hlw, hl, hrw, hpr, -⟩ := id hk0
  have hv' := hv
  obtain ⟨⟨hv1, hv2⟩, ⟨hv3, hv4⟩, ⟨hv5, hv6⟩, ⟨hv7, hv8⟩, ⟨hv9, hv10⟩, ⟨hv11, hv12⟩, ⟨hv13, hv14⟩, hvw, hvs, hvk, hvc, hvx⟩ := id hv
  obtain ⟨w1, w2, w3, w4, w5, w6⟩ := id hw
  have s54 := hs.2.2.2.2.1
  refine sg_290_22 ?_
  simp only [lk ha, lk1 ha, lk2 ha, lk3 ha, lk4 ha, lk5 ha, lk6 ha, lk7 ha, lk8 ha, lk9 ha, lr0 ha, lr1 ha, lr2 ha, lr3 ha, lr4 ha, lr5 ha, lr6 ha, lr7 ha, lr8 ha, pk_ hp, pk1 hp, pk2 hp, pk3 hp, pk4 hp, pk5 hp, pk6 hp, pk7 hp, pr0 hp, pr1 hp, pr2 hp, pr3 hp, pr4 hp, pr5 hp, pr6 hp, hpr.2.2.2.2.1, hl.1.2.2.2.1]
  refine ck_i rfl (cn_i (fun z => ?_) (fun z => ?_))
  · have en : (F0 112 54 - x5).toNat = (F0 112 54 - (x5 + 1)).toNat + 1 := by omega
    rw [en] at hk
    refine ck_i rfl (cd_f (by omega) (c_285 hk0 w3 w4 w1 w2 w5 (by omega) (fun F' f1 f2 f3 => ?_)))
    have kk0 := hk F' f2 (QC_t hq f3)
    rw [wr_id (a := 10 * x5) (by omega) (by omega), wr_id (a := 10 * x5 + 2) (by omega) (by omega), wr_id (a := 10 * x5 + 1) (by omega) (by omega), wr_id (a := x5 + 1) (by omega) (by omega)]
    by_cases he : sEnd (F0 100) x5 x3 x4 = 0
    · obtain ⟨m1, m2, m3⟩ := sNw_M (s := F0 112) (w := mL F0) hv he
      have eb : sNw (F0 100) (F0 112) (mL F0) x3 x5 x4 = mk0 F0 (sLd (F0 100) (F0 112) x5) x5 x3 x4 := if_pos he
      have p6 := f2.2.2.2.2.2.2.2.2.1.2.2.2.2.2.1 x5 w1 z
      have sr := hs.2.2.2.2.2 x5 w1 z
      simp only [show (31 : Nat) + 4 = 35 from rfl] at p6 ⊢
      rw [p6]
      refine cd_f (by omega) (ck_i rfl (ck_i rfl (ck_i (jb_i w1 (by omega)) (cn_i (fun z2 => ?_) (fun z2 => ?_)))))
      · have nb := (bit_z (by omega) (by omega) sr.1 (by omega)).mp z2
        rw [eb] at nb
        rw [sJg_2 he nb] at kk0
        exact kk0
      · have hb1 : bit (sNw (F0 100) (F0 112) (mL F0) x3 x5 x4) (F0 112 (55 + x5).toNat) := Classical.byContradiction (fun q => z2 ((bit_z (by omega) (by omega) sr.1 (by omega)).mpr q))
        have am := m3 _ sr.1 hb1
        have vt := vs_to hv (by omega) hw he sr.1 sr.2
        have hl' := f2.2.2.2.2.2.2.1
        refine ck_i rfl (ck_i rfl (ck_i (jb_i w1 (by omega)) (c_286 ha hl' k3 hv w3 w4 am ?_)))
        simp only [hl'.1.2.2.2.2.1]
        refine ck_i rfl (ck_i rfl (c_207 ha hl' hv2 vt.2.2.1 vt.2.2.2.1 (by omega) (by omega) (fun v ev => ?_)))
        subst ev
        rw [eb] at hb1
        refine l_290 f2 (QC_t hq f3) vt (by omega) (fun F'' g1 g2 => ?_)
        have := hk F'' g1 g2
        rw [sJg_3 he hb1] at this
        exact this
    · have e0 : sNw (F0 100) (F0 112) (mL F0) x3 x5 x4 = 0 := if_neg he
      rw [sJg_1 he] at kk0
      exact cd_t e0 kk0
  · have := hk F hk0 hq
    rw [show (F0 112 54 - x5).toNat = 0 by omega] at this
    exact this
termination_by (F0 112 54 - x5).toNat
decreasing_by all_goals omega
theorem p_24 {k : Int → FS → FI → FJ → Prop} {kx : Nat → FS → FI → FJ → Prop} {a b : Nat} {l s : Nat → Int} {w : La} {F0 : FI} {S : FS} {F : FI} {G : FJ} (hR : F0 100 = l ∧ F0 112 = s ∧ mL F0 = w) (hL : hasL S F a) (hK : 1 ≤ F a 9 → YK S F G a b l s w) (noL : F a 9 < 1 → kx 3 S (rfc F 3) G)
    (ok : 1 ≤ F a 9 → ∀ S' F' G', YK S' F' G' a b l s w → QC S S' F F' G G' → k (sJg F0 (s 54).toNat 0 (l 6) (l 4)) S' F' G') : calI 5 24 [.inr (.inr (.inl 1))] (mm S F G) k kx := by
  obtain ⟨rfl, rfl, rfl⟩ := hR
  refine sg_24_0 (c_51 hL.1 hL.2 (fun q => ?_) (fun q => ex_3 ⟨_, _, _, rfl, noL q⟩))
  have hk0 := hK q
  obtain ⟨ha, hb, ⟨k1, k2, k3, k4⟩, hv, hs, hw, hl, hrw, hpr, -⟩ := id hk0
  have hv' := hv
  obtain ⟨⟨hv1, hv2⟩, ⟨hv3, hv4⟩, ⟨hv5, hv6⟩, ⟨hv7, hv8⟩, ⟨hv9, hv10⟩, ⟨hv11, hv12⟩, ⟨hv13, hv14⟩, hvw, hvs, hvk, hvc, hvx⟩ := id hv
  have s54 := hs.2.2.2.2.1
  refine sg_290_0 ?_
  simp only [k3, lk ha, lk1 ha, lk2 ha, lk3 ha, lk4 ha, lk5 ha, lk6 ha, lk7 ha, lk8 ha, lk9 ha, lr0 ha, lr1 ha, lr2 ha, lr3 ha, lr4 ha, lr5 ha, lr6 ha, lr7 ha, lr8 ha, hl.1.2.2.2.2.1, hl.1.2.2.2.2.2.2]
  refine ck_i rfl (ck_i rfl (l_290 hk0 QC_r ⟨by omega, by omega, hv13, hv14, by omega, by omega⟩ s54.1 (fun F' y1 y2 => ⟨_, _, _, rfl, _, _, _, rfl, ?_⟩)))
  have := ok q S F' G y1 y2
  rw [show (F0 112 54 - 0).toNat = (F0 112 54).toNat by omega]
  exact this
/-! ===== proved ===== -/
def KG (b : Nat) (F F0 : FI) : Prop := (∀ c, c ≠ 22 → c ≠ 23 → c ≠ b + 4 → c ≠ b + 5 → F c = F0 c) ∧ ∀ j, j < 8 → F 22 j = F0 22 j
theorem KG_r {b : Nat} {F : FI} : KG b F F := ⟨fun _ _ _ _ _ => rfl, fun _ _ => rfl⟩
theorem KG_l {b : Nat} {F F1 F2 : FI} (hb : oW b) (h1 : KG b F1 F) (h2 : KL b F2 F1) : KG b F2 F := ⟨fun c a1 a2 a3 a4 => (h2 c a2 a3 a4).trans (h1.1 c a1 a2 a3 a4), fun j hj => by rw [h2 22 (by decide) (by omega) (by omega)]; exact h1.2 j hj⟩
theorem KG_a {b i : Nat} {F F1 F2 : FI} (h1 : KG b F1 F) (h2 : KA i F2 F1) (hi : 8 ≤ i) : KG b F2 F := ⟨fun c a1 a2 a3 a4 => (h2.1 c a1).trans (h1.1 c a1 a2 a3 a4), fun j hj => (h2.2 j (by omega)).trans (h1.2 j hj)⟩
theorem YK_G {S : FS} {F F' : FI} {G : FJ} {a b : Nat} {l s : Nat → Int} {w : La} (h : YK S F G a b l s w) (hF : KG b F' F) (hm : MC (F' 23) l w) : YK S F' G a b l s w ∧ QC S S F F' G G := by
  obtain ⟨ha, hb, -, -, -, -, -, -, -, v1, v2, v3, v4, v5, v6⟩ := id h
  have o1 : ∀ c, c ≠ 22 → c ≠ 23 → ¬ (61 ≤ c) → F' c = F c := fun c h1 h2 h3 => hF.1 c h1 h2 (by omega) (by omega)
  have q : QC S S F F' G G := ⟨fun c hc => hF.1 c (by unfold kpC at hc; omega) (by unfold kpC at hc; omega) (by unfold kpC at hc; omega) (by unfold kpC at hc; omega), fun i _ => by rw [o1 1 (by decide) (by decide) (by decide)], fun _ _ => rfl, fun _ _ _ => rfl⟩
  refine ⟨YK_q h q ⟨hm, ?_, ?_, ?_, ?_, fun z => ?_⟩, q⟩
  · unfold RK
    rw [hF.2 6 (by decide), o1 24 (by decide) (by decide) (by decide)]
    exact v2
  · rw [o1 16 (by decide) (by decide) (by decide)]; exact v3
  · rw [o1 19 (by decide) (by decide) (by decide)]; exact v4
  · rw [o1 1 (by decide) (by decide) (by decide)]; exact v5
  · rw [o1 1 (by decide) (by decide) (by decide)] at z
    have := v6 z
    unfold SOL at this ⊢
    rw [o1 7 (by decide) (by decide) (by decide), o1 6 (by decide) (by decide) (by decide), o1 18 (by decide) (by decide) (by decide)]
    exact this
theorem YK_X {S : FS} {F : FI} {G : FJ} {a b c d : Nat} {l s : Nat → Int} {w : La} (h : YK S F G a b l s w) (hc : oC c) (hd : oT d) (s2 : S 22 2 = c) (s3 : S 22 3 = d) (h4 : F c 4 = l 4) : YX S F G a b c d l w (l 4) := by
  obtain ⟨ha, hb, ⟨k1, k2, k3, k4⟩, hv, h2, h3, h4', h5, h6, v1, v2, v3, v4, v5, v6⟩ := h
  have hv' := hv
  obtain ⟨⟨hv1, hv2⟩, ⟨hv3, hv4⟩, ⟨hv5, hv6⟩, ⟨hv7, hv8⟩, ⟨hv9, hv10⟩, ⟨hv11, hv12⟩, ⟨hv13, hv14⟩, hvw, hvs, hvk, hvc, hvx⟩ := id hv
  refine ⟨ha, hb, hc, hd, ⟨k3, k4, s2, s3⟩, hv', h3, h4', h5, h4, ?_, by omega, by omega⟩
  rcases hd with e | e
  · rw [e]; exact v3
  · rw [e]; exact v4
theorem GS_YS {G : FJ} {d : Nat} {l : Nat → Int} {g : Cf} {st h p n : Int} (hv : LV l) (hs : 0 ≤ st) (hst : st ≤ 12) (hw : vs l st h p n) (he : sEnd l h p n = 0) (hG : ∀ h p n, vs l st h p n → GS G d l g st h p n) : YS G d l g st h p n := by
  obtain ⟨w1, w2, w3, w4, w5, w6⟩ := id hw
  have ce := sEnd_n he
  intro q hq o ho
  have qb : 0 ≤ q ∧ q < l 0 := by
    rcases hq with e | ⟨m, am, m1, e⟩
    · rw [e]; exact ⟨w3, w4⟩
    · rw [e]
      unfold AM at am
      exact sOth_b hv (by omega) (by omega)
  have ab := sAf_b (l := l) (st := st) (q := q) (n := n) hs hst (by omega) w6
  exact hG (h + 1) q _ ⟨by omega, by omega, qb.1, qb.2, ab.1, ab.2⟩ o ho
/-- the scene of one who leads alone -/
noncomputable abbrev gL (F0 : FI) (k : Int) : Cf := (fun _ => k, fun x => if x = k then 0 else F0 112 x.toNat, (sCf (F0 100) (F0 112) (mL F0)).2.2)
theorem gL_w {F0 : FI} {k h : Int} (h0 : 0 ≤ k) (k5 : k < 5) (h1 : 0 ≤ h) (h2 : h < F0 100 3) : fC (F0 100) (gL F0 k) (F0 100 4) (F0 100 3 - (h + 1)).toNat (2 + k) = sDr (F0 100) (F0 100 4) (mk0 F0) (fun _ => k) k (F0 100 3 - (h + 1)).toNat := by
  rw [fC_w h0 k5, alone_W (fun _ _ _ => rfl) (if_pos rfl) rfl h0 _ (by omega)]
  rfl
theorem t_291 {Q : Rs → Mm → Prop} {a b : Nat} {F0 : FI} {x1 p n h M cs m : Int} {S S0 : FS} {F Fz : FI} {G Gz : FJ} (hk0 : YK S F G a b (F0 100) (F0 112) (mL F0)) (hq : QC S0 S Fz F Gz G) (s2 : S 22 2 = 11) (s3 : S 22 3 = 16) (h4 : F 11 4 = F0 100 4) (k0 : 0 ≤ x1) (k1 : x1 < F0 100 2)
    (hG : ∀ h p n, vs (F0 100) (F0 100 4) h p n → GS G 16 (F0 100) (gL F0 x1) (F0 100 4) h p n) (hw : vs (F0 100) (F0 100 4) h p n) (he : sEnd (F0 100) h p n = 0) (eM : M = mk0 F0 x1 h p n) (ec : cs = shl 1 (2 + x1)) (em : m = sRw F0 x1 h p n) (m0 : 0 ≤ m) (m1 : m ≤ F0 100 1) (hA : AM (F0 100) p m)
    (hk : ∀ F', YK S F' G a b (F0 100) (F0 112) (mL F0) → QC S0 S Fz F' Gz G → F' 11 4 = F0 100 4 → sPv F0 x1 h p n m < sPv F0 x1 h p n (sPb F0 x1 h p n) → Q (.inl (some (.inl h))) (mm S F' G))
    (hr : ∀ F', YK S F' G a b (F0 100) (F0 112) (mL F0) → QC S0 S Fz F' Gz G → F' 11 4 = F0 100 4 → ¬ sPv F0 x1 h p n m < sPv F0 x1 h p n (sPb F0 x1 h p n) → wph 4 291 30 [.inr (.inr (.inl 26)), .inr (.inr (.inl 31)), .inl x1, .inr (.inr (.inl a)), .inl cs, .inl (sTo1 (F0 100) p m), .inl (sAf (F0 100) (F0 100 4) (sTo1 (F0 100) p m) n), .inl (h + 1)] [] (mm S F' G) (0, 0) Q) :
    calV 1 267 [.inr (.inr (.inl 22)), .inl p, .inl h, .inl n] (mm S F G) (fun S3 F3 G3 => calI 3 266 [.inr (.inr (.inl 22)), .inl M, .inl cs, .inl 1] (mm S3 F3 G3) (fun v4 S4 F4 G4 => calV 1 268 [.inr (.inr (.inl 22)), .inl v4] (mm S4 F4 G4) (fun S5 F5 G5 => calL 2 269 [.inr (.inr (.inl 22)), .inl cs] (mm S5 F5 G5) (fun v6 S6 F6 G6 => calV 1 268 [.inr (.inr (.inl 22)), .inl m] (mm S6 F6 G6) (fun S7 F7 G7 => calL 2 269 [.inr (.inr (.inl 22)), .inl cs] (mm S7 F7 G7) (fun v8 S8 F8 G8 => cnd (decide (0 < (lc v6 v8))) (Q (.inl (some (.inl h))) (mm S8 F8 G8)) (calI 0 286 [.inr (.inr (.inl 26)), .inl p, .inl m] (mm S8 F8 G8) (fun v9 S9 F9 G9 => chk (kq (0, 0) 0 0) (chk (kq (0, 0) 0 0) (calI 0 207 [.inr (.inr (.inl a)), .inl v9, .inl n, .inl (F9 a 13)] (mm S9 F9 G9) (fun v10 S10 F10 G10 => wph 4 291 30 [.inr (.inr (.inl 26)), .inr (.inr (.inl 31)), .inl x1, .inr (.inr (.inl a)), .inl cs, .inl v9, .inl v10, .inl (wr (h + 1))] [] (mm S10 F10 G10) (0, 0) Q) nof))) nof)) nof) nof) nof) nof) nof) nof := by
  obtain ⟨ha, hb, ⟨k1', k2, k3, k4⟩, hv, hs, hlw, hl, hrw, hpr, hVC⟩ := id hk0
  have hv' := hv
  obtain ⟨⟨hv1, hv2⟩, ⟨hv3, hv4⟩, ⟨hv5, hv6⟩, ⟨hv7, hv8⟩, ⟨hv9, hv10⟩, ⟨hv11, hv12⟩, ⟨hv13, hv14⟩, hvw, hvs, hvk, hvc, hvx⟩ := id hv
  obtain ⟨w1, w2, w3, w4, w5, w6⟩ := id hw
  have ce := sEnd_n he
  have cv := (lone_v (s := F0 112) (w := mL F0) hv hs k0 k1).1
  have mm0 := sMask_b (F0 100) (mL F0) (-1) x1 h p n hv4 hv3
  have eM' : M = sMask (F0 100) (mL F0) (-1) x1 h p n := eM
  rw [← eM'] at mm0
  have hM : ∀ m, 0 ≤ m → bit M m → AM (F0 100) p m := fun m m0 mb => by
    rw [eM'] at mb
    exact AM_mask hv4 hv3 m0 mb
  have sb := shl_1 (i := 2 + x1) (by omega) (by omega)
  rw [← ec] at sb
  have hx := YK_X hk0 (Or.inr rfl) (Or.inl rfl) s2 s3 h4
  have ys := GS_YS hv (by omega) (by omega) hw he hG
  have ym := YS_M (cs := cs) (M := M) hv (by omega) (by omega) cv w1 (by omega) w3 w4 (by omega) w6 ys hM (fun o o0 _ ob => by
    rw [ec] at ob
    exact YV_w k0 k1 hv6 o0 ob)
  have fw := gL_w (F0 := F0) k0 (by omega) w1 (by omega)
  have one : ∀ m, sSum (bit cs) (fun c => sBr (F0 100) (F0 100 4) h p n m (fC (F0 100) (gL F0 x1) (F0 100 4) (F0 100 3 - (h + 1)).toNat c)) 12 = sPv F0 x1 h p n m := fun m => by
    rw [sSum_1 (g := fun c => sBr (F0 100) (F0 100 4) h p n m (fC (F0 100) (gL F0 x1) (F0 100 4) (F0 100 3 - (h + 1)).toNat c)) (i := 2 + x1) (by omega) (by omega) (fun k a b => by rw [sb.1]; exact bit_p (by omega) a), fw]
    rfl
  have eb : bst (vE (F0 100) (F0 100 4) h p n (fC (F0 100) (gL F0 x1) (F0 100 4) (F0 100 3 - (h + 1)).toNat) cs 1) M (F0 100 1 + 1).toNat = sPb F0 x1 h p n := by
    rw [ec, bst_v1 (by omega) (by omega), fw, eM]
    rfl
  have bi := MK_mask hv (F0 100 4) (mL F0) (-1) x1 h p n k0 k1 w1 (by omega) w3 w4 w5 w6 he
  have bn := bst_in (v := fun m => sPv F0 x1 h p n m) hv3 bi.2.2
  have bq : bst (fun m => sPv F0 x1 h p n m) (sMask (F0 100) (mL F0) (-1) x1 h p n) (F0 100 1 + 1).toNat = sPb F0 x1 h p n := rfl
  rw [bq, ← eM'] at bn
  have yl : ∀ m, 0 ≤ m → AM (F0 100) p m → ∀ q, (q = p ∨ 1 ≤ m ∧ q = sOth (F0 100) (m - 1) p) → YL G 16 (F0 100) (F0 100 4) h q n (fC (F0 100) (gL F0 x1) (F0 100 4) (F0 100 3 - (h + 1)).toNat) cs := by
    intro m m0 am q hq
    rcases hq with e | ⟨m1, e⟩
    · rw [e]; exact ym.2.1
    · intro o o0 o1 ob
      have obd := sOth_b (p := p) hv (w := m - 1) (by unfold AM at am; omega) (by unfold AM at am; omega)
      have yo : YV (F0 100) (gL F0 x1) o := by
        rw [ec] at ob
        exact YV_w k0 k1 hv6 o0 ob
      rw [← e] at obd
      have abq := sAf_b (l := F0 100) (st := F0 100 4) (q := q) (n := n) (by omega) (by omega) (by omega) w6
      exact ⟨ys q (Or.inr ⟨m, am, m1, e⟩) o yo, fC_B hv (by omega) (by omega) cv yo (by omega) obd.1 obd.2 abq.1 abq.2⟩
  refine c_267 hx w3 w4 w1 (by omega) (by omega) w6 (fun F3 f3 st3 => ?_)
  have hx3 := YX_a hx f3
  refine c_266 hx3 w3 w4 w1 (by omega) (by omega) w6 st3 (by omega) (by omega) sb.2.1 sb.2.2 (Or.inl rfl) ym (fun F4 f4 => ?_)
  rw [eb]
  have hx4 := YX_a hx3 f4
  have st4 : ST F4 16 (F0 100) (F0 100 4) h p n := by
    unfold ST at st3 ⊢
    rw [f4.2 8 (by decide), f4.2 9 (by decide), f4.2 10 (by decide), f4.2 11 (by decide), f4.2 12 (by decide)]
    exact st3
  refine c_268 hx4 w3 w4 w1 (by omega) (by omega) w6 st4 (hM _ bn.1 bn.2.2) (fun F5 f5 ai5 => ?_)
  have hx5 := YX_a hx4 f5
  refine c_269 hx5 w3 w4 w1 (by omega) (by omega) w6 ai5 bn.2.1 sb.2.1 sb.2.2 (yl _ bn.1 (hM _ bn.1 bn.2.2)) (fun v6 e6 => ?_)
  have st5 : ST F5 16 (F0 100) (F0 100 4) h p n := by
    unfold ST at st4 ⊢
    rw [f5.2 8 (by decide), f5.2 9 (by decide), f5.2 10 (by decide), f5.2 11 (by decide), f5.2 12 (by decide)]
    exact st4
  refine c_268 hx5 w3 w4 w1 (by omega) (by omega) w6 st5 hA (fun F7 f7 ai7 => ?_)
  have hx7 := YX_a hx5 f7
  refine c_269 hx7 w3 w4 w1 (by omega) (by omega) w6 ai7 m1 sb.2.1 sb.2.2 (yl _ m0 hA) (fun v8 e8 => ?_)
  rw [one] at e6 e8
  have kg := KG_a (b := b) (KG_a (KG_a (KG_a KG_r f3 (by decide)) f4 (by decide)) f5 (by decide)) f7 (by decide)
  have mc : MC (F7 23) (F0 100) (mL F0) := by
    rw [f7.1 23 (by decide), f5.1 23 (by decide), f4.1 23 (by decide), f3.1 23 (by decide)]
    exact hVC.1
  obtain ⟨y1, y2⟩ := YK_G hk0 kg mc
  have e11 : F7 11 4 = F0 100 4 := by
    rw [f7.1 11 (by decide), f5.1 11 (by decide), f4.1 11 (by decide), f3.1 11 (by decide)]
    exact h4
  refine cn_i (fun z => ?_) (fun z => ?_)
  · refine hk F7 y1 (QC_t hq y2) e11 ?_
    rw [← e6, ← e8]
    exact lc_p.mp z
  · have hl7 := y1.2.2.2.2.2.2.1
    have tb := sTo1_b hv w3 w4 m0 m1
    refine c_286 ha hl7 k3 hv w3 w4 hA ?_
    rw [hl7.1.2.2.2.2.1, wr_id (a := h + 1) (by omega) (by omega)]
    refine ck_i rfl (ck_i rfl (c_207 ha hl7 hv2 tb.1 tb.2 (by omega) (by omega) (fun v ev => ?_)))
    subst ev
    refine hr F7 y1 (QC_t hq y2) e11 ?_
    rw [← e6, ← e8]
    exact fun q => z (lc_p.mpr q)
theorem sPr_0 {F : FI} {k h p n : Int} {c : Nat} (he : sEnd (F 100) h p n ≠ 0) : sPr F k (c + 1) h p n = -1 := if_pos he
theorem sPr_1 {F : FI} {k h p n : Int} {c : Nat} (he : sEnd (F 100) h p n = 0) (hh : sPv F k h p n (sRw F k h p n) < sPv F k h p n (sPb F k h p n)) : sPr F k (c + 1) h p n = h := by
  show (if _ then _ else _) = _
  rw [if_neg (fun q => q he), if_pos hh]
theorem sPr_2 {F : FI} {k h p n : Int} {c : Nat} (he : sEnd (F 100) h p n = 0) (hh : ¬ sPv F k h p n (sRw F k h p n) < sPv F k h p n (sPb F k h p n)) : sPr F k (c + 1) h p n = sPr F k c (h + 1) (sTo1 (F 100) p (sRw F k h p n)) (sAf (F 100) (F 100 4) (sTo1 (F 100) p (sRw F k h p n)) n) := by
  show (if _ then _ else _) = _
  rw [if_neg (fun q => q he), if_neg hh]
theorem l_291 {Q : Rs → Mm → Prop} {a b : Nat} {F0 : FI} {x1 p n h cs : Int} {S S0 : FS} {F Fz : FI} {G Gz : FJ} (hk0 : YK S F G a b (F0 100) (F0 112) (mL F0)) (hq : QC S0 S Fz F Gz G) (s2 : S 22 2 = 11) (s3 : S 22 3 = 16) (h4 : F 11 4 = F0 100 4) (k0 : 0 ≤ x1) (k1 : x1 < F0 100 2) (ec : cs = shl 1 (2 + x1))
    (hG : ∀ h p n, vs (F0 100) (F0 100 4) h p n → GS G 16 (F0 100) (gL F0 x1) (F0 100 4) h p n) (hw : vs (F0 100) (F0 100 4) h p n)
    (hk : ∀ F', YK S F' G a b (F0 100) (F0 112) (mL F0) → QC S0 S Fz F' Gz G → Q (.inl (some (.inl (sPr F0 x1 (F0 100 3 + 1 - h).toNat h p n)))) (mm S F' G)) :
    wph 4 291 30 [.inr (.inr (.inl 26)), .inr (.inr (.inl 31)), .inl x1, .inr (.inr (.inl a)), .inl cs, .inl p, .inl n, .inl h] [] (mm S F G) (0, 0) Q := by
  have hp : oP 31 := Or.inl rfl
  obtain ⟨ha, hb, ⟨k1', k2, k3, k4⟩, hv, hs, hlw, hl, hrw, hpr, hVC⟩ := id hk0
  have hv' := hv
  obtain ⟨⟨hv1, hv2⟩, ⟨hv3, hv4⟩, ⟨hv5, hv6⟩, ⟨hv7, hv8⟩, ⟨hv9, hv10⟩, ⟨hv11, hv12⟩, ⟨hv13, hv14⟩, hvw, hvs, hvk, hvc, hvx⟩ := id hv
  obtain ⟨w1, w2, w3, w4, w5, w6⟩ := id hw
  have s54 := hs.2.2.2.2.1
  have en : (F0 100 3 + 1 - h).toNat = (F0 100 3 + 1 - (h + 1)).toNat + 1 := by omega
  refine sg_291_30 ?_
  simp only [lk ha, lk1 ha, lk2 ha, lk3 ha, lk4 ha, lk5 ha, lk6 ha, lk7 ha, lk8 ha, lk9 ha, lr0 ha, lr1 ha, lr2 ha, lr3 ha, lr4 ha, lr5 ha, lr6 ha, lr7 ha, lr8 ha, pk_ hp, pk1 hp, pk2 hp, pk3 hp, pk4 hp, pk5 hp, pk6 hp, pk7 hp, pr0 hp, pr1 hp, pr2 hp, pr3 hp, pr4 hp, pr5 hp, pr6 hp, hl.1.2.2.2.1]
  refine ck_i rfl (cn_i (fun z => ck_i rfl (c_208 ha hl hv2 w3 w4 w2 (fun v ev => ?_))) (fun z => ?_))
  · subst ev
    refine cn_i (fun he => ?_) (fun he => ?_)
    · have mm0 := sMask_b (F0 100) (mL F0) (-1) x1 h p n hv4 hv3
      refine c_256 ha hb k3 k4 hv hlw hl hrw hVC.1 k0 (by omega) w3 w4 w1 z w5 (by omega) (fun F2 f2 mc2 => ?_)
      obtain ⟨y1, y2⟩ := YK_L hk0 f2 mc2
      have hpr2 := y1.2.2.2.2.2.2.2.2.1
      have e11 : F2 11 4 = F0 100 4 := by
        rw [f2 11 (by decide) (by omega) (by omega)]
        exact h4
      have bi := MK_mask hv (F0 100 4) (mL F0) (-1) x1 h p n k0 k1 w1 (by omega) w3 w4 w5 w6 he
      have fin : ∀ m, m = sRw F0 x1 h p n → 0 ≤ m → m ≤ F0 100 1 → AM (F0 100) p m → calV 1 267 [.inr (.inr (.inl 22)), .inl p, .inl h, .inl n] (mm S F2 G) (fun S3 F3 G3 => calI 3 266 [.inr (.inr (.inl 22)), .inl (sMask (F0 100) (mL F0) (-1) x1 h p n), .inl cs, .inl 1] (mm S3 F3 G3) (fun v4 S4 F4 G4 => calV 1 268 [.inr (.inr (.inl 22)), .inl v4] (mm S4 F4 G4) (fun S5 F5 G5 => calL 2 269 [.inr (.inr (.inl 22)), .inl cs] (mm S5 F5 G5) (fun v6 S6 F6 G6 => calV 1 268 [.inr (.inr (.inl 22)), .inl m] (mm S6 F6 G6) (fun S7 F7 G7 => calL 2 269 [.inr (.inr (.inl 22)), .inl cs] (mm S7 F7 G7) (fun v8 S8 F8 G8 => cnd (decide (0 < (lc v6 v8))) (Q (.inl (some (.inl h))) (mm S8 F8 G8)) (calI 0 286 [.inr (.inr (.inl 26)), .inl p, .inl m] (mm S8 F8 G8) (fun v9 S9 F9 G9 => chk (kq (0, 0) 0 0) (chk (kq (0, 0) 0 0) (calI 0 207 [.inr (.inr (.inl a)), .inl v9, .inl n, .inl (F9 a 13)] (mm S9 F9 G9) (fun v10 S10 F10 G10 => wph 4 291 30 [.inr (.inr (.inl 26)), .inr (.inr (.inl 31)), .inl x1, .inr (.inr (.inl a)), .inl cs, .inl v9, .inl v10, .inl (wr (h + 1))] [] (mm S10 F10 G10) (0, 0) Q) nof))) nof)) nof) nof) nof) nof) nof) nof := by
        intro m em m0 m1 am
        refine t_291 y1 (QC_t hq y2) s2 s3 e11 k0 k1 hG hw he rfl ec em m0 m1 am (fun F' g1 g2 g3 g4 => ?_) (fun F' g1 g2 g3 g4 => ?_)
        · have := hk F' g1 g2
          rw [en, sPr_1 he (by rw [← em]; exact g4)] at this
          exact this
        · refine l_291 g1 g2 s2 s3 g3 k0 k1 ec hG (vs_to hv (by omega) hw he m0 m1) (fun F'' u1 u2 => ?_)
          have := hk F'' u1 u2
          rw [en, sPr_2 he (by rw [← em]; exact g4), ← em] at this
          exact this
      have z0 : ¬ (h < F0 112 54 ∧ bit (mk0 F0 x1 h p n) (F0 112 (55 + h).toNat)) → 0 = sRw F0 x1 h p n := fun c => (if_neg c).symm
      rw [hpr2.2.2.2.2.1]
      refine ck_i rfl (cn_i (fun c1 => ?_) (fun c1 => ?_))
      · have p6 := hpr2.2.2.2.2.2.1 h w1 c1
        have sr := hs.2.2.2.2.2 h w1 c1
        simp only [show (31 : Nat) + 4 = 35 from rfl] at p6 ⊢
        rw [p6]
        refine ck_i rfl (ck_i rfl (ck_i (jb_i w1 (by omega)) (cn_i (fun c2 => ?_) (fun c2 => ?_))))
        · have nb := (bit_z (by omega) (by omega) sr.1 (by omega)).mp c2
          exact fin 0 (z0 (fun q => nb q.2)) (by omega) (by omega) (Or.inl rfl)
        · have hb1 : bit (sMask (F0 100) (mL F0) (-1) x1 h p n) (F0 112 (55 + h).toNat) := Classical.byContradiction (fun q => c2 ((bit_z (by omega) (by omega) sr.1 (by omega)).mpr q))
          exact fin _ (if_pos ⟨c1, hb1⟩).symm sr.1 sr.2 (AM_mask hv4 hv3 sr.1 hb1)
      · refine cn_i (fun c2 => ?_) (fun c2 => ?_)
        · exact fin 0 (z0 (fun q => c1 q.1)) (by omega) (by omega) (Or.inl rfl)
        · exact fin 0 (z0 (fun q => c1 q.1)) (by omega) (by omega) (Or.inl rfl)
    · have := hk F hk0 hq
      rw [en, sPr_0 he] at this
      exact this
  · have := hk F hk0 hq
    have he : sEnd (F0 100) h p n ≠ 0 := by
      rw [show h = F0 100 3 by omega]
      exact sEnd_l _ _ _
    rw [en, sPr_0 he] at this
    exact this
termination_by (F0 100 3 - h).toNat
decreasing_by all_goals omega
