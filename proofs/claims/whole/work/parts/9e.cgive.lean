/-! ===== the class answers: what would be given, what holds, what would be changed ===== -/
theorem sGvB_y {F : FI} {h his k : Int} {n : Nat} (c : k ≠ his ∧ 0 < sGn F (cLed (cBs F) h k) k ∧ 0 < sGn F (cLed (cBs F) h k) his) : sGvB F h his (n + 1) k = 10 * h + k := if_pos c
theorem sGvB_n {F : FI} {h his k : Int} {n : Nat} (c : ¬ (k ≠ his ∧ 0 < sGn F (cLed (cBs F) h k) k ∧ 0 < sGn F (cLed (cBs F) h k) his)) : sGvB F h his (n + 1) k = sGvB F h his n (k + 1) := if_neg c
theorem l_27_33 {Q : Rs → Mm → Prop} {a b : Nat} {F0 : FI} {x1 x2 x3 : Int} {S S0 : FS} {F Fz : FI} {G Gz : FJ} (hk0 : YK S F G a b (F0 100) (F0 112) (mL F0)) (hq : QC S0 S Fz F Gz G) (z1 : F 1 17 = 1) (h1 : 0 ≤ x1) (h1' : x1 < F0 100 3) (e2 : x2 = sLd (F0 100) (F0 112) x1) (h3 : 0 ≤ x3) (h3' : x3 ≤ F0 100 2)
    (hf : ∀ S' F' G', YK S' F' G' a b (F0 100) (F0 112) (mL F0) → QC S0 S' Fz F' Gz G' → sGvB F0 x1 x2 (F0 100 2 - x3).toNat x3 ≠ -1 → Q (.inl (some (.inl (sGvB F0 x1 x2 (F0 100 2 - x3).toNat x3)))) (mm S' F' G'))
    (hn : ∀ S' F' G', YK S' F' G' a b (F0 100) (F0 112) (mL F0) → QC S0 S' Fz F' Gz G' → F' 1 17 = 1 → sGvB F0 x1 x2 (F0 100 2 - x3).toNat x3 = -1 → wph 8 27 10 [.inr (.inr (.inl 1)), .inl (x1 + 1)] [] (mm S' F' G') (1, 6) Q) :
    wph 8 27 33 [.inr (.inr (.inl 1)), .inl x1, .inl x2, .inl x3] [] (mm S F G) (1, 6) Q := by
  obtain ⟨ha, hb, ⟨k1, k2, k3, k4⟩, hv, hs, hlw, hl, hrw, hpr, -⟩ := id hk0
  have hv' := hv
  obtain ⟨⟨hv1, hv2⟩, ⟨hv3, hv4⟩, ⟨hv5, hv6⟩, ⟨hv7, hv8⟩, ⟨hv9, hv10⟩, ⟨hv11, hv12⟩, ⟨hv13, hv14⟩, hvw, hvs, hvk, hvc, hvx⟩ := id hv
  have lb := sLd_b hv hs h1 (by omega)
  rw [← e2] at lb
  refine tg_27_33 ?_
  simp only [k1, lk ha, lk1 ha, lk2 ha, lk3 ha, lk4 ha, lk5 ha, lk6 ha, lk7 ha, lk8 ha, lk9 ha, lr0 ha, lr1 ha, lr2 ha, lr3 ha, lr4 ha, lr5 ha, lr6 ha, lr7 ha, lr8 ha, hl.1.2.2.1]
  rw [wr_id (a := x3 + 1) (by omega) (by omega), wr_id (a := x1 + 1) (by omega) (by omega), wr_id (a := 10 * x1) (by omega) (by omega), wr_id (a := 10 * x1 + x3) (by omega) (by omega)]
  refine ck_i rfl (cn_i (fun y => ?_) (fun y => ?_))
  · have en : (F0 100 2 - x3).toNat = (F0 100 2 - (x3 + 1)).toNat + 1 := by omega
    rw [en] at hf hn
    have nxt : ∀ S' F' G', YK S' F' G' a b (F0 100) (F0 112) (mL F0) → QC S0 S' Fz F' Gz G' → F' 1 17 = 1 → ¬ (x3 ≠ x2 ∧ 0 < sGn F0 (cLed (cBs F0) x1 x3) x3 ∧ 0 < sGn F0 (cLed (cBs F0) x1 x3) x2) → wph 8 27 33 [.inr (.inr (.inl 1)), .inl x1, .inl x2, .inl (x3 + 1)] [] (mm S' F' G') (1, 6) Q := by
      intro S' F' G' y1 y2 y3 c
      rw [sGvB_n c] at hf hn
      exact l_27_33 y1 y2 y3 h1 h1' e2 (by omega) (by omega) hf hn
    refine cn_i (fun u => nxt S F G hk0 hq z1 (fun c => c.1 u)) (fun u => ?_)
    have cv := cLed_v (h := x1) (sCf_v (w := mL F0) (F0 100 4) hv hs) h3 y
    refine c_64 hk0 z1 h1 h1' h3 y (fun S1 F1 G1 y1 q1 z2 t1 => g_63 y1 z2 cv t1 lb.1 lb.2 (cn_i (fun g => ?_) (fun g => ?_)))
    · refine g_63 y1 z2 cv t1 h3 y (cn_i (fun g2 => ?_) (fun g2 => ?_))
      · have e := sGvB_y (n := (F0 100 2 - (x3 + 1)).toNat) ⟨u, lc_p.mp g2, lc_p.mp g⟩
        have := hf S1 F1 G1 y1 (QC_t hq q1) (by rw [e]; omega)
        rw [e] at this
        exact this
      · exact nxt S1 F1 G1 y1 (QC_t hq q1) z2 (fun c => g2 (lc_p.mpr c.2.1))
    · exact nxt S1 F1 G1 y1 (QC_t hq q1) z2 (fun c => g (lc_p.mpr c.2.2))
  · refine hn S F G hk0 hq z1 ?_
    rw [show (F0 100 2 - x3).toNat = 0 by omega]
    rfl
termination_by (F0 100 2 - x3).toNat
decreasing_by all_goals omega
theorem sGvA_y {F : FI} {h : Int} {n : Nat} (c : sGvB F h (sLd (F 100) (F 112) h) (F 100 2).toNat 0 ≠ -1) : sGvA F (n + 1) h = sGvB F h (sLd (F 100) (F 112) h) (F 100 2).toNat 0 := if_neg c
theorem sGvA_n {F : FI} {h : Int} {n : Nat} (c : sGvB F h (sLd (F 100) (F 112) h) (F 100 2).toNat 0 = -1) : sGvA F (n + 1) h = sGvA F n (h + 1) := if_pos c
theorem l_27_10 {Q : Rs → Mm → Prop} {a b : Nat} {F0 : FI} {x1 : Int} {S S0 : FS} {F Fz : FI} {G Gz : FJ} (hk0 : YK S F G a b (F0 100) (F0 112) (mL F0)) (hq : QC S0 S Fz F Gz G) (z1 : F 1 17 = 1) (h1 : 0 ≤ x1) (h1' : x1 ≤ F0 100 3)
    (hk : ∀ S' F' G', YK S' F' G' a b (F0 100) (F0 112) (mL F0) → QC S0 S' Fz F' Gz G' → Q (.inl (some (.inl (sGvA F0 (F0 100 3 - x1).toNat x1)))) (mm S' F' G')) :
    wph 8 27 10 [.inr (.inr (.inl 1)), .inl x1] [] (mm S F G) (1, 6) Q := by
  obtain ⟨ha, hb, ⟨k1, k2, k3, k4⟩, hv, hs, hlw, hl, hrw, hpr, hVC⟩ := id hk0
  have hv' := hv
  obtain ⟨⟨hv1, hv2⟩, ⟨hv3, hv4⟩, ⟨hv5, hv6⟩, ⟨hv7, hv8⟩, ⟨hv9, hv10⟩, ⟨hv11, hv12⟩, ⟨hv13, hv14⟩, hvw, hvs, hvk, hvc, hvx⟩ := id hv
  refine tg_27_10 ?_
  simp only [k1, lk ha, lk1 ha, lk2 ha, lk3 ha, lk4 ha, lk5 ha, lk6 ha, lk7 ha, lk8 ha, lk9 ha, lr0 ha, lr1 ha, lr2 ha, lr3 ha, lr4 ha, lr5 ha, lr6 ha, lr7 ha, lr8 ha, hl.1.2.2.2.1]
  refine ck_i rfl (cn_i (fun y => ?_) (fun y => ?_))
  · have en : (F0 100 3 - x1).toNat = (F0 100 3 - (x1 + 1)).toNat + 1 := by omega
    rw [en] at hk
    have so := (hVC.2.2.2.2.2 z1).1 x1 h1 (by omega)
    rw [so]
    refine ck_i (jb_i h1 (by omega)) (l_27_33 hk0 hq z1 h1 y rfl (by omega) (by omega) (fun S' F' G' y1 y2 y3 => ?_) (fun S' F' G' y1 y2 y3 y4 => ?_))
    · rw [show (F0 100 2 - 0).toNat = (F0 100 2).toNat by omega] at y3 ⊢
      have := hk S' F' G' y1 y2
      rw [sGvA_y y3] at this
      exact this
    · rw [show (F0 100 2 - 0).toNat = (F0 100 2).toNat by omega] at y4
      rw [sGvA_n y4] at hk
      exact l_27_10 y1 y2 y3 (by omega) (by omega) hk
  · have := hk S F G hk0 hq
    rw [show (F0 100 3 - x1).toNat = 0 by omega] at this
    exact this
termination_by (F0 100 3 - x1).toNat
decreasing_by all_goals omega
theorem p_27 {k : Int → FS → FI → FJ → Prop} {kx : Nat → FS → FI → FJ → Prop} {a b : Nat} {l s : Nat → Int} {w : La} {F0 : FI} {S : FS} {F : FI} {G : FJ} (hR : F0 100 = l ∧ F0 112 = s ∧ mL F0 = w) (hL : hasL S F a) (hK : 1 ≤ F a 9 → YK S F G a b l s w) (noL : F a 9 < 1 → kx 3 S (rfc F 3) G)
    (ok : 1 ≤ F a 9 → ∀ S' F' G', YK S' F' G' a b l s w → QC S S' F F' G G' → k (sGvA F0 (l 3).toNat 0) S' F' G') : calI 8 27 [.inr (.inr (.inl 1))] (mm S F G) k kx := by
  obtain ⟨rfl, rfl, rfl⟩ := hR
  refine sg_27_0 (c_51 hL.1 hL.2 (fun q => ?_) (fun q => ex_3 ⟨_, _, _, rfl, noL q⟩))
  have hk0 := hK q
  have hv := hk0.2.2.2.1
  obtain ⟨⟨hv1, hv2⟩, ⟨hv3, hv4⟩, ⟨hv5, hv6⟩, ⟨hv7, hv8⟩, ⟨hv9, hv10⟩, ⟨hv11, hv12⟩, ⟨hv13, hv14⟩, hvw, hvs, hvk, hvc, hvx⟩ := id hv
  refine c_60 hk0 (fun S1 F1 G1 y1 q1 z1 => l_27_10 y1 q1 z1 (by omega) (by omega) (fun S' F' G' y2 q2 => ⟨_, _, _, rfl, ?_⟩))
  rw [show (F0 100 3 - 0).toNat = (F0 100 3).toNat by omega]
  exact ok q S' F' G' y2 q2
/-! ===== pacts that hold ===== -/
theorem sHlB_y {F : FI} {a b : Int} {n : Nat} (c : 0 < sGn F (cPct (cBs F) a b) a ∧ 0 < sGn F (cPct (cBs F) a b) b) : sHlB F a (n + 1) b = 10 * a + b := if_pos c
theorem sHlB_n {F : FI} {a b : Int} {n : Nat} (c : ¬ (0 < sGn F (cPct (cBs F) a b) a ∧ 0 < sGn F (cPct (cBs F) a b) b)) : sHlB F a (n + 1) b = sHlB F a n (b + 1) := if_neg c
theorem l_39_25 {Q : Rs → Mm → Prop} {a b : Nat} {F0 : FI} {x1 x2 : Int} {S S0 : FS} {F Fz : FI} {G Gz : FJ} (hk0 : YK S F G a b (F0 100) (F0 112) (mL F0)) (hq : QC S0 S Fz F Gz G) (z1 : F 1 17 = 1) (h1 : 0 ≤ x1) (h1' : x1 < F0 100 2) (h3 : x1 < x2) (h3' : x2 ≤ F0 100 2)
    (hf : ∀ S' F' G', YK S' F' G' a b (F0 100) (F0 112) (mL F0) → QC S0 S' Fz F' Gz G' → sHlB F0 x1 (F0 100 2 - x2).toNat x2 ≠ -1 → Q (.inl (some (.inl (sHlB F0 x1 (F0 100 2 - x2).toNat x2)))) (mm S' F' G'))
    (hn : ∀ S' F' G', YK S' F' G' a b (F0 100) (F0 112) (mL F0) → QC S0 S' Fz F' Gz G' → F' 1 17 = 1 → sHlB F0 x1 (F0 100 2 - x2).toNat x2 = -1 → wph 8 39 10 [.inr (.inr (.inl 1)), .inl (x1 + 1)] [] (mm S' F' G') (1, 6) Q) :
    wph 8 39 25 [.inr (.inr (.inl 1)), .inl x1, .inl x2] [] (mm S F G) (1, 6) Q := by
  obtain ⟨ha, hb, ⟨k1, k2, k3, k4⟩, hv, hs, hlw, hl, hrw, hpr, -⟩ := id hk0
  have hv' := hv
  obtain ⟨⟨hv1, hv2⟩, ⟨hv3, hv4⟩, ⟨hv5, hv6⟩, ⟨hv7, hv8⟩, ⟨hv9, hv10⟩, ⟨hv11, hv12⟩, ⟨hv13, hv14⟩, hvw, hvs, hvk, hvc, hvx⟩ := id hv
  refine tg_39_25 ?_
  simp only [k1, lk ha, lk1 ha, lk2 ha, lk3 ha, lk4 ha, lk5 ha, lk6 ha, lk7 ha, lk8 ha, lk9 ha, lr0 ha, lr1 ha, lr2 ha, lr3 ha, lr4 ha, lr5 ha, lr6 ha, lr7 ha, lr8 ha, hl.1.2.2.1]
  rw [wr_id (a := x2 + 1) (by omega) (by omega), wr_id (a := x1 + 1) (by omega) (by omega), wr_id (a := 10 * x1) (by omega) (by omega), wr_id (a := 10 * x1 + x2) (by omega) (by omega)]
  refine ck_i rfl (cn_i (fun y => ?_) (fun y => ?_))
  · have en : (F0 100 2 - x2).toNat = (F0 100 2 - (x2 + 1)).toNat + 1 := by omega
    rw [en] at hf hn
    have nxt : ∀ S' F' G', YK S' F' G' a b (F0 100) (F0 112) (mL F0) → QC S0 S' Fz F' Gz G' → F' 1 17 = 1 → ¬ (0 < sGn F0 (cPct (cBs F0) x1 x2) x1 ∧ 0 < sGn F0 (cPct (cBs F0) x1 x2) x2) → wph 8 39 25 [.inr (.inr (.inl 1)), .inl x1, .inl (x2 + 1)] [] (mm S' F' G') (1, 6) Q := by
      intro S' F' G' y1 y2 y3 c
      rw [sHlB_n c] at hf hn
      exact l_39_25 y1 y2 y3 h1 h1' (by omega) (by omega) hf hn
    have cv : CV (F0 100) (F0 100 4) (cPct (cBs F0) x1 x2) := cPct_v (sCf_v (w := mL F0) (F0 100 4) hv hs) (fun q => by omega)
    refine c_66 hk0 h1 h1' (by omega) y (by omega) (fun S1 F1 G1 y1 q1 z2 t1 => g_63 y1 (z2.trans z1) cv t1 h1 h1' (cn_i (fun g => ?_) (fun g => ?_)))
    · refine g_63 y1 (z2.trans z1) cv t1 (by omega) y (cn_i (fun g2 => ?_) (fun g2 => ?_))
      · have e := sHlB_y (n := (F0 100 2 - (x2 + 1)).toNat) ⟨lc_p.mp g, lc_p.mp g2⟩
        have := hf S1 F1 G1 y1 (QC_t hq q1) (by rw [e]; omega)
        rw [e] at this
        exact this
      · exact nxt S1 F1 G1 y1 (QC_t hq q1) (z2.trans z1) (fun c => g2 (lc_p.mpr c.2))
    · exact nxt S1 F1 G1 y1 (QC_t hq q1) (z2.trans z1) (fun c => g (lc_p.mpr c.1))
  · refine hn S F G hk0 hq z1 ?_
    rw [show (F0 100 2 - x2).toNat = 0 by omega]
    rfl
termination_by (F0 100 2 - x2).toNat
decreasing_by all_goals omega
theorem sHlA_y {F : FI} {a : Int} {n : Nat} (c : sHlB F a (F 100 2 - (a + 1)).toNat (a + 1) ≠ -1) : sHlA F (n + 1) a = sHlB F a (F 100 2 - (a + 1)).toNat (a + 1) := if_neg c
theorem sHlA_n {F : FI} {a : Int} {n : Nat} (c : sHlB F a (F 100 2 - (a + 1)).toNat (a + 1) = -1) : sHlA F (n + 1) a = sHlA F n (a + 1) := if_pos c
theorem l_39_10 {Q : Rs → Mm → Prop} {a b : Nat} {F0 : FI} {x1 : Int} {S S0 : FS} {F Fz : FI} {G Gz : FJ} (hk0 : YK S F G a b (F0 100) (F0 112) (mL F0)) (hq : QC S0 S Fz F Gz G) (z1 : F 1 17 = 1) (h1 : 0 ≤ x1) (h1' : x1 ≤ F0 100 2)
    (hk : ∀ S' F' G', YK S' F' G' a b (F0 100) (F0 112) (mL F0) → QC S0 S' Fz F' Gz G' → Q (.inl (some (.inl (sHlA F0 (F0 100 2 - x1).toNat x1)))) (mm S' F' G')) :
    wph 8 39 10 [.inr (.inr (.inl 1)), .inl x1] [] (mm S F G) (1, 6) Q := by
  obtain ⟨ha, hb, ⟨k1, k2, k3, k4⟩, hv, hs, hlw, hl, hrw, hpr, hVC⟩ := id hk0
  have hv' := hv
  obtain ⟨⟨hv1, hv2⟩, ⟨hv3, hv4⟩, ⟨hv5, hv6⟩, ⟨hv7, hv8⟩, ⟨hv9, hv10⟩, ⟨hv11, hv12⟩, ⟨hv13, hv14⟩, hvw, hvs, hvk, hvc, hvx⟩ := id hv
  refine tg_39_10 ?_
  simp only [k1, lk ha, lk1 ha, lk2 ha, lk3 ha, lk4 ha, lk5 ha, lk6 ha, lk7 ha, lk8 ha, lk9 ha, lr0 ha, lr1 ha, lr2 ha, lr3 ha, lr4 ha, lr5 ha, lr6 ha, lr7 ha, lr8 ha, hl.1.2.2.1]
  refine ck_i rfl (cn_i (fun y => ?_) (fun y => ?_))
  · have en : (F0 100 2 - x1).toNat = (F0 100 2 - (x1 + 1)).toNat + 1 := by omega
    rw [en] at hk
    rw [wr_id (a := x1 + 1) (by omega) (by omega)]
    refine l_39_25 hk0 hq z1 h1 y (by omega) (by omega) (fun S' F' G' y1 y2 y3 => ?_) (fun S' F' G' y1 y2 y3 y4 => ?_)
    · have := hk S' F' G' y1 y2
      rw [sHlA_y y3] at this
      exact this
    · rw [sHlA_n y4] at hk
      exact l_39_10 y1 y2 y3 (by omega) (by omega) hk
  · have := hk S F G hk0 hq
    rw [show (F0 100 2 - x1).toNat = 0 by omega] at this
    exact this
termination_by (F0 100 2 - x1).toNat
decreasing_by all_goals omega
theorem p_39 {k : Int → FS → FI → FJ → Prop} {kx : Nat → FS → FI → FJ → Prop} {a b : Nat} {l s : Nat → Int} {w : La} {F0 : FI} {S : FS} {F : FI} {G : FJ} (hR : F0 100 = l ∧ F0 112 = s ∧ mL F0 = w) (hL : hasL S F a) (hK : 1 ≤ F a 9 → YK S F G a b l s w) (noL : F a 9 < 1 → kx 3 S (rfc F 3) G)
    (ok : 1 ≤ F a 9 → ∀ S' F' G', YK S' F' G' a b l s w → QC S S' F F' G G' → k (sHlA F0 (l 2).toNat 0) S' F' G') : calI 8 39 [.inr (.inr (.inl 1))] (mm S F G) k kx := by
  obtain ⟨rfl, rfl, rfl⟩ := hR
  refine sg_39_0 (c_51 hL.1 hL.2 (fun q => ?_) (fun q => ex_3 ⟨_, _, _, rfl, noL q⟩))
  have hk0 := hK q
  have hv := hk0.2.2.2.1
  obtain ⟨⟨hv1, hv2⟩, ⟨hv3, hv4⟩, ⟨hv5, hv6⟩, ⟨hv7, hv8⟩, ⟨hv9, hv10⟩, ⟨hv11, hv12⟩, ⟨hv13, hv14⟩, hvw, hvs, hvk, hvc, hvx⟩ := id hv
  refine c_60 hk0 (fun S1 F1 G1 y1 q1 z1 => l_39_10 y1 q1 z1 (by omega) (by omega) (fun S' F' G' y2 q2 => ⟨_, _, _, rfl, ?_⟩))
  rw [show (F0 100 2 - 0).toNat = (F0 100 2).toNat by omega]
  exact ok q S' F' G' y2 q2
/-! ===== two hours changed ===== -/
theorem sSwB_y {F : FI} {p q a b : Int} {n : Nat} (c : (sLd (F 100) (F 112) a = p ∧ sLd (F 100) (F 112) b = q) ∧ 0 < sGn F (cLed (cLed (cBs F) a q) b p) p ∧ 0 < sGn F (cLed (cLed (cBs F) a q) b p) q) : sSwB F p q a (n + 1) b = 100 * a + b := if_pos c
theorem sSwB_n {F : FI} {p q a b : Int} {n : Nat} (c : ¬ ((sLd (F 100) (F 112) a = p ∧ sLd (F 100) (F 112) b = q) ∧ 0 < sGn F (cLed (cLed (cBs F) a q) b p) p ∧ 0 < sGn F (cLed (cLed (cBs F) a q) b p) q)) : sSwB F p q a (n + 1) b = sSwB F p q a n (b + 1) := if_neg c
theorem l_44_48 {Q : Rs → Mm → Prop} {a b : Nat} {F0 : FI} {p q x3 x4 : Int} {S S0 : FS} {F Fz : FI} {G Gz : FJ} (hk0 : YK S F G a b (F0 100) (F0 112) (mL F0)) (hq : QC S0 S Fz F Gz G) (z1 : F 1 17 = 1) (p0 : 0 ≤ p) (p1 : p < F0 100 2) (q0 : 0 ≤ q) (q1 : q < F0 100 2) (h3 : 0 ≤ x3) (h3' : x3 < F0 100 3) (h4 : 0 ≤ x4) (h4' : x4 ≤ F0 100 3)
    (hf : ∀ S' F' G', YK S' F' G' a b (F0 100) (F0 112) (mL F0) → QC S0 S' Fz F' Gz G' → sSwB F0 p q x3 (F0 100 3 - x4).toNat x4 ≠ -1 → Q (.inl (some (.inl (sSwB F0 p q x3 (F0 100 3 - x4).toNat x4)))) (mm S' F' G'))
    (hn : ∀ S' F' G', YK S' F' G' a b (F0 100) (F0 112) (mL F0) → QC S0 S' Fz F' Gz G' → F' 1 17 = 1 → sSwB F0 p q x3 (F0 100 3 - x4).toNat x4 = -1 → wph 8 44 34 [.inr (.inr (.inl 1)), .inl p, .inl q, .inl (x3 + 1)] [] (mm S' F' G') (4, 24) Q) :
    wph 8 44 48 [.inr (.inr (.inl 1)), .inl p, .inl q, .inl x3, .inl x4] [] (mm S F G) (4, 24) Q := by
  obtain ⟨ha, hb, ⟨k1, k2, k3, k4⟩, hv, hs, hlw, hl, hrw, hpr, hVC⟩ := id hk0
  have hv' := hv
  obtain ⟨⟨hv1, hv2⟩, ⟨hv3, hv4⟩, ⟨hv5, hv6⟩, ⟨hv7, hv8⟩, ⟨hv9, hv10⟩, ⟨hv11, hv12⟩, ⟨hv13, hv14⟩, hvw, hvs, hvk, hvc, hvx⟩ := id hv
  refine tg_44_48 ?_
  simp only [k1, lk ha, lk1 ha, lk2 ha, lk3 ha, lk4 ha, lk5 ha, lk6 ha, lk7 ha, lk8 ha, lk9 ha, lr0 ha, lr1 ha, lr2 ha, lr3 ha, lr4 ha, lr5 ha, lr6 ha, lr7 ha, lr8 ha, hl.1.2.2.2.1]
  rw [wr_id (a := x4 + 1) (by omega) (by omega), wr_id (a := x3 + 1) (by omega) (by omega), wr_id (a := 100 * x3) (by omega) (by omega), wr_id (a := 100 * x3 + x4) (by omega) (by omega)]
  refine ck_i rfl (cn_i (fun y => ?_) (fun y => ?_))
  · have en : (F0 100 3 - x4).toNat = (F0 100 3 - (x4 + 1)).toNat + 1 := by omega
    rw [en] at hf hn
    have so := (hVC.2.2.2.2.2 z1).1
    rw [so x3 h3 (by omega), so x4 h4 (by omega)]
    have nxt : ∀ S' F' G', YK S' F' G' a b (F0 100) (F0 112) (mL F0) → QC S0 S' Fz F' Gz G' → F' 1 17 = 1 → ¬ ((sLd (F0 100) (F0 112) x3 = p ∧ sLd (F0 100) (F0 112) x4 = q) ∧ 0 < sGn F0 (cLed (cLed (cBs F0) x3 q) x4 p) p ∧ 0 < sGn F0 (cLed (cLed (cBs F0) x3 q) x4 p) q) → wph 8 44 48 [.inr (.inr (.inl 1)), .inl p, .inl q, .inl x3, .inl (x4 + 1)] [] (mm S' F' G') (4, 24) Q := by
      intro S' F' G' y1 y2 y3 c
      rw [sSwB_n c] at hf hn
      exact l_44_48 y1 y2 y3 p0 p1 q0 q1 h3 h3' (by omega) (by omega) hf hn
    refine ck_i (jb_i h3 (by omega)) (cn_i (fun u1 => ck_i (jb_i h4 (by omega)) (cn_i (fun u2 => ?_) (fun u2 => nxt S F G hk0 hq z1 (fun c => u2 c.1.2)))) (fun u1 => nxt S F G hk0 hq z1 (fun c => u1 c.1.1)))
    have cv : CV (F0 100) (F0 100 4) (cLed (cLed (cBs F0) x3 q) x4 p) := cLed_v (cLed_v (sCf_v (w := mL F0) (F0 100 4) hv hs) q0 q1) p0 p1
    refine c_65 hk0 z1 h3 h3' h4 y (fun S1 F1 G1 y1 q1' z2 t1 => ?_)
    rw [u1, u2] at t1
    refine g_63 y1 z2 cv t1 p0 p1 (cn_i (fun g => ?_) (fun g => ?_))
    · refine g_63 y1 z2 cv t1 q0 q1 (cn_i (fun g2 => ?_) (fun g2 => ?_))
      · have e := sSwB_y (n := (F0 100 3 - (x4 + 1)).toNat) ⟨⟨u1, u2⟩, lc_p.mp g, lc_p.mp g2⟩
        have := hf S1 F1 G1 y1 (QC_t hq q1') (by rw [e]; omega)
        rw [e] at this
        exact this
      · exact nxt S1 F1 G1 y1 (QC_t hq q1') z2 (fun c => g2 (lc_p.mpr c.2.2))
    · exact nxt S1 F1 G1 y1 (QC_t hq q1') z2 (fun c => g (lc_p.mpr c.2.1))
  · refine hn S F G hk0 hq z1 ?_
    rw [show (F0 100 3 - x4).toNat = 0 by omega]
    rfl
termination_by (F0 100 3 - x4).toNat
decreasing_by all_goals omega
theorem sSwA_y {F : FI} {p q a : Int} {n : Nat} (c : sSwB F p q a (F 100 3).toNat 0 ≠ -1) : sSwA F p q (n + 1) a = sSwB F p q a (F 100 3).toNat 0 := if_neg c
theorem sSwA_n {F : FI} {p q a : Int} {n : Nat} (c : sSwB F p q a (F 100 3).toNat 0 = -1) : sSwA F p q (n + 1) a = sSwA F p q n (a + 1) := if_pos c
theorem l_44_34 {Q : Rs → Mm → Prop} {a b : Nat} {F0 : FI} {p q x3 : Int} {S S0 : FS} {F Fz : FI} {G Gz : FJ} (hk0 : YK S F G a b (F0 100) (F0 112) (mL F0)) (hq : QC S0 S Fz F Gz G) (z1 : F 1 17 = 1) (p0 : 0 ≤ p) (p1 : p < F0 100 2) (q0 : 0 ≤ q) (q1 : q < F0 100 2) (h3 : 0 ≤ x3) (h3' : x3 ≤ F0 100 3)
    (hk : ∀ S' F' G', YK S' F' G' a b (F0 100) (F0 112) (mL F0) → QC S0 S' Fz F' Gz G' → Q (.inl (some (.inl (sSwA F0 p q (F0 100 3 - x3).toNat x3)))) (mm S' F' G')) :
    wph 8 44 34 [.inr (.inr (.inl 1)), .inl p, .inl q, .inl x3] [] (mm S F G) (4, 24) Q := by
  obtain ⟨ha, hb, ⟨k1, k2, k3, k4⟩, hv, hs, hlw, hl, hrw, hpr, hVC⟩ := id hk0
  have hv' := hv
  obtain ⟨⟨hv1, hv2⟩, ⟨hv3, hv4⟩, ⟨hv5, hv6⟩, ⟨hv7, hv8⟩, ⟨hv9, hv10⟩, ⟨hv11, hv12⟩, ⟨hv13, hv14⟩, hvw, hvs, hvk, hvc, hvx⟩ := id hv
  refine tg_44_34 ?_
  simp only [k1, lk ha, lk1 ha, lk2 ha, lk3 ha, lk4 ha, lk5 ha, lk6 ha, lk7 ha, lk8 ha, lk9 ha, lr0 ha, lr1 ha, lr2 ha, lr3 ha, lr4 ha, lr5 ha, lr6 ha, lr7 ha, lr8 ha, hl.1.2.2.2.1]
  refine ck_i rfl (cn_i (fun y => ?_) (fun y => ?_))
  · have en : (F0 100 3 - x3).toNat = (F0 100 3 - (x3 + 1)).toNat + 1 := by omega
    rw [en] at hk
    refine l_44_48 hk0 hq z1 p0 p1 q0 q1 h3 y (by omega) (by omega) (fun S' F' G' y1 y2 y3 => ?_) (fun S' F' G' y1 y2 y3 y4 => ?_)
    · rw [show (F0 100 3 - 0).toNat = (F0 100 3).toNat by omega] at y3 ⊢
      have := hk S' F' G' y1 y2
      rw [sSwA_y y3] at this
      exact this
    · rw [show (F0 100 3 - 0).toNat = (F0 100 3).toNat by omega] at y4
      rw [sSwA_n y4] at hk
      exact l_44_34 y1 y2 y3 p0 p1 q0 q1 (by omega) (by omega) hk
  · have := hk S F G hk0 hq
    rw [show (F0 100 3 - x3).toNat = 0 by omega] at this
    exact this
termination_by (F0 100 3 - x3).toNat
decreasing_by all_goals omega
theorem p_44 {k : Int → FS → FI → FJ → Prop} {kx : Nat → FS → FI → FJ → Prop} {a b : Nat} {l s : Nat → Int} {w : La} {x1 x2 : Int} {F0 : FI} {S : FS} {F : FI} {G : FJ} (hR : F0 100 = l ∧ F0 112 = s ∧ mL F0 = w) (hL : hasL S F a) (hK : 1 ≤ F a 9 → YK S F G a b l s w) (noL : F a 9 < 1 → kx 3 S (rfc F 3) G) (noP : 1 ≤ F a 9 → ¬ ((0 ≤ x1 ∧ x1 < l 2) ∧ 0 ≤ x2 ∧ x2 < l 2) → kx 0 S (rfc F 0) G)
    (noA : 1 ≤ F a 9 → 0 ≤ x1 ∧ x1 < l 2 → 0 ≤ x2 ∧ x2 < l 2 → x1 = x2 → kx 2 S (rfc F 2) G)
    (ok : 1 ≤ F a 9 → 0 ≤ x1 ∧ x1 < l 2 → 0 ≤ x2 ∧ x2 < l 2 → x1 ≠ x2 → ∀ S' F' G', YK S' F' G' a b l s w → QC S S' F F' G G' → k (sSwA F0 x1 x2 (l 3).toNat 0) S' F' G') : calI 8 44 [.inr (.inr (.inl 1)), .inl x1, .inl x2] (mm S F G) k kx := by
  obtain ⟨rfl, rfl, rfl⟩ := hR
  refine sg_44_0 (c_51 hL.1 hL.2 (fun q => ?_) (fun q => ex_3 ⟨_, _, _, rfl, noL q⟩))
  have hk0 := hK q
  obtain ⟨ha, hb, ⟨k1, k2, k3, k4⟩, hv, hs, hw, hl, hrw, hpr, -⟩ := id hk0
  have hv' := hv
  obtain ⟨⟨hv1, hv2⟩, ⟨hv3, hv4⟩, ⟨hv5, hv6⟩, ⟨hv7, hv8⟩, ⟨hv9, hv10⟩, ⟨hv11, hv12⟩, ⟨hv13, hv14⟩, hvw, hvs, hvk, hvc, hvx⟩ := id hv
  refine c_52 ha k1 hl.1.2.2.1 (fun p => c_52 ha k1 hl.1.2.2.1 (fun p' => ?_) (fun p' => ex_0 ⟨_, _, _, rfl, noP q (fun r => p' r.2)⟩)) (fun p => ex_0 ⟨_, _, _, rfl, noP q (fun r => p r.1)⟩)
  refine cn_i (fun y => c_55_0 (ex_2 ⟨_, _, _, rfl, noA q p p' y⟩)) (fun y => c_55_1 ?_)
  refine c_60 hk0 (fun S1 F1 G1 y1 q1 z1 => l_44_34 y1 q1 z1 p.1 p.2 p'.1 p'.2 (by omega) (by omega) (fun S' F' G' y2 q2 => ⟨_, _, _, rfl, ?_⟩))
  rw [show (F0 100 3 - 0).toNat = (F0 100 3).toNat by omega]
  exact ok q p p' y S' F' G' y2 q2
