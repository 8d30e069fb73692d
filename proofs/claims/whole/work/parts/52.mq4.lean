/-! ===== the reference answers: hours given, hours changed ===== -/
theorem cLed_2 (c : Cf) (h a b : Int) : cLed (cLed c h a) h b = cLed c h b := by
  unfold cLed
  congr 1
  funext x
  by_cases q : x = h
  · simp [q]
  · simp [q]
theorem cLed_s (c : Cf) (h : Int) : cLed c h (c.1 h) = c := by
  obtain ⟨c1, c2⟩ := c
  unfold cLed
  congr 1
  funext x
  by_cases q : x = h
  · simp [q]
  · simp [q]
noncomputable def sGvB (F : FI) (h his : Int) : Nat → Int → Int
  | 0, _ => -1
  | n + 1, k => @ite _ (k ≠ his ∧ 0 < sGn F (cLed (cBs F) h k) k ∧ 0 < sGn F (cLed (cBs F) h k) his) (Classical.propDecidable _) (10 * h + k) (sGvB F h his n (k + 1))
noncomputable def sGvA (F : FI) : Nat → Int → Int
  | 0, _ => -1
  | n + 1, h => if sGvB F h (sLd (F 100) (F 112) h) (F 100 2).toNat 0 = -1 then sGvA F n (h + 1) else sGvB F h (sLd (F 100) (F 112) h) (F 100 2).toNat 0
theorem l_169_40 {Q : Rs → Mm → Prop} {x1 x2 x3 y : Int} {S : FS} {F F1 : FI} {G G1 : FJ} (hm : MV F G) (h0 : 0 ≤ x1) (h1 : x1 < F 100 3) (e2 : x2 = sLd (F 100) (F 112) x1) (h2 : 0 ≤ x3) (h3 : x3 ≤ F 100 2) (hd : RD F F1 G G1 (cLed (cBs F) x1 y)) (hb : BF (F 100) (cBs F) (F 100 4) G1) (hy : 0 ≤ y ∧ y < F 100 2)
    (hq : ∀ F2 G2 y, RD F F2 G G2 (cLed (cBs F) x1 y) → 0 ≤ sGvB F x1 x2 (F 100 2 - x3).toNat x3 → Q (.inl (some (.inl (sGvB F x1 x2 (F 100 2 - x3).toNat x3)))) (mm S F2 G2))
    (hk : ∀ F2 G2, RD F F2 G G2 (cBs F) → BF (F 100) (cBs F) (F 100 4) G2 → sGvB F x1 x2 (F 100 2 - x3).toNat x3 = -1 → wph 9 169 21 [.inr (.inr (.inl 97)), .inl (x1 + 1)] [] (mm S F2 G2) (0, 0) Q) : wph 9 169 40 [.inr (.inr (.inl 97)), .inl x1, .inl x2, .inl x3] [] (mm S F1 G1) (0, 0) Q := by
  have hv := hm.1
  obtain ⟨⟨hv1, hv2⟩, ⟨hv3, hv4⟩, ⟨hv5, hv6⟩, ⟨hv7, hv8⟩, ⟨hv9, hv10⟩, ⟨hv11, hv12⟩, ⟨hv13, hv14⟩, hvw, hvs, hvk, hvc, hvx⟩ := id hv
  have cv : CV (F 100) (F 100 4) (cBs F) := sCf_v (w := mL F) (F 100 4) hv hm.2.1
  have lb := sLd_b hv hm.2.1 h0 (by omega)
  rw [← e2] at lb
  refine sg_169_40 ?_
  rw [hd.1.1 100 kp100]
  refine cn_i (fun h => ?_) (fun h => ?_)
  · have en : (F 100 2 - x3).toNat = (F 100 2 - (x3 + 1)).toNat + 1 := by omega
    have eH : sGvB F x1 x2 (F 100 2 - x3).toNat x3 = @ite _ (x3 ≠ x2 ∧ 0 < sGn F (cLed (cBs F) x1 x3) x3 ∧ 0 < sGn F (cLed (cBs F) x1 x3) x2) (Classical.propDecidable _) (10 * x1 + x3) (sGvB F x1 x2 (F 100 2 - (x3 + 1)).toNat (x3 + 1)) := by rw [en]; rfl
    have nxt : ¬ (x3 ≠ x2 ∧ 0 < sGn F (cLed (cBs F) x1 x3) x3 ∧ 0 < sGn F (cLed (cBs F) x1 x3) x2) → ∀ F2 G2 y, RD F F2 G G2 (cLed (cBs F) x1 y) → BF (F 100) (cBs F) (F 100 4) G2 → 0 ≤ y ∧ y < F 100 2 → wph 9 169 40 [.inr (.inr (.inl 97)), .inl x1, .inl x2, .inl (x3 + 1)] [] (mm S F2 G2) (0, 0) Q := by
      intro hn F2 G2 y hd2 hb2 hy2
      rw [if_neg hn] at eH
      rw [eH] at hq hk
      exact l_169_40 hm h0 h1 e2 (by omega) (by omega) hd2 hb2 hy2 hq hk
    try simp (disch := omega) only [wr_id]
    refine cn_i (fun g => ?_) (fun g => ?_)
    · exact nxt (fun r => r.1 g) F1 G1 y hd hb hy
    · have cl : CV (F 100) (F 100 4) (cLed (cBs F) x1 x3) := cLed_v cv h2 h
      refine c_167 (x2 := x3) hm (c := cLed (cBs F) x1 y) ?_ hd h0 h1 h2 h (fun F2 G2 hd2 ht2 h124 => ?_)
      · exact cLed_v cv hy.1 hy.2
      · rw [cLed_2] at hd2 ht2
        have hb2 : BF (F 100) (cBs F) (F 100 4) G2 := fun k a b => by rw [h124]; exact hb k a b
        have tn := TN_of hd2 ht2
        refine c_146 hv (by omega) (by omega) tn h2 h (fun v e => ck_i (by (first | exact jb_i (by (first | assumption | omega | (simp (disch := omega) only [wr_id]; omega))) (by (first | assumption | omega | (simp (disch := omega) only [wr_id]; omega))) | exact jo_i (by omega) | exact jz_i (by omega) | rfl | (simp only [*]; first | rfl | exact jb_i (by (first | assumption | omega | (simp (disch := omega) only [wr_id]; omega))) (by (first | assumption | omega | (simp (disch := omega) only [wr_id]; omega)))))) ?_)
        have g1 := gn_i (sNow_b hv (by omega) (by omega) cl h2 h) (sNow_b hv (by omega) (by omega) cv h2 h)
        rw [hb2 x3 h2 h, e]
        refine cn_i (fun gg => ?_) (fun gg => ?_)
        · refine c_146 hv (by omega) (by omega) tn lb.1 lb.2 (fun v2 e2' => ck_i (by (first | exact jb_i (by (first | assumption | omega | (simp (disch := omega) only [wr_id]; omega))) (by (first | assumption | omega | (simp (disch := omega) only [wr_id]; omega))) | exact jo_i (by omega) | exact jz_i (by omega) | rfl | (simp only [*]; first | rfl | exact jb_i (by (first | assumption | omega | (simp (disch := omega) only [wr_id]; omega))) (by (first | assumption | omega | (simp (disch := omega) only [wr_id]; omega)))))) ?_)
          have g2 := gn_i (sNow_b hv (by omega) (by omega) cl lb.1 lb.2) (sNow_b hv (by omega) (by omega) cv lb.1 lb.2)
          rw [hb2 x2 lb.1 lb.2, e2']
          refine cn_i (fun g3 => ?_) (fun g3 => ?_)
          · rw [if_pos ⟨g, g1.mp gg, g2.mp g3⟩] at eH
            have := hq F2 G2 x3 hd2 (by rw [eH]; omega)
            rw [eH] at this
            exact this
          · exact nxt (fun r => g3 (g2.mpr r.2.2)) F2 G2 x3 hd2 hb2 ⟨h2, h⟩
        · exact nxt (fun r => gg (g1.mpr r.2.1)) F2 G2 x3 hd2 hb2 ⟨h2, h⟩
  · have e : (F 100 2 - x3).toNat = 0 := by omega
    try simp (disch := omega) only [wr_id]
    refine ck_i (by (first | exact jb_i (by (first | assumption | omega | (simp (disch := omega) only [wr_id]; omega))) (by (first | assumption | omega | (simp (disch := omega) only [wr_id]; omega))) | exact jo_i (by omega) | exact jz_i (by omega) | rfl | (simp only [*]; first | rfl | exact jb_i (by (first | assumption | omega | (simp (disch := omega) only [wr_id]; omega))) (by (first | assumption | omega | (simp (disch := omega) only [wr_id]; omega)))))) (hk _ G1 ?_ hb (by rw [e]; rfl))
    have := RD_led (k := x2) hd h0
    rw [cLed_2, e2] at this
    rw [e2]
    rw [show cLed (cBs F) x1 (sLd (F 100) (F 112) x1) = cBs F from cLed_s (cBs F) x1] at this
    exact this
termination_by (F 100 2 - x3).toNat
decreasing_by omega
theorem l_169_21 {Q : Rs → Mm → Prop} {x1 : Int} {S : FS} {F F1 : FI} {G G1 : FJ} (hm : MV F G) (h0 : 0 ≤ x1) (h1 : x1 ≤ F 100 3) (hd : RD F F1 G G1 (cBs F)) (hb : BF (F 100) (cBs F) (F 100 4) G1)
    (hq : ∀ F2 G2 c, RD F F2 G G2 c → c.2.2.2.2 = (-1, -1, 0) → Q (.inl (some (.inl (sGvA F (F 100 3 - x1).toNat x1)))) (mm S F2 G2)) : wph 9 169 21 [.inr (.inr (.inl 97)), .inl x1] [] (mm S F1 G1) (0, 0) Q := by
  have hv := hm.1
  obtain ⟨⟨hv1, hv2⟩, ⟨hv3, hv4⟩, ⟨hv5, hv6⟩, ⟨hv7, hv8⟩, ⟨hv9, hv10⟩, ⟨hv11, hv12⟩, ⟨hv13, hv14⟩, hvw, hvs, hvk, hvc, hvx⟩ := id hv
  refine sg_169_21 ?_
  rw [hd.1.1 100 kp100]
  refine cn_i (fun h => ?_) (fun h => ?_)
  · have en : (F 100 3 - x1).toNat = (F 100 3 - (x1 + 1)).toNat + 1 := by omega
    have eH : sGvA F (F 100 3 - x1).toNat x1 = if sGvB F x1 (sLd (F 100) (F 112) x1) (F 100 2).toNat 0 = -1 then sGvA F (F 100 3 - (x1 + 1)).toNat (x1 + 1) else sGvB F x1 (sLd (F 100) (F 112) x1) (F 100 2).toNat 0 := by rw [en]; rfl
    have e114 : F1 114 x1.toNat = sLd (F 100) (F 112) x1 := hd.2.2.2.2.1.1 x1 h0 h
    have lb := sLd_b hv hm.2.1 h0 (by omega)
    have ez : (F 100 2 - 0).toNat = (F 100 2).toNat := by omega
    refine ck_i (by (first | exact jb_i (by (first | assumption | omega | (simp (disch := omega) only [wr_id]; omega))) (by (first | assumption | omega | (simp (disch := omega) only [wr_id]; omega))) | exact jo_i (by omega) | exact jz_i (by omega) | rfl | (simp only [*]; first | rfl | exact jb_i (by (first | assumption | omega | (simp (disch := omega) only [wr_id]; omega))) (by (first | assumption | omega | (simp (disch := omega) only [wr_id]; omega)))))) ?_
    rw [e114]
    refine l_169_40 (y := sLd (F 100) (F 112) x1) hm h0 h rfl (by omega) (by omega) ?_ hb lb (fun F2 G2 y hd2 hp => ?_) (fun F2 G2 hd2 hb2 hp => ?_)
    · rw [show cLed (cBs F) x1 (sLd (F 100) (F 112) x1) = cBs F from cLed_s (cBs F) x1]
      exact hd
    · rw [ez] at hp ⊢
      have := hq F2 G2 _ hd2 rfl
      rw [eH, if_neg (by omega)] at this
      exact this
    · rw [ez] at hp
      rw [eH, if_pos hp] at hq
      exact l_169_21 hm (by omega) (by omega) hd2 hb2 hq
  · have e : (F 100 3 - x1).toNat = 0 := by omega
    have := hq F1 G1 _ hd rfl
    rw [e] at this
    exact this
termination_by (F 100 3 - x1).toNat
decreasing_by omega
theorem q_169 {k : Int → FS → FI → FJ → Prop} {S : FS} {F : FI} {G : FJ} (hM : F 97 12 ≠ 0 → MV F G) (noL : F 97 12 = 0 → k 0 S (rfs (zF F) 1 3) G) (ok : F 97 12 ≠ 0 → ∀ F' G', QP F F' G G' → k (sGvA (zF F) (F 100 3).toNat 0) S F' G') : calI 9 169 [.inr (.inr (.inl 97))] (mm S F G) k nof := by
  refine sg_169_0 ?_
  rw [show u2 F 97 0 0 = zF F from rfl]
  refine c_109 z_0 (by decide) (fun hl => cn_1 ?_) (fun hl => cn_0 ⟨_, _, _, rfl, noL (here_z hl)⟩)
  have hl := here_n hl
  have hm := hM hl
  have hv := hm.1
  have hz := MV_z hm
  obtain ⟨⟨hv1, hv2⟩, ⟨hv3, hv4⟩, ⟨hv5, hv6⟩, ⟨hv7, hv8⟩, ⟨hv9, hv10⟩, ⟨hv11, hv12⟩, ⟨hv13, hv14⟩, hvw, hvs, hvk, hvc, hvx⟩ := id hv
  have e0 : zF F 100 = F 100 := z_n (by decide)
  refine c_166 hz (fun F1 G1 hd ht hb => ?_)
  refine l_169_21 (F := zF F) hz (by omega) (by rw [e0]; omega) hd hb (fun F2 G2 c hd2 hc => ⟨_, _, _, rfl, ?_⟩)
  rw [e0, show (F 100 3 - 0).toNat = (F 100 3).toNat by omega]
  exact ok hl F2 G2 (QP_d hd2 hc)
/-- two hours changed -/
noncomputable def sSwB (F : FI) (p q a : Int) : Nat → Int → Int
  | 0, _ => -1
  | n + 1, b => @ite _ ((sLd (F 100) (F 112) a = p ∧ sLd (F 100) (F 112) b = q) ∧ 0 < sGn F (cLed (cLed (cBs F) a q) b p) p ∧ 0 < sGn F (cLed (cLed (cBs F) a q) b p) q) (Classical.propDecidable _) (100 * a + b) (sSwB F p q a n (b + 1))
noncomputable def sSwA (F : FI) (p q : Int) : Nat → Int → Int
  | 0, _ => -1
  | n + 1, a => if sSwB F p q a (F 100 3).toNat 0 = -1 then sSwA F p q n (a + 1) else sSwB F p q a (F 100 3).toNat 0
theorem cLed_x {c : Cf} {a b p q : Int} (h1 : c.1 a = p) (h2 : c.1 b = q) : cLed (cLed (cLed (cLed c a q) b p) a p) b q = c := by
  obtain ⟨c1, c2⟩ := c
  unfold cLed
  congr 1
  funext x
  have h1 : c1 a = p := h1
  have h2 : c1 b = q := h2
  by_cases e : x = b
  · simp [e, h2]
  · by_cases f : x = a
    · subst f
      simp [e, h1]
    · simp [e, f]
theorem l_171_71 {Q : Rs → Mm → Prop} {x1 x2 x3 x4 : Int} {S : FS} {F F1 : FI} {G G1 : FJ} (hm : MV F G) (p1 : 0 ≤ x1) (p2 : x1 < F 100 2) (p3 : 0 ≤ x2) (p4 : x2 < F 100 2) (h0 : 0 ≤ x3) (h1 : x3 < F 100 3) (h2 : 0 ≤ x4) (h3 : x4 ≤ F 100 3) (hd : RD F F1 G G1 (cBs F)) (hb : BF (F 100) (cBs F) (F 100 4) G1)
    (hq : ∀ F2 G2, RD F F2 G G2 (cBs F) → 0 ≤ sSwB F x1 x2 x3 (F 100 3 - x4).toNat x4 → Q (.inl (some (.inl (sSwB F x1 x2 x3 (F 100 3 - x4).toNat x4)))) (mm S F2 G2))
    (hk : ∀ F2 G2, RD F F2 G G2 (cBs F) → BF (F 100) (cBs F) (F 100 4) G2 → sSwB F x1 x2 x3 (F 100 3 - x4).toNat x4 = -1 → wph 9 171 58 [.inr (.inr (.inl 97)), .inl x1, .inl x2, .inl (x3 + 1)] [] (mm S F2 G2) (0, 0) Q) : wph 9 171 71 [.inr (.inr (.inl 97)), .inl x1, .inl x2, .inl x3, .inl x4] [] (mm S F1 G1) (0, 0) Q := by
  have hv := hm.1
  obtain ⟨⟨hv1, hv2⟩, ⟨hv3, hv4⟩, ⟨hv5, hv6⟩, ⟨hv7, hv8⟩, ⟨hv9, hv10⟩, ⟨hv11, hv12⟩, ⟨hv13, hv14⟩, hvw, hvs, hvk, hvc, hvx⟩ := id hv
  have cv : CV (F 100) (F 100 4) (cBs F) := sCf_v (w := mL F) (F 100 4) hv hm.2.1
  refine sg_171_71 ?_
  rw [hd.1.1 100 kp100]
  refine cn_i (fun h => ?_) (fun h => ?_)
  · have en : (F 100 3 - x4).toNat = (F 100 3 - (x4 + 1)).toNat + 1 := by omega
    have eH : sSwB F x1 x2 x3 (F 100 3 - x4).toNat x4 = @ite _ ((sLd (F 100) (F 112) x3 = x1 ∧ sLd (F 100) (F 112) x4 = x2) ∧ 0 < sGn F (cLed (cLed (cBs F) x3 x2) x4 x1) x1 ∧ 0 < sGn F (cLed (cLed (cBs F) x3 x2) x4 x1) x2) (Classical.propDecidable _) (100 * x3 + x4) (sSwB F x1 x2 x3 (F 100 3 - (x4 + 1)).toNat (x4 + 1)) := by rw [en]; rfl
    have nxt : ¬ ((sLd (F 100) (F 112) x3 = x1 ∧ sLd (F 100) (F 112) x4 = x2) ∧ 0 < sGn F (cLed (cLed (cBs F) x3 x2) x4 x1) x1 ∧ 0 < sGn F (cLed (cLed (cBs F) x3 x2) x4 x1) x2) → ∀ F2 G2, RD F F2 G G2 (cBs F) → BF (F 100) (cBs F) (F 100 4) G2 → wph 9 171 71 [.inr (.inr (.inl 97)), .inl x1, .inl x2, .inl x3, .inl (x4 + 1)] [] (mm S F2 G2) (0, 0) Q := by
      intro hn F2 G2 hd2 hb2
      rw [if_neg hn] at eH
      rw [eH] at hq hk
      exact l_171_71 hm p1 p2 p3 p4 h0 h1 (by omega) (by omega) hd2 hb2 hq hk
    have f3 : F1 114 x3.toNat = sLd (F 100) (F 112) x3 := hd.2.2.2.2.1.1 x3 h0 h1
    have f4 : F1 114 x4.toNat = sLd (F 100) (F 112) x4 := hd.2.2.2.2.1.1 x4 h2 h
    try simp (disch := omega) only [wr_id]
    refine ck_i (by (first | exact jb_i (by (first | assumption | omega | (simp (disch := omega) only [wr_id]; omega))) (by (first | assumption | omega | (simp (disch := omega) only [wr_id]; omega))) | exact jo_i (by omega) | exact jz_i (by omega) | rfl | (simp only [*]; first | rfl | exact jb_i (by (first | assumption | omega | (simp (disch := omega) only [wr_id]; omega))) (by (first | assumption | omega | (simp (disch := omega) only [wr_id]; omega)))))) ?_
    rw [f3]
    refine cn_i (fun g => ?_) (fun g => ?_)
    · refine ck_i (by (first | exact jb_i (by (first | assumption | omega | (simp (disch := omega) only [wr_id]; omega))) (by (first | assumption | omega | (simp (disch := omega) only [wr_id]; omega))) | exact jo_i (by omega) | exact jz_i (by omega) | rfl | (simp only [*]; first | rfl | exact jb_i (by (first | assumption | omega | (simp (disch := omega) only [wr_id]; omega))) (by (first | assumption | omega | (simp (disch := omega) only [wr_id]; omega)))))) ?_
      rw [f4]
      refine cn_i (fun g2 => ?_) (fun g2 => ?_)
      · have cl : CV (F 100) (F 100 4) (cLed (cLed (cBs F) x3 x2) x4 x1) := cLed_v (cLed_v cv p3 p4) p1 p2
        refine ck_i (by (first | exact jb_i (by (first | assumption | omega | (simp (disch := omega) only [wr_id]; omega))) (by (first | assumption | omega | (simp (disch := omega) only [wr_id]; omega))) | exact jo_i (by omega) | exact jz_i (by omega) | rfl | (simp only [*]; first | rfl | exact jb_i (by (first | assumption | omega | (simp (disch := omega) only [wr_id]; omega))) (by (first | assumption | omega | (simp (disch := omega) only [wr_id]; omega)))))) (ck_i (by (first | exact jb_i (by (first | assumption | omega | (simp (disch := omega) only [wr_id]; omega))) (by (first | assumption | omega | (simp (disch := omega) only [wr_id]; omega))) | exact jo_i (by omega) | exact jz_i (by omega) | rfl | (simp only [*]; first | rfl | exact jb_i (by (first | assumption | omega | (simp (disch := omega) only [wr_id]; omega))) (by (first | assumption | omega | (simp (disch := omega) only [wr_id]; omega)))))) ?_)
        refine c_play hm (RD_led (RD_led hd h0) h2) cl (fun F2 G2 hd2 ht2 _ hG => ?_)
        have hb2 : BF (F 100) (cBs F) (F 100 4) G2 := fun k a b => by rw [hG 124 (by decide) (by decide)]; exact hb k a b
        have tn := TN_of hd2 ht2
        have hd3 := RD_led (k := x2) (RD_led (k := x1) hd2 h0) h2
        rw [cLed_x (c := cBs F) g g2] at hd3
        refine c_146 hv (by omega) (by omega) tn p1 p2 (fun v e => ck_i (by (first | exact jb_i (by (first | assumption | omega | (simp (disch := omega) only [wr_id]; omega))) (by (first | assumption | omega | (simp (disch := omega) only [wr_id]; omega))) | exact jo_i (by omega) | exact jz_i (by omega) | rfl | (simp only [*]; first | rfl | exact jb_i (by (first | assumption | omega | (simp (disch := omega) only [wr_id]; omega))) (by (first | assumption | omega | (simp (disch := omega) only [wr_id]; omega)))))) ?_)
        have g3 := gn_i (sNow_b hv (by omega) (by omega) cl p1 p2) (sNow_b hv (by omega) (by omega) cv p1 p2)
        rw [hb2 x1 p1 p2, e]
        refine cn_i (fun g4 => ?_) (fun g4 => ?_)
        · refine c_146 hv (by omega) (by omega) tn p3 p4 (fun v2 e2' => ck_i (by (first | exact jb_i (by (first | assumption | omega | (simp (disch := omega) only [wr_id]; omega))) (by (first | assumption | omega | (simp (disch := omega) only [wr_id]; omega))) | exact jo_i (by omega) | exact jz_i (by omega) | rfl | (simp only [*]; first | rfl | exact jb_i (by (first | assumption | omega | (simp (disch := omega) only [wr_id]; omega))) (by (first | assumption | omega | (simp (disch := omega) only [wr_id]; omega)))))) ?_)
          have g5 := gn_i (sNow_b hv (by omega) (by omega) cl p3 p4) (sNow_b hv (by omega) (by omega) cv p3 p4)
          rw [hb2 x2 p3 p4, e2']
          refine cn_i (fun g6 => ?_) (fun g6 => ?_)
          · rw [if_pos ⟨⟨g, g2⟩, g3.mp g4, g5.mp g6⟩] at eH
            have := hq _ G2 hd3 (by rw [eH]; omega)
            rw [eH] at this
            exact ck_i (by (first | exact jb_i (by (first | assumption | omega | (simp (disch := omega) only [wr_id]; omega))) (by (first | assumption | omega | (simp (disch := omega) only [wr_id]; omega))) | exact jo_i (by omega) | exact jz_i (by omega) | rfl | (simp only [*]; first | rfl | exact jb_i (by (first | assumption | omega | (simp (disch := omega) only [wr_id]; omega))) (by (first | assumption | omega | (simp (disch := omega) only [wr_id]; omega)))))) (ck_i (by (first | exact jb_i (by (first | assumption | omega | (simp (disch := omega) only [wr_id]; omega))) (by (first | assumption | omega | (simp (disch := omega) only [wr_id]; omega))) | exact jo_i (by omega) | exact jz_i (by omega) | rfl | (simp only [*]; first | rfl | exact jb_i (by (first | assumption | omega | (simp (disch := omega) only [wr_id]; omega))) (by (first | assumption | omega | (simp (disch := omega) only [wr_id]; omega)))))) this)
          · exact ck_i (by (first | exact jb_i (by (first | assumption | omega | (simp (disch := omega) only [wr_id]; omega))) (by (first | assumption | omega | (simp (disch := omega) only [wr_id]; omega))) | exact jo_i (by omega) | exact jz_i (by omega) | rfl | (simp only [*]; first | rfl | exact jb_i (by (first | assumption | omega | (simp (disch := omega) only [wr_id]; omega))) (by (first | assumption | omega | (simp (disch := omega) only [wr_id]; omega)))))) (ck_i (by (first | exact jb_i (by (first | assumption | omega | (simp (disch := omega) only [wr_id]; omega))) (by (first | assumption | omega | (simp (disch := omega) only [wr_id]; omega))) | exact jo_i (by omega) | exact jz_i (by omega) | rfl | (simp only [*]; first | rfl | exact jb_i (by (first | assumption | omega | (simp (disch := omega) only [wr_id]; omega))) (by (first | assumption | omega | (simp (disch := omega) only [wr_id]; omega)))))) (nxt (fun r => g6 (g5.mpr r.2.2)) _ G2 hd3 hb2))
        · exact ck_i (by (first | exact jb_i (by (first | assumption | omega | (simp (disch := omega) only [wr_id]; omega))) (by (first | assumption | omega | (simp (disch := omega) only [wr_id]; omega))) | exact jo_i (by omega) | exact jz_i (by omega) | rfl | (simp only [*]; first | rfl | exact jb_i (by (first | assumption | omega | (simp (disch := omega) only [wr_id]; omega))) (by (first | assumption | omega | (simp (disch := omega) only [wr_id]; omega)))))) (ck_i (by (first | exact jb_i (by (first | assumption | omega | (simp (disch := omega) only [wr_id]; omega))) (by (first | assumption | omega | (simp (disch := omega) only [wr_id]; omega))) | exact jo_i (by omega) | exact jz_i (by omega) | rfl | (simp only [*]; first | rfl | exact jb_i (by (first | assumption | omega | (simp (disch := omega) only [wr_id]; omega))) (by (first | assumption | omega | (simp (disch := omega) only [wr_id]; omega)))))) (nxt (fun r => g4 (g3.mpr r.2.1)) _ G2 hd3 hb2))
      · exact nxt (fun r => g2 r.1.2) F1 G1 hd hb
    · exact nxt (fun r => g r.1.1) F1 G1 hd hb
  · have e : (F 100 3 - x4).toNat = 0 := by omega
    try simp (disch := omega) only [wr_id]
    exact hk _ G1 hd hb (by rw [e]; rfl)
termination_by (F 100 3 - x4).toNat
decreasing_by omega
theorem l_171_58 {Q : Rs → Mm → Prop} {x1 x2 x3 : Int} {S : FS} {F F1 : FI} {G G1 : FJ} (hm : MV F G) (p1 : 0 ≤ x1) (p2 : x1 < F 100 2) (p3 : 0 ≤ x2) (p4 : x2 < F 100 2) (h0 : 0 ≤ x3) (h1 : x3 ≤ F 100 3) (hd : RD F F1 G G1 (cBs F)) (hb : BF (F 100) (cBs F) (F 100 4) G1)
    (hq : ∀ F2 G2, RD F F2 G G2 (cBs F) → Q (.inl (some (.inl (sSwA F x1 x2 (F 100 3 - x3).toNat x3)))) (mm S F2 G2)) : wph 9 171 58 [.inr (.inr (.inl 97)), .inl x1, .inl x2, .inl x3] [] (mm S F1 G1) (0, 0) Q := by
  have hv := hm.1
  obtain ⟨⟨hv1, hv2⟩, ⟨hv3, hv4⟩, ⟨hv5, hv6⟩, ⟨hv7, hv8⟩, ⟨hv9, hv10⟩, ⟨hv11, hv12⟩, ⟨hv13, hv14⟩, hvw, hvs, hvk, hvc, hvx⟩ := id hv
  refine sg_171_58 ?_
  rw [hd.1.1 100 kp100]
  refine cn_i (fun h => ?_) (fun h => ?_)
  · have en : (F 100 3 - x3).toNat = (F 100 3 - (x3 + 1)).toNat + 1 := by omega
    have eH : sSwA F x1 x2 (F 100 3 - x3).toNat x3 = if sSwB F x1 x2 x3 (F 100 3).toNat 0 = -1 then sSwA F x1 x2 (F 100 3 - (x3 + 1)).toNat (x3 + 1) else sSwB F x1 x2 x3 (F 100 3).toNat 0 := by rw [en]; rfl
    have ez : (F 100 3 - 0).toNat = (F 100 3).toNat := by omega
    refine l_171_71 hm p1 p2 p3 p4 h0 h (by omega) (by omega) hd hb (fun F2 G2 hd2 hp => ?_) (fun F2 G2 hd2 hb2 hp => ?_)
    · rw [ez] at hp ⊢
      have := hq F2 G2 hd2
      rw [eH, if_neg (by omega)] at this
      exact this
    · rw [ez] at hp
      rw [eH, if_pos hp] at hq
      exact l_171_58 hm p1 p2 p3 p4 (by omega) (by omega) hd2 hb2 hq
  · have e : (F 100 3 - x3).toNat = 0 := by omega
    have := hq F1 G1 hd
    rw [e] at this
    exact this
termination_by (F 100 3 - x3).toNat
decreasing_by omega
theorem q_171 {k : Int → FS → FI → FJ → Prop} {x1 x2 : Int} {S : FS} {F : FI} {G : FJ} (hM : F 97 12 ≠ 0 → MV F G) (noL : F 97 12 = 0 → k 0 S (rfs (zF F) 3 3) G) (noP : F 97 12 ≠ 0 → ¬ ((0 ≤ x1 ∧ x1 < F 100 2) ∧ 0 ≤ x2 ∧ x2 < F 100 2) → k 0 S (rfs (zF F) 1 0) G)
    (noA : F 97 12 ≠ 0 → 0 ≤ x1 ∧ x1 < F 100 2 → 0 ≤ x2 ∧ x2 < F 100 2 → x1 = x2 → k 0 S (rfs (zF F) 2 2) G)
    (ok : F 97 12 ≠ 0 → 0 ≤ x1 ∧ x1 < F 100 2 → 0 ≤ x2 ∧ x2 < F 100 2 → x1 ≠ x2 → ∀ F' G', QP F F' G G' → k (sSwA (zF F) x1 x2 (F 100 3).toNat 0) S F' G') : calI 9 171 [.inr (.inr (.inl 97)), .inl x1, .inl x2] (mm S F G) k nof := by
  refine sg_171_0 ?_
  rw [show u2 F 97 0 0 = zF F from rfl]
  refine c_109 z_0 (by decide) (fun hl => cn_1 ?_) (fun hl => cn_0 ⟨_, _, _, rfl, noL (here_z hl)⟩)
  have hl := here_n hl
  have hm := hM hl
  have hv := hm.1
  have hz := MV_z hm
  obtain ⟨⟨hv1, hv2⟩, ⟨hv3, hv4⟩, ⟨hv5, hv6⟩, ⟨hv7, hv8⟩, ⟨hv9, hv10⟩, ⟨hv11, hv12⟩, ⟨hv13, hv14⟩, hvw, hvs, hvk, hvc, hvx⟩ := id hv
  have e0 : zF F 100 = F 100 := z_n (by decide)
  refine c_110 z_0 (by decide) (by rw [e0]; omega) (by rw [e0]; omega) (fun p1 p2 => cn_1 ?_) (fun q => cn_0 ⟨_, _, _, rfl, noP hl (by rw [e0] at q; exact fun r => q r.1)⟩)
  refine c_110 z_0 (by decide) (by rw [e0]; omega) (by rw [e0]; omega) (fun p3 p4 => cn_1 ?_) (fun q => cn_0 ⟨_, _, _, rfl, noP hl (by rw [e0] at q; exact fun r => q r.2)⟩)
  refine cn_i (fun g => ?_) (fun g => ?_)
  · rw [e0] at p2 p4
    exact c_69 z_0 (by decide) (by decide) (by decide) (fun q => absurd rfl q) (fun _ => cn_0 ⟨_, _, _, rfl, noA hl ⟨p1, p2⟩ ⟨p3, p4⟩ g⟩)
  · refine c_69 z_0 (by decide) (by decide) (by decide) (fun _ => cn_1 ?_) (fun q => absurd q (by decide))
    refine c_166 hz (fun F1 G1 hd ht hb => ?_)
    refine l_171_58 (F := zF F) hz p1 p2 p3 p4 (by omega) (by rw [e0]; omega) hd hb (fun F2 G2 hd2 => ⟨_, _, _, rfl, ?_⟩)
    rw [e0] at p2 p4 ⊢
    rw [show (F 100 3 - 0).toNat = (F 100 3).toNat by omega]
    exact ok hl ⟨p1, p2⟩ ⟨p3, p4⟩ g F2 G2 (QP_d hd2 rfl)
