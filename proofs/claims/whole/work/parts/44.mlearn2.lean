/-! ===== what the reference learns, on ===== -/
theorem sMk_nz (f : Int → Prop) : ∀ n : Nat, sMk f n ≠ 0 → ∃ m : Nat, m < n ∧ f m := by
  intro n
  induction n with
  | zero => intro h; exact absurd rfl h
  | succ j ih =>
    intro h
    by_cases c : f j
    · exact ⟨j, by omega, c⟩
    · have : sMk f (j + 1) = sMk f j := by
        show sMk f j + _ = _
        rw [if_neg c, Int.add_zero]
      rw [this] at h
      obtain ⟨m, a, b⟩ := ih h
      exact ⟨m, by omega, b⟩
theorem MK_mask {l : Nat → Int} (hv : LV l) (st : Int) (w : La) (sk : Int) : MK l st (sMask l w sk) := by
  obtain ⟨⟨hv1, hv2⟩, ⟨hv3, hv4⟩, ⟨hv5, hv6⟩, ⟨hv7, hv8⟩, ⟨hv9, hv10⟩, ⟨hv11, hv12⟩, ⟨hv13, hv14⟩, hvw, hvs, hvk, hvc, hvx⟩ := id hv
  intro k h p n _ _ _ _ _ _ _ _ _
  unfold sMask
  have b := sMk_b (sLf l w sk k h p n) (l 1 + 1).toNat
  have b2 : sMk (sLf l w sk k h p n) (l 1 + 1).toNat < 2 ^ 25 := Int.lt_of_lt_of_le b.2 (by
    have : (2 : Nat) ^ (l 1 + 1).toNat ≤ 2 ^ 25 := Nat.pow_le_pow_right (by decide) (by omega)
    exact_mod_cast this)
  by_cases c : sRaw l w sk k h p n = 0
  · rw [if_pos c]
    exact ⟨by decide, by decide, 0, by omega, by omega, by unfold bit; decide⟩
  · rw [if_neg c]
    obtain ⟨m, m1, m2⟩ := sMk_nz _ _ c
    exact ⟨b.1, b2, m, by omega, by omega, (sMk_bit _ _ m m1).mpr m2⟩
def da (k h p n k' h' p' n' : Int) : Prop := k' < k ∨ k' = k ∧ (h' < h ∨ h' = h ∧ (p' < p ∨ p' = p ∧ n' < n))
def LI (l : Nat → Int) (w : La) (sk st : Int) (F F0 : FI) (k h p n : Int) : Prop := (∀ k' h' p' n', 0 ≤ k' → k' < l 2 → vs l st h' p' n' → sEnd l h' p' n' = 0 → da k h p n k' h' p' n' → F 116 (k' * 3900 + ((h' * 12 + p') * 13 + n')).toNat = sRaw l w sk k' h' p' n') ∧
  (∀ a, a ≠ 110 → a ≠ 111 → a ≠ 116 → F a = F0 a)
theorem mL_l {F F0 : FI} (hF : ∀ a, a ≠ 110 → a ≠ 111 → a ≠ 116 → F a = F0 a) : mL F = mL F0 :=
  mL_c (by rw [hF 97 (by decide) (by decide) (by decide)]) (hF _ (by decide) (by decide) (by decide)) (hF _ (by decide) (by decide) (by decide)) (hF _ (by decide) (by decide) (by decide)) (hF _ (by decide) (by decide) (by decide))
theorem l_129_39 {Q : Rs → Mm → Prop} {x1 x2 x3 x4 : Int} {S : FS} {F F0 : FI} {G : FJ} (hv : LV (F0 100)) (hw : LW (mL F0)) (hs : 0 ≤ F0 97 31) (hst : F0 97 31 ≤ 12) (h1 : 0 ≤ x1) (h1' : x1 < F0 100 2) (h2 : 0 ≤ x2) (h2' : x2 < F0 100 3) (h3 : 0 ≤ x3) (h3' : x3 < F0 100 0) (h4 : 0 ≤ x4) (h4' : x4 ≤ F0 97 31 + 1)
    (hd : LI (F0 100) (mL F0) (F0 97 32) (F0 97 31) F F0 x1 x2 x3 x4) (hk : ∀ F', LI (F0 100) (mL F0) (F0 97 32) (F0 97 31) F' F0 x1 x2 (x3 + 1) 0 → wph 5 129 26 [.inr (.inr (.inl 97)), .inl x1, .inl x2, .inl (x3 + 1)] [] (mm S F' G) (0, 0) Q) :
    wph 5 129 39 [.inr (.inr (.inl 97)), .inl x1, .inl x2, .inl x3, .inl x4] [] (mm S F G) (0, 0) Q := by
  obtain ⟨⟨hv1, hv2⟩, ⟨hv3, hv4⟩, ⟨hv5, hv6⟩, ⟨hv7, hv8⟩, ⟨hv9, hv10⟩, ⟨hv11, hv12⟩, ⟨hv13, hv14⟩, hvw, hvs, hvk, hvc, hvx⟩ := id hv
  have e100 := hd.2 100 (by decide) (by decide) (by decide)
  have e97 := hd.2 97 (by decide) (by decide) (by decide)
  have eml := mL_l hd.2
  refine sg_129_39 ?_
  rw [e97]
  try simp (disch := omega) only [wr_id]
  refine cn_i (fun h => ?_) (fun h => ?_)
  · refine hk F ⟨fun k' h' p' n' k1 k2 a e d => hd.1 k' h' p' n' k1 k2 a e ?_, hd.2⟩
    unfold da at d ⊢
    unfold vs at a
    omega
  · refine c_124 (by omega) (by omega) (fun v1 e1 => ?_)
    rw [e100] at e1
    refine cn_i (fun g => ?_) (fun g => ?_)
    · refine c_123 (by omega) (by omega) (by omega) (by omega) (by omega) (by omega) (fun _ e => ?_)
      subst e
      refine c_128 (by rw [e100]; exact hv) (by rw [eml]; exact hw) h2 (by rw [e100]; exact h2') h3 (by rw [e100]; exact h3') (fun v3 F' e3 hF' => ?_)
      rw [e100, eml, e97] at e3
      try simp (disch := omega) only [wr_id]
      refine ck_i (by (first | exact jb_i (by (first | assumption | omega | (simp (disch := omega) only [wr_id]; omega))) (by (first | assumption | omega | (simp (disch := omega) only [wr_id]; omega))) | exact jo_i (by omega) | exact jz_i (by omega) | rfl | (simp only [*]; first | rfl | exact jb_i (by (first | assumption | omega | (simp (disch := omega) only [wr_id]; omega))) (by (first | assumption | omega | (simp (disch := omega) only [wr_id]; omega)))))) ?_
      refine l_129_39 hv hw hs hst h1 h1' h2 h2' h3 h3' (by omega) (by omega) ⟨fun k' h' p' n' k1 k2 a e d => ?_, fun a a1 a2 a3 => ?_⟩ hk
      · have a' := a
        unfold vs at a'
        rw [u2_k]
        by_cases q : k' = x1 ∧ h' = x2 ∧ p' = x3 ∧ n' = x4
        · rw [q.1, q.2.1, q.2.2.1, q.2.2.2, if_pos rfl, e3]
        · rw [if_neg (by omega), hF' 116 (by decide) (by decide)]
          refine hd.1 k' h' p' n' k1 k2 a e ?_
          unfold da at d ⊢
          omega
      · rw [u2_o a3, hF' a a1 a2]
        exact hd.2 a a1 a2 a3
    · refine l_129_39 hv hw hs hst h1 h1' h2 h2' h3 h3' (by omega) (by omega) ⟨fun k' h' p' n' k1 k2 a e d => hd.1 k' h' p' n' k1 k2 a e ?_, hd.2⟩ hk
      have : ¬ (k' = x1 ∧ h' = x2 ∧ p' = x3 ∧ n' = x4) := fun q => by
        rw [q.2.1, q.2.2.1, q.2.2.2] at e
        omega
      unfold da at d ⊢
      omega
termination_by (F0 97 31 + 1 - x4).toNat
decreasing_by all_goals omega
theorem l_129_26 {Q : Rs → Mm → Prop} {x1 x2 x3 : Int} {S : FS} {F F0 : FI} {G : FJ} (hv : LV (F0 100)) (hw : LW (mL F0)) (hs : 0 ≤ F0 97 31) (hst : F0 97 31 ≤ 12) (h1 : 0 ≤ x1) (h1' : x1 < F0 100 2) (h2 : 0 ≤ x2) (h2' : x2 < F0 100 3) (h3 : 0 ≤ x3) (h3' : x3 ≤ F0 100 0)
    (hd : LI (F0 100) (mL F0) (F0 97 32) (F0 97 31) F F0 x1 x2 x3 0) (hk : ∀ F', LI (F0 100) (mL F0) (F0 97 32) (F0 97 31) F' F0 x1 (x2 + 1) 0 0 → wph 5 129 14 [.inr (.inr (.inl 97)), .inl x1, .inl (x2 + 1)] [] (mm S F' G) (0, 0) Q) :
    wph 5 129 26 [.inr (.inr (.inl 97)), .inl x1, .inl x2, .inl x3] [] (mm S F G) (0, 0) Q := by
  obtain ⟨⟨hv1, hv2⟩, ⟨hv3, hv4⟩, ⟨hv5, hv6⟩, ⟨hv7, hv8⟩, ⟨hv9, hv10⟩, ⟨hv11, hv12⟩, ⟨hv13, hv14⟩, hvw, hvs, hvk, hvc, hvx⟩ := id hv
  have e100 := hd.2 100 (by decide) (by decide) (by decide)
  refine sg_129_26 ?_
  rw [e100]
  try simp (disch := omega) only [wr_id]
  refine cn_i (fun h => ?_) (fun h => ?_)
  · exact l_129_39 hv hw hs hst h1 h1' h2 h2' h3 h (by omega) (by omega) hd (fun F' hd' => l_129_26 hv hw hs hst h1 h1' h2 h2' (by omega) (by omega) hd' hk)
  · refine hk F ⟨fun k' h' p' n' k1 k2 a e d => hd.1 k' h' p' n' k1 k2 a e ?_, hd.2⟩
    unfold da at d ⊢
    unfold vs at a
    omega
termination_by (F0 100 0 - x3).toNat
decreasing_by omega
theorem l_129_14 {Q : Rs → Mm → Prop} {x1 x2 : Int} {S : FS} {F F0 : FI} {G : FJ} (hv : LV (F0 100)) (hw : LW (mL F0)) (hs : 0 ≤ F0 97 31) (hst : F0 97 31 ≤ 12) (h1 : 0 ≤ x1) (h1' : x1 < F0 100 2) (h2 : 0 ≤ x2) (h2' : x2 ≤ F0 100 3)
    (hd : LI (F0 100) (mL F0) (F0 97 32) (F0 97 31) F F0 x1 x2 0 0) (hk : ∀ F', LI (F0 100) (mL F0) (F0 97 32) (F0 97 31) F' F0 (x1 + 1) 0 0 0 → wph 5 129 2 [.inr (.inr (.inl 97)), .inl (x1 + 1)] [] (mm S F' G) (0, 0) Q) :
    wph 5 129 14 [.inr (.inr (.inl 97)), .inl x1, .inl x2] [] (mm S F G) (0, 0) Q := by
  obtain ⟨⟨hv1, hv2⟩, ⟨hv3, hv4⟩, ⟨hv5, hv6⟩, ⟨hv7, hv8⟩, ⟨hv9, hv10⟩, ⟨hv11, hv12⟩, ⟨hv13, hv14⟩, hvw, hvs, hvk, hvc, hvx⟩ := id hv
  have e100 := hd.2 100 (by decide) (by decide) (by decide)
  refine sg_129_14 ?_
  rw [e100]
  try simp (disch := omega) only [wr_id]
  refine cn_i (fun h => ?_) (fun h => ?_)
  · exact l_129_26 hv hw hs hst h1 h1' h2 h (by omega) (by omega) hd (fun F' hd' => l_129_14 hv hw hs hst h1 h1' (by omega) (by omega) hd' hk)
  · refine hk F ⟨fun k' h' p' n' k1 k2 a e d => hd.1 k' h' p' n' k1 k2 a e ?_, hd.2⟩
    have := (sEnd_n e).2
    unfold da at d ⊢
    unfold vs at a
    omega
termination_by (F0 100 3 - x2).toNat
decreasing_by omega
theorem l_129_2 {Q : Rs → Mm → Prop} {x1 : Int} {S : FS} {F F0 : FI} {G : FJ} (hv : LV (F0 100)) (hw : LW (mL F0)) (hs : 0 ≤ F0 97 31) (hst : F0 97 31 ≤ 12) (h1 : 0 ≤ x1) (h1' : x1 ≤ F0 100 2)
    (hd : LI (F0 100) (mL F0) (F0 97 32) (F0 97 31) F F0 x1 0 0 0) (hk : ∀ F', LI (F0 100) (mL F0) (F0 97 32) (F0 97 31) F' F0 (F0 100 2) 0 0 0 → wph 5 129 119 [.inr (.inr (.inl 97)), .inr (.inl 1), jk, .inl (F0 100 3)] [] (mm S F' G) (0, 0) Q) :
    wph 5 129 2 [.inr (.inr (.inl 97)), .inl x1] [] (mm S F G) (0, 0) Q := by
  obtain ⟨⟨hv1, hv2⟩, ⟨hv3, hv4⟩, ⟨hv5, hv6⟩, ⟨hv7, hv8⟩, ⟨hv9, hv10⟩, ⟨hv11, hv12⟩, ⟨hv13, hv14⟩, hvw, hvs, hvk, hvc, hvx⟩ := id hv
  have e100 := hd.2 100 (by decide) (by decide) (by decide)
  refine sg_129_2 ?_
  rw [e100]
  try simp (disch := omega) only [wr_id]
  refine cn_i (fun h => ?_) (fun h => ?_)
  · exact l_129_14 hv hw hs hst h1 h (by omega) (by omega) hd (fun F' hd' => l_129_2 hv hw hs hst (by omega) (by omega) hd' hk)
  · have : x1 = F0 100 2 := by omega
    subst this
    exact hk F hd
termination_by (F0 100 2 - x1).toNat
decreasing_by omega
theorem l_129_119 {Q : Rs → Mm → Prop} {y1 x3 : Int} {S : FS} {F F0 : FI} {G G0 : FJ} (hv : LV (F0 100)) (h3 : -1 ≤ x3) (h3' : x3 ≤ F0 100 3) (hy : y1 = sScH (F0 100) (x3 + 1)) (hF : ∀ a, a ≠ 122 → F a = F0 a) (hG : ∀ a, a ≠ 118 → G a = G0 a)
    (hsy : ∀ h, x3 < h → h < F0 100 3 → F 122 h.toNat = sSy (F0 100) h) (hsc : ∀ h, x3 < h → h ≤ F0 100 3 → G 118 h.toNat = sScH (F0 100) h)
    (hk : ∀ F' G', (∀ a, a ≠ 122 → F' a = F0 a) → (∀ a, a ≠ 118 → G' a = G0 a) → (∀ h, 0 ≤ h → h < F0 100 3 → F' 122 h.toNat = sSy (F0 100) h) → (∀ h, 0 ≤ h → h ≤ F0 100 3 → G' 118 h.toNat = sScH (F0 100) h) → wph 5 129 182 [.inr (.inr (.inl 97)), jk, jk, .inl 0] [] (mm S F' G') (0, 0) Q) :
    wph 5 129 119 [.inr (.inr (.inl 97)), .inr (.inl y1), jk, .inl x3] [] (mm S F G) (0, 0) Q := by
  obtain ⟨⟨hv1, hv2⟩, ⟨hv3, hv4⟩, ⟨hv5, hv6⟩, ⟨hv7, hv8⟩, ⟨hv9, hv10⟩, ⟨hv11, hv12⟩, ⟨hv13, hv14⟩, hvw, hvs, hvk, hvc, hvx⟩ := id hv
  have e100 := hF 100 (by decide)
  refine sg_129_119 ?_
  rw [e100]
  refine cn_i (fun h => ?_) (fun h => ?_)
  · exact hk F G hF hG (fun h a b => hsy h (by omega) b) (fun h a b => hsc h (by omega) b)
  · have sb := sScH_b hv (h := x3) (by omega) h3'
    have nxt : ∀ s y : Int, (x3 < F0 100 3 → s = sSy (F0 100) x3) → y = sScH (F0 100) x3 → wph 5 129 119 [.inr (.inr (.inl 97)), .inr (.inl y), jk, .inl (x3 + -1)] [] (mm S (u2 F 122 x3.toNat s) (u2 G 118 x3.toNat y)) (0, 0) Q := by
      intro s y es ey
      refine l_129_119 hv (by omega) (by omega) (by rw [ey]; congr 1; omega) (off_uI hF) (off_u hG) (fun h a b => ?_) (fun h a b => ?_) hk
      · rw [u2_k]
        by_cases c : h = x3
        · rw [if_pos (by rw [c]), c]; exact es (by omega)
        · rw [if_neg (by omega)]; exact hsy h (by omega) b
      · rw [u2_k]
        by_cases c : h = x3
        · rw [if_pos (by rw [c]), c, ey]
        · rw [if_neg (by omega)]; exact hsc h (by omega) b
    try simp (disch := omega) only [wr_id]
    refine cn_i (fun g => ?_) (fun g => ?_)
    · have ss := sSc_s (F0 100) (h := x3) (by omega) g
      rw [← hy] at ss
      refine c_114 (by rw [e100]; exact hv) (by omega) (by omega) (fun v1 e1 => ?_)
      rw [e100] at e1
      have h01 := sSy_01 (F0 100) x3
      refine cn_i (fun z => ?_) (fun z => ?_)
      · refine ck_i (by (first | exact jb_i (by (first | assumption | omega | (simp (disch := omega) only [wr_id]; omega))) (by (first | assumption | omega | (simp (disch := omega) only [wr_id]; omega))) | exact jo_i (by omega) | exact jz_i (by omega) | rfl | (simp only [*]; first | rfl | exact jb_i (by (first | assumption | omega | (simp (disch := omega) only [wr_id]; omega))) (by (first | assumption | omega | (simp (disch := omega) only [wr_id]; omega)))))) (ck_i (by (first | exact jb_i (by (first | assumption | omega | (simp (disch := omega) only [wr_id]; omega))) (by (first | assumption | omega | (simp (disch := omega) only [wr_id]; omega))) | exact jo_i (by omega) | exact jz_i (by omega) | rfl | (simp only [*]; first | rfl | exact jb_i (by (first | assumption | omega | (simp (disch := omega) only [wr_id]; omega))) (by (first | assumption | omega | (simp (disch := omega) only [wr_id]; omega)))))) (cn_i (fun q => ?_) (fun q => absurd u2_s q)))
        refine ck_i (by (first | exact jb_i (by (first | assumption | omega | (simp (disch := omega) only [wr_id]; omega))) (by (first | assumption | omega | (simp (disch := omega) only [wr_id]; omega))) | exact jo_i (by omega) | exact jz_i (by omega) | rfl | (simp only [*]; first | rfl | exact jb_i (by (first | assumption | omega | (simp (disch := omega) only [wr_id]; omega))) (by (first | assumption | omega | (simp (disch := omega) only [wr_id]; omega)))))) (nxt 0 y1 (fun _ => by omega) ?_)
        rw [ss, if_neg (by omega), Int.mul_one]
      · refine ck_i (by (first | exact jb_i (by (first | assumption | omega | (simp (disch := omega) only [wr_id]; omega))) (by (first | assumption | omega | (simp (disch := omega) only [wr_id]; omega))) | exact jo_i (by omega) | exact jz_i (by omega) | rfl | (simp only [*]; first | rfl | exact jb_i (by (first | assumption | omega | (simp (disch := omega) only [wr_id]; omega))) (by (first | assumption | omega | (simp (disch := omega) only [wr_id]; omega)))))) (ck_i (by (first | exact jb_i (by (first | assumption | omega | (simp (disch := omega) only [wr_id]; omega))) (by (first | assumption | omega | (simp (disch := omega) only [wr_id]; omega))) | exact jo_i (by omega) | exact jz_i (by omega) | rfl | (simp only [*]; first | rfl | exact jb_i (by (first | assumption | omega | (simp (disch := omega) only [wr_id]; omega))) (by (first | assumption | omega | (simp (disch := omega) only [wr_id]; omega)))))) (cn_i (fun q => by rw [u2_s] at q; exact absurd q (by decide)) (fun q => ?_)))
        rw [if_pos (by omega)] at ss
        rw [← ss, wl_id (by omega) (by omega)]
        exact ck_i (by (first | exact jb_i (by (first | assumption | omega | (simp (disch := omega) only [wr_id]; omega))) (by (first | assumption | omega | (simp (disch := omega) only [wr_id]; omega))) | exact jo_i (by omega) | exact jz_i (by omega) | rfl | (simp only [*]; first | rfl | exact jb_i (by (first | assumption | omega | (simp (disch := omega) only [wr_id]; omega))) (by (first | assumption | omega | (simp (disch := omega) only [wr_id]; omega)))))) (nxt 1 _ (fun _ => by omega) rfl)
    · refine ck_i (by (first | exact jb_i (by (first | assumption | omega | (simp (disch := omega) only [wr_id]; omega))) (by (first | assumption | omega | (simp (disch := omega) only [wr_id]; omega))) | exact jo_i (by omega) | exact jz_i (by omega) | rfl | (simp only [*]; first | rfl | exact jb_i (by (first | assumption | omega | (simp (disch := omega) only [wr_id]; omega))) (by (first | assumption | omega | (simp (disch := omega) only [wr_id]; omega)))))) (ck_i (by (first | exact jb_i (by (first | assumption | omega | (simp (disch := omega) only [wr_id]; omega))) (by (first | assumption | omega | (simp (disch := omega) only [wr_id]; omega))) | exact jo_i (by omega) | exact jz_i (by omega) | rfl | (simp only [*]; first | rfl | exact jb_i (by (first | assumption | omega | (simp (disch := omega) only [wr_id]; omega))) (by (first | assumption | omega | (simp (disch := omega) only [wr_id]; omega)))))) (cn_i (fun q => ?_) (fun q => absurd u2_s q)))
      have e : x3 = F0 100 3 := by omega
      refine ck_i (by (first | exact jb_i (by (first | assumption | omega | (simp (disch := omega) only [wr_id]; omega))) (by (first | assumption | omega | (simp (disch := omega) only [wr_id]; omega))) | exact jo_i (by omega) | exact jz_i (by omega) | rfl | (simp only [*]; first | rfl | exact jb_i (by (first | assumption | omega | (simp (disch := omega) only [wr_id]; omega))) (by (first | assumption | omega | (simp (disch := omega) only [wr_id]; omega)))))) (nxt 0 y1 (fun c => by omega) ?_)
      rw [hy, e]
      unfold sScH
      rw [show (F0 100 3 - (F0 100 3 + 1)).toNat = 0 by omega, show (F0 100 3 - F0 100 3).toNat = 0 by omega]
termination_by (x3 + 1).toNat
decreasing_by omega
theorem l_129_182 {Q : Rs → Mm → Prop} {mk : Int → Int → Int → Int → Int} {x3 : Int} {S : FS} {F : FI} {G G0 : FJ} (hv : LV (F 100)) (hs : 0 ≤ F 97 31) (hst : F 97 31 ≤ 12) (hmf : MF (F 116) (F 100) (F 97 31) mk) (hm : MK (F 100) (F 97 31) mk)
    (hsy : ∀ h, 0 ≤ h → h < F 100 3 → F 122 h.toNat = sSy (F 100) h) (hsc : ∀ h, 0 ≤ h → h ≤ F 100 3 → G0 118 h.toNat = sScH (F 100) h) (h3 : 0 ≤ x3) (h3' : x3 ≤ F 100 2) (hG : ∀ a, a ≠ 120 → G a = G0 a)
    (ha : ∀ k h p n, 0 ≤ k → k < x3 → vs (F 100) (F 97 31) h p n → G 120 (k * 3900 + ((h * 12 + p) * 13 + n)).toNat = sDr (F 100) (F 97 31) mk (fun _ => k) k (F 100 3 - h).toNat p n) (hB : ∀ i, B5 (G 120 i))
    (hq : ∀ G', (∀ a, a ≠ 120 → G' a = G0 a) → RDY (F 100) (F 97 31) mk F G' → Q (.inl none) (mm S F G')) : wph 5 129 182 [.inr (.inr (.inl 97)), jk, jk, .inl x3] [] (mm S F G) (0, 0) Q := by
  obtain ⟨⟨hv1, hv2⟩, ⟨hv3, hv4⟩, ⟨hv5, hv6⟩, ⟨hv7, hv8⟩, ⟨hv9, hv10⟩, ⟨hv11, hv12⟩, ⟨hv13, hv14⟩, hvw, hvs, hvk, hvc, hvx⟩ := id hv
  refine sg_129_182 ?_
  refine cn_i (fun h => ?_) (fun h => ?_)
  · refine c_135 (mk := mk) hv hs hst hmf hm hsy (fun h a b => by rw [hG 118 (by decide)]; exact hsc h a b) h3 h hB (fun G' hd => ?_)
    try simp (disch := omega) only [wr_id]
    refine l_129_182 hv hs hst hmf hm hsy hsc (by omega) (by omega) (fun a a1 => (hd.2.2 a a1).trans (hG a a1)) (fun k h p n k1 k2 w => ?_) hd.2.1 hq
    have w' := w
    unfold vs at w'
    by_cases e : k = x3
    · rw [e]
      exact hd.1.1 h p n w (Or.inl (by omega))
    · rw [hd.1.2 _ (by omega)]
      exact ha k h p n k1 (by omega) w
  · have : x3 = F 100 2 := by omega
    subst this
    exact hq G hG ⟨hmf, hsy, fun h a b => by rw [hG 118 (by decide)]; exact hsc h a b, ha, hB⟩
termination_by (F 100 2 - x3).toNat
decreasing_by omega
theorem RDY_s {l : Nat → Int} {w : La} {sk st : Int} {F F0 : FI} (h : LI l w sk st F F0 (l 2) 0 0 0) : MF (F 116) l st (sMask l w sk) := by
  intro k h' p n k1 k2 a e
  have := h.1 k h' p n k1 k2 a e (Or.inl k2)
  rw [this]
  rfl
theorem c_129 {k : FS → FI → FJ → Prop} {S : FS} {F : FI} {G : FJ} (hv : LV (F 100)) (hw : LW (mL F)) (hs : 0 ≤ F 97 31) (hst : F 97 31 ≤ 12) (hB : ∀ i, B5 (G 120 i))
    (hk : ∀ F' G', RDY (F 100) (F 97 31) (sMask (F 100) (mL F) (F 97 32)) F' G' → (∀ a, a ≠ 110 → a ≠ 111 → a ≠ 116 → a ≠ 122 → F' a = F a) → (∀ a, a ≠ 118 → a ≠ 120 → G' a = G a) → k S F' G') : calV 5 129 [.inr (.inr (.inl 97))] (mm S F G) k nof := by
  obtain ⟨⟨hv1, hv2⟩, ⟨hv3, hv4⟩, ⟨hv5, hv6⟩, ⟨hv7, hv8⟩, ⟨hv9, hv10⟩, ⟨hv11, hv12⟩, ⟨hv13, hv14⟩, hvw, hvs, hvk, hvc, hvx⟩ := id hv
  refine sg_129_0 ?_
  refine l_129_2 hv hw hs hst (by omega) (by omega) ⟨fun k' h' p' n' k1 k2 a e d => ?_, fun _ _ _ _ => rfl⟩ (fun F1 hd => ?_)
  · unfold da at d
    unfold vs at a
    omega
  · have e100 := hd.2 100 (by decide) (by decide) (by decide)
    have e97 := hd.2 97 (by decide) (by decide) (by decide)
    rw [← e100]
    refine l_129_119 (F0 := F1) (G0 := G) (by rw [e100]; exact hv) (by rw [e100]; omega) (Int.le_refl _) ?_ (fun _ _ => rfl) (fun _ _ => rfl) (fun h a b => by omega) (fun h a b => by omega) (fun F2 G2 hF2 hG2 hsy hsc => ?_)
    · unfold sScH
      rw [show (F1 100 3 - (F1 100 3 + 1)).toNat = 0 by omega]
      rfl
    · have f100 := (hF2 100 (by decide)).trans e100
      have f97 := (hF2 97 (by decide)).trans e97
      refine l_129_182 (mk := sMask (F 100) (mL F) (F 97 32)) (G0 := G2) (by rw [f100]; exact hv) (by rw [f97]; exact hs) (by rw [f97]; exact hst) (by rw [f100, f97, hF2 116 (by decide)]; exact RDY_s hd) (by rw [f100, f97]; exact MK_mask hv _ _ _)
        (by rw [f100]; rw [e100] at hsy; exact hsy) (by rw [f100]; rw [e100] at hsc; exact hsc) (by omega) (by rw [f100]; omega) (fun _ _ => rfl) (fun k h p n k1 k2 => by omega) (fun i => by rw [hG2 120 (by decide)]; exact hB i) (fun G' hG' hr => ⟨_, _, _, rfl, hk F2 G' ?_ ?_ ?_⟩)
      · rw [f100, f97] at hr
        exact hr
      · intro a a1 a2 a3 a4
        exact (hF2 a a4).trans (hd.2 a a1 a2 a3)
      · intro a a1 a2
        exact (hG' a a2).trans (hG2 a a1)
