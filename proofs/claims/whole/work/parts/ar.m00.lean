/-- the memory as the law finds it -/
def M00 (L : Nat) (xs : Nat → Int32) : Mm := (fun k => if k = 1000000 then (6, 0) else if 2000000 ≤ k ∧ k < 2000051 then (7, strL (k - 2000000)) else (9, 0), fun _ _ => 0, fun k _ => if k = 1000000 then L else 0,
  fun k i => if k = 1000000 then (if i < L then (xs i).toInt else 0) else if 2000000 ≤ k ∧ k < 2000051 ∧ i < strL (k - 2000000) then strC (k - 2000000) i else 0, fun _ _ => 0, 0)
theorem strL_lt : ∀ t : Nat, t < 51 → strL t < 100 := by decide +kernel
theorem MI_00 (L : Nat) (xs : Nat → Int32) : MI L xs (M00 L xs) := by
  have r0 : inR 0 := ⟨by omega, by omega⟩
  have l0 : inL 0 := ⟨by omega, by omega⟩
  have kd : ∀ k, (M00 L xs).1 k = (if k = 1000000 then (6, 0) else if 2000000 ≤ k ∧ k < 2000051 then (7, strL (k - 2000000)) else (9, 0)) := fun k => rfl
  have fd : ∀ k i, gI (M00 L xs) k i = (if k = 1000000 then (if i < L then (xs i).toInt else 0) else if 2000000 ≤ k ∧ k < 2000051 ∧ i < strL (k - 2000000) then strC (k - 2000000) i else 0) := fun k i => rfl
  refine ⟨fun k i => ?_, fun k i => l0, fun k h => ?_, fun k h => ?_, fun k => ?_, fun k i h => ⟨Nat.zero_le _, ?_⟩, Nat.zero_le _, ?_, fun i h => ?_, fun k h => ?_, fun k h => ?_, fun t i ht hi => ?_⟩
  · show inR (if k = 1000000 then (if i < L then (xs i).toInt else 0) else if 2000000 ≤ k ∧ k < 2000051 ∧ i < strL (k - 2000000) then strC (k - 2000000) i else 0)
    split
    · split
      · exact inR_toInt _
      · exact r0
    · split
      · rename_i h
        obtain ⟨-, -, z3⟩ := str_at (t := k - 2000000) (by show _ < 51; omega)
        obtain ⟨z4, z5, -⟩ := z3 i h.2.2
        exact ⟨by omega, by omega⟩
      · exact r0
  · rw [kd] at h
    split at h
    · exact absurd h (by decide)
    · split at h
      · exact absurd h (by show ¬ 7 ≤ 4; decide)
      · exact absurd h (by decide)
  · rw [kd] at h
    split at h
    · exact absurd h (by decide)
    · split at h
      · exact absurd h (by show ¬ 7 = 0; decide)
      · exact absurd h (by decide)
  · rw [kd]
    split
    · decide
    · split
      · have := strL_lt (k - 2000000) (by omega)
        revert this
        generalize strL (k - 2000000) = z
        intro this
        exact Nat.lt_trans this (Nat.le_of_ble_eq_true rfl)
      · decide
  · have hk : k = 0 := Nat.le_zero.mp h
    rw [hk]
    exact Nat.le_refl 0
  · show (if (1000000 : Nat) = 1000000 then L else 0) = L
    rw [if_pos rfl]
  · rw [fd, if_pos rfl, if_pos h]
  · rw [kd] at h
    split at h
    · assumption
    · split at h
      · exact absurd h (by show ¬ 7 = 6; decide)
      · exact absurd h (by decide)
  · rw [kd] at h ⊢
    split at h
    · exact absurd h (by decide)
    · split at h
      · rename_i h1 h2
        exact ⟨k - 2000000, by show _ < 51; omega, by omega, by rw [if_neg h1, if_pos h2]⟩
      · exact absurd h (by decide)
  · have ht' : t < 51 := ht
    have e : 2000000 + t - 2000000 = t := Nat.add_sub_cancel_left _ _
    rw [fd, if_neg (by omega), e, if_pos ⟨by omega, by omega, hi⟩]
/-- the law answers true -/
def Q1 : Rs → Mm → Prop := fun o _ => o = .inl (some (.inl 1))
def PURE : Prop := ∀ (L : Nat) (xs : Nat → Int32), L ≤ 3072 → ∃ f, wp f 2000 LAWM 0 (cod LAWM 0).2 [Sum.inr (Sum.inr (Sum.inl 1000000))] [] (M00 L xs) (0, 0) Q1
