/-! ===== the first memory: after the constructors ===== -/
def M0c : Mm := M00 0 (fun _ => 0)
def z0 : Nat × List Op × List Vl × List Vl × Mm × (Nat × Nat) := (rs 6000 14 2000 LAWM 0 (cod LAWM 0).2 [.inr (.inr (.inl 1000000))] [] M0c (0, 0)).getD (0, [], [], [], M0c, (0, 0))
def zq : Mm := Prm z0.2.2.2.2.1
theorem z0_ok : (rs 6000 14 2000 LAWM 0 (cod LAWM 0).2 [.inr (.inr (.inl 1000000))] [] M0c (0, 0)).isSome = true := by decide +kernel
theorem z0_N : gN z0.2.2.2.2.1 = 128 := by decide +kernel
theorem z0_pc : z0.1 = 23 := by decide +kernel
theorem z0_ls : z0.2.2.1 = [.inr (.inr (.inl 1000000)), .inr (.inr (.inl 1)), .inr (.inr (.inl 97)), .inr (.inr (.inl 128)), .inl 0] ∧ z0.2.2.2.1 = [] := by decide +kernel
theorem z0_k : ∀ k, k < 129 → zq.1 k = kk k := by decide +kernel
theorem z0_r0 : ∀ k, k < 15 → ∀ i, i < 64 → zq.2.1 (k + 0) i = rr (k + 0) i := by decide +kernel
theorem z0_r1 : ∀ k, k < 15 → ∀ i, i < 64 → zq.2.1 (k + 15) i = rr (k + 15) i := by decide +kernel
theorem z0_r2 : ∀ k, k < 15 → ∀ i, i < 64 → zq.2.1 (k + 30) i = rr (k + 30) i := by decide +kernel
theorem z0_r3 : ∀ k, k < 15 → ∀ i, i < 64 → zq.2.1 (k + 45) i = rr (k + 45) i := by decide +kernel
theorem z0_r4 : ∀ k, k < 15 → ∀ i, i < 64 → zq.2.1 (k + 60) i = rr (k + 60) i := by decide +kernel
theorem z0_r5 : ∀ k, k < 15 → ∀ i, i < 64 → zq.2.1 (k + 75) i = rr (k + 75) i := by decide +kernel
theorem z0_r6 : ∀ k, k < 15 → ∀ i, i < 64 → zq.2.1 (k + 90) i = rr (k + 90) i := by decide +kernel
theorem z0_r7 : ∀ k, k < 15 → ∀ i, i < 64 → zq.2.1 (k + 105) i = rr (k + 105) i := by decide +kernel
theorem z0_r8 : ∀ k, k < 9 → ∀ i, i < 64 → zq.2.1 (k + 120) i = rr (k + 120) i := by decide +kernel
theorem z0_r : ∀ k, k < 129 → ∀ i, i < 64 → zq.2.1 k i = rr k i := by
  intro k hk i hi
  by_cases h0 : k < 15
  · have h := z0_r0 (k - 0) (by omega) i hi
    rw [show k - 0 + 0 = k by omega] at h
    exact h
  by_cases h1 : k < 30
  · have h := z0_r1 (k - 15) (by omega) i hi
    rw [show k - 15 + 15 = k by omega] at h
    exact h
  by_cases h2 : k < 45
  · have h := z0_r2 (k - 30) (by omega) i hi
    rw [show k - 30 + 30 = k by omega] at h
    exact h
  by_cases h3 : k < 60
  · have h := z0_r3 (k - 45) (by omega) i hi
    rw [show k - 45 + 45 = k by omega] at h
    exact h
  by_cases h4 : k < 75
  · have h := z0_r4 (k - 60) (by omega) i hi
    rw [show k - 60 + 60 = k by omega] at h
    exact h
  by_cases h5 : k < 90
  · have h := z0_r5 (k - 75) (by omega) i hi
    rw [show k - 75 + 75 = k by omega] at h
    exact h
  by_cases h6 : k < 105
  · have h := z0_r6 (k - 90) (by omega) i hi
    rw [show k - 90 + 90 = k by omega] at h
    exact h
  by_cases h7 : k < 120
  · have h := z0_r7 (k - 105) (by omega) i hi
    rw [show k - 105 + 105 = k by omega] at h
    exact h
  have h := z0_r8 (k - 120) (by omega) i hi
  rw [show k - 120 + 120 = k by omega] at h
  exact h
