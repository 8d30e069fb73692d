/-! ===== the first memory: after the constructors ===== -/
def M0c : Mm := M00 0 (fun _ => 0)
def z0 : Nat × List Op × List Vl × List Vl × Mm × (Nat × Nat) := (rs 6000 14 2000 LAWM 0 (cod LAWM 0).2 [.inr (.inr (.inl 1000000))] [] M0c (0, 0)).getD (0, [], [], [], M0c, (0, 0))
theorem z0_ok : (rs 6000 14 2000 LAWM 0 (cod LAWM 0).2 [.inr (.inr (.inl 1000000))] [] M0c (0, 0)).isSome = true := by decide +kernel
theorem z0_N : gN z0.2.2.2.2.1 = 128 := by decide +kernel
theorem z0_pc : z0.1 = 23 := by decide +kernel
theorem z0_ls : z0.2.2.1 = [.inr (.inr (.inl 1000000)), .inr (.inr (.inl 1)), .inr (.inr (.inl 97)), .inr (.inr (.inl 128)), .inl 0] ∧ z0.2.2.2.1 = [] := by decide +kernel
theorem z0_k : ∀ k, k < 129 → z0.2.2.2.2.1.1 k = kk k := by decide +kernel
theorem z0_r : ∀ k, k < 129 → ∀ i, i < 64 → z0.2.2.2.2.1.2.1 k i = rr k i := by decide +kernel
