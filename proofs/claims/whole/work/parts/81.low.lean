/-! ===== the lowest bit ===== -/
theorem low_f : ∀ x : Nat, 1 ≤ x → ∃ k q, x = 2 ^ k * (2 * q + 1) := by
  intro x
  induction x using Nat.strongRecOn with
  | _ x ih =>
    intro h
    by_cases c : x % 2 = 1
    · exact ⟨0, x / 2, by omega⟩
    · obtain ⟨k, q, e⟩ := ih (x / 2) (by omega) (by omega)
      refine ⟨k + 1, q, ?_⟩
      rw [Nat.pow_succ, Nat.mul_comm (2 ^ k) 2, Nat.mul_assoc, ← e]
      omega
theorem tb_hi {k a j : Nat} : (2 ^ k * a).testBit j = if j < k then false else a.testBit (j - k) := by
  have := Nat.testBit_two_pow_mul_add a (b := 0) (i := k) (Nat.two_pow_pos k) j
  rw [Nat.add_zero] at this
  rw [this]
  simp
theorem tb_m1 {k q j : Nat} : (2 ^ k * (2 * q + 1) - 1).testBit j = if j < k then true else (2 * q).testBit (j - k) := by
  have hp := Nat.two_pow_pos k
  have e : 2 ^ k * (2 * q + 1) - 1 = 2 ^ k * (2 * q) + (2 ^ k - 1) := by
    rw [Nat.mul_add, Nat.mul_one]
    omega
  rw [e, Nat.testBit_two_pow_mul_add _ (by omega)]
  by_cases c : j < k
  · rw [if_pos c, if_pos c]
    simp [c]
  · rw [if_neg c, if_neg c]
theorem tb_od {q i : Nat} : (2 * q + 1).testBit (i + 1) = q.testBit i := by
  rw [Nat.testBit_succ, show (2 * q + 1) / 2 = q by omega]
theorem tb_ev {q i : Nat} : (2 * q).testBit (i + 1) = q.testBit i := by
  rw [Nat.testBit_succ, show 2 * q / 2 = q by omega]
theorem tb_o0 {q : Nat} : (2 * q + 1).testBit 0 = true := by
  rw [Nat.testBit_zero]
  exact decide_eq_true (by omega)
theorem tb_e0 {q : Nat} : (2 * q).testBit 0 = false := by
  rw [Nat.testBit_zero]
  exact decide_eq_false (by omega)
theorem low_a {x k q : Nat} (e : x = 2 ^ k * (2 * q + 1)) (hx : x ≤ 2147483648) (hk : k < 32) : x &&& (4294967296 - x) = 2 ^ k := by
  have hp := Nat.two_pow_pos k
  have h1 : 1 ≤ x := by
    rw [e]
    exact Nat.mul_pos hp (by omega)
  apply Nat.eq_of_testBit_eq
  intro j
  rw [Nat.testBit_and, show 4294967296 - x = 2 ^ 32 - ((x - 1) + 1) by omega, Nat.testBit_two_pow_sub_succ (by omega), Nat.testBit_two_pow, e, tb_m1, tb_hi]
  by_cases c : j < k
  · rw [if_pos c, if_pos c]
    simp
    omega
  · rw [if_neg c, if_neg c]
    by_cases d : j = k
    · subst d
      simp [tb_e0, hk]
    · obtain ⟨i, hi⟩ : ∃ i, j - k = i + 1 := ⟨j - k - 1, by omega⟩
      rw [hi, tb_od, tb_ev]
      have : ¬ k = j := fun q => d q.symm
      simp [this]
      intro a _
      exact a
theorem low_c {x k q : Nat} (e : x = 2 ^ k * (2 * q + 1)) : x &&& (x - 1) = 2 ^ k * (2 * q) := by
  apply Nat.eq_of_testBit_eq
  intro j
  rw [Nat.testBit_and, e, tb_m1, tb_hi, tb_hi]
  by_cases c : j < k
  · rw [if_pos c, if_pos c, if_pos c]
    rfl
  · rw [if_neg c, if_neg c, if_neg c]
    by_cases d : j = k
    · subst d
      simp [tb_e0]
    · obtain ⟨i, hi⟩ : ∃ i, j - k = i + 1 := ⟨j - k - 1, by omega⟩
      rw [hi, tb_od, tb_ev, Bool.and_self]
theorem bit_tb {x j : Nat} : bit (x : Int) (j : Int) ↔ x.testBit j = true := by
  rw [Nat.testBit_eq_decide_div_mod_eq, decide_eq_true_iff]
  unfold bit
  rw [show ((j : Int)).toNat = j by omega]
  have : ((x : Int) / 2 ^ j % 2) = ((x / 2 ^ j % 2 : Nat) : Int) := by push_cast; rfl
  rw [this]
  omega
theorem low_b {x k q : Nat} (e : x = 2 ^ k * (2 * q + 1)) : bit (x : Int) (k : Int) ∧ ∀ j : Nat, j < k → ¬ bit (x : Int) (j : Int) := by
  refine ⟨?_, fun j h => ?_⟩
  · rw [bit_tb, e, tb_hi, if_neg (by omega), show k - k = 0 by omega]
    exact tb_o0
  · rw [bit_tb, e, tb_hi, if_pos h]
    decide
theorem low_x {x k q : Nat} (e : x = 2 ^ k * (2 * q + 1)) (j : Nat) : bit ((2 ^ k * (2 * q) : Nat) : Int) (j : Int) ↔ bit (x : Int) (j : Int) ∧ j ≠ k := by
  rw [bit_tb, bit_tb, e, tb_hi, tb_hi]
  by_cases c : j < k
  · rw [if_pos c, if_pos c]
    simp
  · rw [if_neg c, if_neg c]
    by_cases d : j = k
    · subst d
      simp [tb_e0]
    · obtain ⟨i, hi⟩ : ∃ i, j - k = i + 1 := ⟨j - k - 1, by omega⟩
      rw [hi, tb_od, tb_ev]
      exact ⟨fun h => ⟨h, d⟩, fun h => h.1⟩
theorem pcn_2 {n k a : Nat} (h : k ≤ n) : pcn n (2 ^ k * a) = pcn (n - k) a := by
  have s := pcn_add k (n - k) (2 ^ k * a)
  rw [show k + (n - k) = n by omega, Nat.mul_div_cancel_left _ (Nat.two_pow_pos k), ← pcn_mod k k _ (Nat.le_refl _), Nat.mul_mod_right, pcn_0] at s
  rw [s, Nat.zero_add]
theorem pcn_l {x k q n : Nat} (e : x = 2 ^ k * (2 * q + 1)) (h : k < n) : pcn n x = pcn n (2 ^ k * (2 * q)) + 1 := by
  rw [e, pcn_2 (by omega), pcn_2 (by omega)]
  obtain ⟨m, hm⟩ : ∃ m, n - k = m + 1 := ⟨n - k - 1, by omega⟩
  rw [hm]
  show (2 * q + 1) % 2 + pcn m ((2 * q + 1) / 2) = 2 * q % 2 + pcn m (2 * q / 2) + 1
  rw [show (2 * q + 1) / 2 = q by omega, show 2 * q / 2 = q by omega]
  omega
theorem pcn_z : ∀ n x, x < 2 ^ n → pcn n x = 0 → x = 0 := by
  intro n
  induction n with
  | zero => intro x h _; rw [Nat.pow_zero] at h; omega
  | succ n ih =>
    intro x h e
    have e' : x % 2 + pcn n (x / 2) = 0 := e
    rw [Nat.pow_succ] at h
    have := ih (x / 2) (by omega) (by omega)
    omega
theorem pcn_p : ∀ k n, k ≤ n → pcn n (2 ^ k - 1) = k := by
  intro k
  induction k with
  | zero => intro n _; exact pcn_0 n
  | succ k ih =>
    intro n h
    obtain ⟨m, rfl⟩ : ∃ m, n = m + 1 := ⟨n - 1, by omega⟩
    have hp := Nat.two_pow_pos k
    show (2 ^ (k + 1) - 1) % 2 + pcn m ((2 ^ (k + 1) - 1) / 2) = k + 1
    rw [Nat.pow_succ, show (2 ^ k * 2 - 1) / 2 = 2 ^ k - 1 by omega, ih m (by omega)]
    omega
theorem low_k {x k q n : Nat} (e : x = 2 ^ k * (2 * q + 1)) (h : x < 2 ^ n) : k < n := by
  apply Classical.byContradiction
  intro c
  have h1 : 2 ^ n ≤ 2 ^ k := Nat.pow_le_pow_right (by decide) (by omega)
  have h2 : 2 ^ k * 1 ≤ 2 ^ k * (2 * q + 1) := Nat.mul_le_mul_left _ (by omega)
  omega
theorem ofI_neg {x : Nat} (h : x ≤ 2147483648) : Int32.ofInt (-(x : Int)) = nI (4294967296 - x) := by
  have : wr ((4294967296 - x : Nat) : Int) = -(x : Int) := by
    unfold wr
    omega
  rw [← this, ofInt_wr, ofI_n]
theorem low_i {x k q : Nat} (e : x = 2 ^ k * (2 * q + 1)) (hx : x < 268435456) : an (x : Int) (wr (-(x : Int))) = ((2 ^ k : Nat) : Int) := by
  have hk : k < 28 := low_k (n := 28) e (by omega)
  rw [wr_id (by omega) (by omega)]
  unfold an
  have hp : 2 ^ k ≤ 2 ^ 27 := Nat.pow_le_pow_right (by decide) (by omega)
  rw [ofI_n, ofI_neg (by omega), nI_an, low_a e (by omega) (by omega), nI_toInt (by omega)]
theorem c_265 {k : Int → FS → FI → FJ → Prop} {x : Nat} {S : FS} {F : FI} {G : FJ} (h1 : 1 ≤ x) (hx : x < 268435456) (hk : ∀ j q : Nat, x = 2 ^ j * (2 * q + 1) → k (j : Int) S F G) : calI 1 265 [.inl (x : Int)] (mm S F G) k nof := by
  obtain ⟨j, q, e⟩ := low_f x h1
  have hj : j < 28 := low_k (n := 28) e (by omega)
  have hp : 2 ^ j ≤ 2 ^ 27 := Nat.pow_le_pow_right (by decide) (by omega)
  have hp1 := Nat.two_pow_pos j
  refine sg_265_0 ?_
  rw [low_i e hx, wr_id (by omega) (by omega), show ((2 ^ j : Nat) : Int) - 1 = ((2 ^ j - 1 : Nat) : Int) by omega]
  exact c_342 (by omega) (fun v hv => ⟨_, _, _, rfl, by rw [hv, pcn_p j 32 (by omega)]; exact hk j q e⟩)
