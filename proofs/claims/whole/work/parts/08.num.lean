/-! ===== whole numbers and the machine's ints and longs ===== -/
def inR (a : Int) : Prop := -2147483648 ≤ a ∧ a < 2147483648
def inL (a : Int) : Prop := -9223372036854775808 ≤ a ∧ a < 9223372036854775808
theorem inR_toInt (x : Int32) : inR x.toInt := by
  have h1 := Int32.le_toInt x
  have h2 := Int32.toInt_lt x
  exact ⟨by simpa using h1, by simpa using h2⟩
theorem inL_toInt (x : Int64) : inL x.toInt := by
  have h1 := Int64.le_toInt x
  have h2 := Int64.toInt_lt x
  exact ⟨by simpa using h1, by simpa using h2⟩
theorem toInt_ofInt {a : Int} (h : inR a) : (Int32.ofInt a).toInt = a := by
  obtain ⟨h1, h2⟩ := h
  exact Int32.toInt_ofInt_of_le (by simpa using h1) (by simpa using h2)
theorem toInt_ofIntL {a : Int} (h : inL a) : (Int64.ofInt a).toInt = a := by
  obtain ⟨h1, h2⟩ := h
  exact Int64.toInt_ofInt_of_le (by simpa using h1) (by simpa using h2)
theorem bmod_wr (a : Int) : a.bmod (2 ^ 32) = wr a := by
  unfold wr Int.bmod
  simp only [show ((2 ^ 32 : Nat) : Int) = 4294967296 from rfl]
  split <;> omega
theorem bmod_wl (a : Int) : a.bmod (2 ^ 64) = wl a := by
  unfold wl Int.bmod
  simp only [show ((2 ^ 64 : Nat) : Int) = 18446744073709551616 from rfl]
  split <;> omega
theorem wr_in (a : Int) : inR (wr a) := by
  unfold wr inR
  omega
theorem wl_in (a : Int) : inL (wl a) := by
  unfold wl inL
  omega
theorem wr_id {a : Int} (h1 : -2147483648 ≤ a) (h2 : a < 2147483648) : wr a = a := by
  unfold wr
  omega
theorem wl_id {a : Int} (h1 : -9223372036854775808 ≤ a) (h2 : a < 9223372036854775808) : wl a = a := by
  unfold wl
  omega
theorem ofInt_wr (a : Int) : Int32.ofInt (wr a) = Int32.ofInt a := by
  rw [← Int32.toInt_inj, toInt_ofInt (wr_in a), ← bmod_wr]
  simp [Int32.toInt_ofInt]
theorem ofInt_wl (a : Int) : Int64.ofInt (wl a) = Int64.ofInt a := by
  rw [← Int64.toInt_inj, toInt_ofIntL (wl_in a), ← bmod_wl]
  simp [Int64.toInt_ofInt]
theorem z_add (a b : Int) : Int32.ofInt a + Int32.ofInt b = Int32.ofInt (wr (a + b)) := by rw [ofInt_wr, Int32.ofInt_add]
theorem z_sub (a b : Int) : Int32.ofInt a - Int32.ofInt b = Int32.ofInt (wr (a - b)) := by rw [ofInt_wr, Int32.ofInt_sub]
theorem z_mul (a b : Int) : Int32.ofInt a * Int32.ofInt b = Int32.ofInt (wr (a * b)) := by rw [ofInt_wr, Int32.ofInt_mul]
theorem z_neg (a : Int) : -Int32.ofInt a = Int32.ofInt (wr (-a)) := by rw [ofInt_wr, Int32.ofInt_neg]
theorem z_addL (a b : Int) : Int64.ofInt a + Int64.ofInt b = Int64.ofInt (wl (a + b)) := by rw [ofInt_wl, Int64.ofInt_add]
theorem z_subL (a b : Int) : Int64.ofInt a - Int64.ofInt b = Int64.ofInt (wl (a - b)) := by rw [ofInt_wl, Int64.ofInt_sub]
theorem z_mulL (a b : Int) : Int64.ofInt a * Int64.ofInt b = Int64.ofInt (wl (a * b)) := by rw [ofInt_wl, Int64.ofInt_mul]
theorem z_div {a b : Int} (ha : inR a) (hb : inR b) : Int32.ofInt a / Int32.ofInt b = Int32.ofInt (wr (Int.tdiv a b)) := by
  rw [← Int32.toInt_inj, Int32.toInt_div, toInt_ofInt ha, toInt_ofInt hb, toInt_ofInt (wr_in _), bmod_wr]
theorem tmod_in {a b : Int} (ha : inR a) (hb : b ≠ 0) : inR (Int.tmod a b) := by
  obtain ⟨h1, h2⟩ := ha
  unfold inR
  rcases Int.le_total 0 a with h | h
  · have k1 : 0 ≤ a.tmod b := Int.tmod_nonneg b h
    have k2 : a.tmod b ≤ a := by
      have h3 := Int.tmod_add_mul_tdiv a b
      have h4 : 0 ≤ b * a.tdiv b := by
        rcases Int.le_total 0 b with hb' | hb'
        · exact Int.mul_nonneg hb' (Int.tdiv_nonneg h hb')
        · exact Int.mul_nonneg_of_nonpos_of_nonpos hb' (Int.tdiv_nonpos_of_nonneg_of_nonpos h hb')
      omega
    omega
  · have k1 : a.tmod b = -((-a).tmod b) := by rw [Int.neg_tmod, Int.neg_neg]
    have k3 : 0 ≤ (-a).tmod b := Int.tmod_nonneg b (by omega)
    have k2 : (-a).tmod b ≤ -a := by
      have h3 := Int.tmod_add_mul_tdiv (-a) b
      have h4 : 0 ≤ b * (-a).tdiv b := by
        rcases Int.le_total 0 b with hb' | hb'
        · exact Int.mul_nonneg hb' (Int.tdiv_nonneg (by omega) hb')
        · exact Int.mul_nonneg_of_nonpos_of_nonpos hb' (Int.tdiv_nonpos_of_nonneg_of_nonpos (by omega) hb')
      omega
    omega
theorem z_rem {a b : Int} (ha : inR a) (hb : inR b) (hz : b ≠ 0) : Int32.ofInt a - Int32.ofInt a / Int32.ofInt b * Int32.ofInt b = Int32.ofInt (Int.tmod a b) := by
  rw [z_div ha hb, ofInt_wr, ← Int32.ofInt_mul, ← Int32.ofInt_sub]
  have h := Int.tmod_add_mul_tdiv a b
  rw [Int.mul_comm (a.tdiv b) b, show a - b * a.tdiv b = a.tmod b by omega]
theorem ofInt_toInt (x : Int32) : Int32.ofInt x.toInt = x := by simp
theorem z_and (a b : Int) : Int32.ofInt a &&& Int32.ofInt b = Int32.ofInt (an a b) := by unfold an; simp
theorem z_or (a b : Int) : Int32.ofInt a ||| Int32.ofInt b = Int32.ofInt (orr a b) := by unfold orr; simp
theorem z_shl (a b : Int) : Int32.ofInt a <<< (Int32.ofInt b &&& 31) = Int32.ofInt (shl a b) := by unfold shl; simp
theorem z_sar (a b : Int) : Int32.ofInt a >>> (Int32.ofInt b &&& 31) = Int32.ofInt (sar a b) := by unfold sar; simp
theorem z_ushr (a b : Int) : ((Int32.ofInt a).toUInt32 >>> ((Int32.ofInt b).toUInt32 &&& Int32.toUInt32 31)).toInt32 = Int32.ofInt (ushr a b) := by unfold ushr; simp
theorem z_sarl (a b : Int) : Int64.ofInt a >>> ((Int32.ofInt b).toInt64 &&& 63) = Int64.ofInt (sarl a b) := by unfold sarl; simp
theorem z_lt {a b : Int} (ha : inR a) (hb : inR b) : Int32.ofInt a < Int32.ofInt b ↔ a < b := by rw [Int32.lt_iff_toInt_lt, toInt_ofInt ha, toInt_ofInt hb]
theorem z_le {a b : Int} (ha : inR a) (hb : inR b) : Int32.ofInt a ≤ Int32.ofInt b ↔ a ≤ b := by rw [Int32.le_iff_toInt_le, toInt_ofInt ha, toInt_ofInt hb]
theorem z_eq {a b : Int} (ha : inR a) (hb : inR b) : Int32.ofInt a = Int32.ofInt b ↔ a = b := by rw [← Int32.toInt_inj, toInt_ofInt ha, toInt_ofInt hb]
theorem z_ltL {a b : Int} (ha : inL a) (hb : inL b) : Int64.ofInt a < Int64.ofInt b ↔ a < b := by rw [Int64.lt_iff_toInt_lt, toInt_ofIntL ha, toInt_ofIntL hb]
theorem z_eqL {a b : Int} (ha : inL a) (hb : inL b) : Int64.ofInt a = Int64.ofInt b ↔ a = b := by rw [← Int64.toInt_inj, toInt_ofIntL ha, toInt_ofIntL hb]
theorem z_cmp {a b : Int} (ha : inL a) (hb : inL b) : lg_cmp (Int64.ofInt a) (Int64.ofInt b) = Int32.ofInt (lc a b) := by
  unfold lg_cmp lc
  by_cases h1 : b < a
  · rw [if_pos h1, if_pos ((z_ltL hb ha).mpr h1)]; rfl
  · rw [if_neg h1, if_neg (fun h => h1 ((z_ltL hb ha).mp h))]
    by_cases h2 : a = b
    · rw [if_pos h2, if_pos ((z_eqL ha hb).mpr h2)]; rfl
    · rw [if_neg h2, if_neg (fun h => h2 ((z_eqL ha hb).mp h))]; rfl
theorem z_i2l {a : Int} (ha : inR a) : (Int32.ofInt a).toInt64 = Int64.ofInt a := by
  rw [← Int64.toInt_inj, Int32.toInt_toInt64, toInt_ofInt ha, toInt_ofIntL]
  obtain ⟨h1, h2⟩ := ha
  exact ⟨by omega, by omega⟩
theorem z_idx {a : Int} (ha : inR a) : (Int32.ofInt a).toNatClampNeg = a.toNat := by
  rw [Int32.toNatClampNeg, toInt_ofInt ha]
theorem z_in {a : Int} {n : Nat} (ha : inR a) (h : ib a n = true) : vp_in (Int32.ofInt a) n := by
  unfold ib at h
  simp only [Bool.and_eq_true, decide_eq_true_eq] at h
  unfold vp_in
  rw [z_idx ha, show (0 : Int32) = Int32.ofInt 0 from rfl, z_lt ha ⟨by omega, by omega⟩]
  omega
theorem z_nat (n : Nat) : Int32.ofNat n = Int32.ofInt (n : Int) := by
  first
    | exact (Int32.ofInt_natCast n).symm
    | rfl
    | (rw [← Int32.toInt_inj]; simp)
    | (rw [← Int32.toInt_inj, Int32.toInt_ofNat', Int32.toInt_ofInt])
theorem lc_in (a b : Int) : inR (lc a b) := by
  unfold lc inR
  split <;> (try split) <;> omega
theorem ib_i {i : Int} {n : Nat} {P : Prop} (h0 : 0 ≤ i) (h1 : i < (n : Int)) (h : P) : chk (ib i n) P := chk_of (by unfold ib; simp [h0, h1]) h
theorem nz_i {i : Int} {P : Prop} (h0 : i ≠ 0) (h : P) : chk (nz i) P := chk_of (by unfold nz; simp [h0]) h
theorem nn_i {i : Int} {P : Prop} (h0 : 0 ≤ i) (h : P) : chk (nn i) P := chk_of (by unfold nn; simp [h0]) h
theorem zb_i {i : Int} {P : Prop} (h0 : i = 0 ∨ i = 1) (h : P) : chk (zb i) P := chk_of (by unfold zb; simp [h0]) h
theorem cnd_i {p : Prop} {d : Decidable p} {A B : Prop} (ha : p → A) (hb : ¬ p → B) : cnd (@decide p d) A B := by
  cases d with
  | isTrue h => exact ha h
  | isFalse h => exact hb h
