/-! ===== the pure part: what is left of the methods, by contract ===== -/
theorem ck_i {b : Bool} {P : Prop} (h : b = true) (k : P) : chk b P := by
  subst h
  exact k
theorem cn_i {c : Prop} {dc : Decidable c} {A B : Prop} (h1 : c → A) (h2 : ¬ c → B) : cnd (@decide c dc) A B := by
  by_cases h : c
  · rw [decide_eq_true h]
    exact h1 h
  · rw [decide_eq_false h]
    exact h2 h
theorem jb_i {i : Int} {n : Nat} (h1 : 0 ≤ i) (h2 : i < (n : Int)) : ib i n = true := by
  unfold ib
  rw [decide_eq_true h1, decide_eq_true h2]
  rfl
theorem jz_i {b : Int} (h : b ≠ 0) : nz b = true := by
  unfold nz
  rw [decide_eq_false h]
  rfl
theorem jo_i {b : Int} (h : b = 0 ∨ b = 1) : zb b = true := by
  unfold zb
  rcases h with h | h <;> subst h <;> rfl
theorem acp_i {sp tp n : Int} {a b : Nat} (h1 : 0 ≤ sp) (h2 : 0 ≤ tp) (h3 : 0 ≤ n) (h4 : sp + n ≤ (a : Int)) (h5 : tp + n ≤ (b : Int)) : acp sp tp n a b = true := by
  unfold acp nn
  rw [decide_eq_true h1, decide_eq_true h2, decide_eq_true h3, decide_eq_true h4, decide_eq_true h5]
  rfl
theorem u2_o {α : Type} {f : Nat → Nat → α} {k i a : Nat} {v : α} (h : a ≠ k) : u2 f k i v a = f a := by
  funext b
  unfold u2
  rw [if_neg]
  exact fun q => h q.1
theorem u2_k {α : Type} {f : Nat → Nat → α} {k i : Nat} {v : α} (b : Nat) : u2 f k i v k b = if b = i then v else f k b := by
  unfold u2
  by_cases h : b = i
  · rw [if_pos ⟨rfl, h⟩, if_pos h]
  · rw [if_neg (fun q => h q.2), if_neg h]
theorem u2_s {α : Type} {f : Nat → Nat → α} {k i : Nat} {v : α} : u2 f k i v k i = v := by rw [u2_k, if_pos rfl]
theorem u2_n {α : Type} {f : Nat → Nat → α} {k i b : Nat} {v : α} (h : b ≠ i) : u2 f k i v k b = f k b := by rw [u2_k, if_neg h]
theorem c2_o {α : Type} {f : Nat → Nat → α} {s sp t tp n a : Nat} (h : a ≠ t) : c2 f s sp t tp n a = f a := by
  funext b
  unfold c2
  rw [if_neg h]
theorem c2_k {α : Type} {f : Nat → Nat → α} {s sp t tp n : Nat} (b : Nat) : c2 f s sp t tp n t b = va_cpy (f s) (f t) sp tp n b := by
  unfold c2
  rw [if_pos rfl]
/-! bits of whole numbers that aren't below 0 -/
theorem ofI_n (a : Nat) : Int32.ofInt (a : Int) = nI a := (z_nat a).symm
theorem nI_an (a b : Nat) : nI a &&& nI b = nI (a &&& b) := by
  unfold nI
  rw [← Int32.toBitVec_inj]
  apply BitVec.eq_of_toNat_eq
  simp [Nat.and_mod_two_pow]
theorem nI_or (a b : Nat) : nI a ||| nI b = nI (a ||| b) := by
  unfold nI
  rw [← Int32.toBitVec_inj]
  apply BitVec.eq_of_toNat_eq
  simp [Nat.or_mod_two_pow]
theorem nat_and_lt {a b n : Nat} (h : b < 2 ^ n) : a &&& b < 2 ^ n := Nat.and_lt_two_pow a h
theorem an_n {a b : Nat} (h : b < 2147483648) : an (a : Int) (b : Int) = ((a &&& b : Nat) : Int) := by
  unfold an
  rw [ofI_n, ofI_n, nI_an, nI_toInt (nat_and_lt (n := 31) h)]
theorem orr_n {a b : Nat} (ha : a < 2147483648) (hb : b < 2147483648) : orr (a : Int) (b : Int) = ((a ||| b : Nat) : Int) := by
  unfold orr
  rw [ofI_n, ofI_n, nI_or, nI_toInt (Nat.or_lt_two_pow (n := 31) ha hb)]
theorem s31 : ∀ n, n < 32 → ((nI n &&& 31).toBitVec.smod 32).toNat = n := by decide +kernel
theorem u31 : ∀ n, n < 32 → (((nI n).toUInt32 &&& Int32.toUInt32 31).toBitVec % 32).toNat = n := by decide +kernel
theorem shl_n {a k : Nat} (hk : k < 32) (h : a * 2 ^ k < 2147483648) : shl (a : Int) (k : Int) = ((a * 2 ^ k : Nat) : Int) := by
  unfold shl
  rw [ofI_n, ofI_n, pk_shlN _ k (s31 k hk) (by omega), nI_toInt h]
theorem sar_n {a k : Nat} (hk : k < 32) (h : a < 2147483648) : sar (a : Int) (k : Int) = ((a / 2 ^ k : Nat) : Int) := by
  unfold sar
  rw [ofI_n, ofI_n, pk_shrN h _ k (s31 k hk), nI_toInt (Nat.lt_of_le_of_lt (Nat.div_le_self _ _) h)]
/-- bit m of b -/
def bit (b m : Int) : Prop := b / 2 ^ m.toNat % 2 = 1
theorem bit_m {b m : Int} (hb : 0 ≤ b) (hb2 : b < 2147483648) (hm : 0 ≤ m) (hm2 : m < 32) : an (sar b m) 1 = b / 2 ^ m.toNat % 2 := by
  obtain ⟨n, rfl⟩ := Int.eq_ofNat_of_zero_le hb
  obtain ⟨k, rfl⟩ := Int.eq_ofNat_of_zero_le hm
  rw [sar_n (by omega) (by omega), show (1 : Int) = ((1 : Nat) : Int) from rfl, an_n (by decide), Nat.and_one_is_mod]
  simp
theorem bit_z {b m : Int} (hb : 0 ≤ b) (hb2 : b < 2147483648) (hm : 0 ≤ m) (hm2 : m < 32) : an (sar b m) 1 = 0 ↔ ¬ bit b m := by
  rw [bit_m hb hb2 hm hm2]
  unfold bit
  omega
theorem bit_o {b m : Int} (hb : 0 ≤ b) (hb2 : b < 2147483648) (hm : 0 ≤ m) (hm2 : m < 32) : an (sar b m) 1 = 1 ↔ bit b m := by
  rw [bit_m hb hb2 hm hm2]
  unfold bit
  omega
