/-! ===== counting bits, the lowest bit ===== -/
theorem ushr_n {a k : Nat} (hk : k < 32) (h : a < 2147483648) : ushr (a : Int) (k : Int) = ((a / 2 ^ k : Nat) : Int) := by
  unfold ushr
  rw [ofI_n, ofI_n, pk_ushrN (by omega) _ k (u31 k hk), nI_toInt (Nat.lt_of_le_of_lt (Nat.div_le_self _ _) h)]
def pcn : Nat → Nat → Nat
  | 0, _ => 0
  | n + 1, x => x % 2 + pcn n (x / 2)
theorem pcn_0 : ∀ n, pcn n 0 = 0 := by
  intro n
  induction n with
  | zero => rfl
  | succ n ih => simp [pcn, ih]
theorem pcn_add : ∀ (m n x : Nat), pcn (m + n) x = pcn m x + pcn n (x / 2 ^ m) := by
  intro m
  induction m with
  | zero => intro n x; simp [pcn]
  | succ m ih =>
    intro n x
    rw [show m + 1 + n = (m + n) + 1 by omega]
    show x % 2 + pcn (m + n) (x / 2) = x % 2 + pcn m (x / 2) + _
    rw [ih, Nat.div_div_eq_div_mul, show 2 * 2 ^ m = 2 ^ (m + 1) by rw [Nat.pow_succ]; omega]
    omega
theorem pcn_mod : ∀ (m k x : Nat), m ≤ k → pcn m (x % 2 ^ k) = pcn m x := by
  intro m
  induction m with
  | zero => intro k x _; rfl
  | succ m ih =>
    intro k x h
    obtain ⟨j, rfl⟩ : ∃ j, k = j + 1 := ⟨k - 1, by omega⟩
    show x % 2 ^ (j + 1) % 2 + pcn m (x % 2 ^ (j + 1) / 2) = x % 2 + pcn m (x / 2)
    have e1 : x % 2 ^ (j + 1) % 2 = x % 2 := Nat.mod_mod_of_dvd _ ⟨2 ^ j, by rw [Nat.pow_succ]; omega⟩
    have e2 : x % 2 ^ (j + 1) / 2 = x / 2 % 2 ^ j := by
      rw [Nat.pow_succ, Nat.mul_comm, Nat.mod_mul_right_div_self]
    rw [e1, e2, ih j _ (by omega)]
theorem and8 (x y : Nat) : x &&& y = (x % 256 &&& y % 256) + 256 * (x / 256 &&& y / 256) := by
  have h1 : (x &&& y) % 256 = x % 256 &&& y % 256 := Nat.and_mod_two_pow (n := 8)
  have h2 : (x &&& y) / 256 = x / 256 &&& y / 256 := Nat.and_div_two_pow (n := 8)
  omega
def bt1 (x : Nat) : Nat := x - (x / 2 &&& 1431655765)
def bb1 (a : Nat) : Nat := a - (a / 2 &&& 85)
def bt2 (x : Nat) : Nat := (x &&& 858993459) + (x / 4 &&& 858993459)
def bb2 (a : Nat) : Nat := (a &&& 51) + (a / 4 &&& 51)
def bt3 (x : Nat) : Nat := (x + x / 16) &&& 252645135
theorem bc1 : ∀ a, a < 256 → (a / 2 + 128 &&& 85) = (a / 2 &&& 85) ∧ (a / 2 &&& 85) ≤ a ∧ bb1 a < 256 := by decide +kernel
theorem bc2 : ∀ a, a < 256 → (a / 4 + 64 &&& 51) = (a / 4 &&& 51) ∧ (a / 4 + 128 &&& 51) = (a / 4 &&& 51) ∧ (a / 4 + 192 &&& 51) = (a / 4 &&& 51) ∧ bb2 (bb1 a) < 69 ∧ bb2 (bb1 a) % 16 < 5 := by decide +kernel
theorem bc3 : ∀ a, a < 256 → (bb2 (bb1 a) + bb2 (bb1 a) / 16 &&& 15) = pcn 8 a := by decide +kernel
theorem bc4 : ∀ a, a < 69 → ∀ z, z < 5 → (a + a / 16 + 16 * z &&& 15) = (a + a / 16 &&& 15) := by decide +kernel
theorem pc8 : ∀ a, a < 256 → pcn 8 a ≤ 8 := by decide +kernel
theorem bt1_s (a q : Nat) (ha : a < 256) (m : Nat) : (a + 256 * q) - ((a + 256 * q) / 2 &&& (85 + 256 * m)) = bb1 a + 256 * (q - (q / 2 &&& m)) := by
  have e := and8 ((a + 256 * q) / 2) (85 + 256 * m)
  have h := bc1 a ha
  have e1 : (a + 256 * q) / 2 % 256 = a / 2 + 128 * (q % 2) := by omega
  have e2 : (a + 256 * q) / 2 / 256 = q / 2 := by omega
  rw [e1, e2, show (85 + 256 * m) % 256 = 85 by omega, show (85 + 256 * m) / 256 = m by omega] at e
  have e3 : (a / 2 + 128 * (q % 2) &&& 85) = (a / 2 &&& 85) := by
    have : q % 2 = 0 ∨ q % 2 = 1 := by omega
    rcases this with c | c
    · rw [c, Nat.mul_zero, Nat.add_zero]
    · rw [c]
      exact h.1
  rw [e3] at e
  have le : (q / 2 &&& m) ≤ q := Nat.le_trans Nat.and_le_left (Nat.div_le_self _ _)
  have h2 := h.2.1
  unfold bb1
  rw [e]
  omega
theorem bt2_s (a q : Nat) (ha : a < 256) (m : Nat) : ((a + 256 * q) &&& (51 + 256 * m)) + ((a + 256 * q) / 4 &&& (51 + 256 * m)) = bb2 a + 256 * ((q &&& m) + (q / 4 &&& m)) := by
  have e := and8 ((a + 256 * q) / 4) (51 + 256 * m)
  have f := and8 (a + 256 * q) (51 + 256 * m)
  have h := bc2 a ha
  have e1 : (a + 256 * q) / 4 % 256 = a / 4 + 64 * (q % 4) := by omega
  have e2 : (a + 256 * q) / 4 / 256 = q / 4 := by omega
  rw [e1, e2, show (51 + 256 * m) % 256 = 51 by omega, show (51 + 256 * m) / 256 = m by omega] at e
  rw [show (a + 256 * q) % 256 = a by omega, show (a + 256 * q) / 256 = q by omega, show (51 + 256 * m) % 256 = 51 by omega, show (51 + 256 * m) / 256 = m by omega] at f
  have e3 : (a / 4 + 64 * (q % 4) &&& 51) = (a / 4 &&& 51) := by
    have : q % 4 = 0 ∨ q % 4 = 1 ∨ q % 4 = 2 ∨ q % 4 = 3 := by omega
    rcases this with c | c | c | c
    · rw [c, Nat.mul_zero, Nat.add_zero]
    · rw [c]
      exact h.1
    · rw [c]
      exact h.2.1
    · rw [c]
      exact h.2.2.1
  rw [e3] at e
  unfold bb2
  rw [e, f]
  omega
theorem bt3_s (a q : Nat) (ha : a < 69) (hq : q % 256 < 69) (hq2 : q % 16 < 5) (m : Nat) : ((a + 256 * q) + (a + 256 * q) / 16 &&& (15 + 256 * m)) = (a + a / 16 &&& 15) + 256 * (q + q / 16 &&& m) := by
  have e := and8 ((a + 256 * q) + (a + 256 * q) / 16) (15 + 256 * m)
  have h := bc4 a ha (q % 16) hq2
  have e1 : ((a + 256 * q) + (a + 256 * q) / 16) % 256 = a + a / 16 + 16 * (q % 16) := by omega
  have e2 : ((a + 256 * q) + (a + 256 * q) / 16) / 256 = q + q / 16 := by omega
  rw [e1, e2, show (15 + 256 * m) % 256 = 15 by omega, show (15 + 256 * m) / 256 = m by omega, h] at e
  exact e
/-- how many bits, as the library counts them -/
theorem bits32 {a b c d : Nat} (ha : a < 256) (hb : b < 256) (hc : c < 256) (hd : d < 256) : bt3 (bt2 (bt1 (a + 256 * (b + 256 * (c + 256 * d))))) = pcn 8 a + 256 * (pcn 8 b + 256 * (pcn 8 c + 256 * pcn 8 d)) := by
  have x1 : bt1 (a + 256 * (b + 256 * (c + 256 * d))) = bb1 a + 256 * (bb1 b + 256 * (bb1 c + 256 * bb1 d)) := by
    show _ - (_ &&& (85 + 256 * 5592405)) = _
    rw [bt1_s a _ ha, show (5592405 : Nat) = 85 + 256 * 21845 from rfl, bt1_s b _ hb, show (21845 : Nat) = 85 + 256 * 85 from rfl, bt1_s c _ hc]
    rfl
  have a1 := bc1 a ha
  have a2 := bc1 b hb
  have a3 := bc1 c hc
  have a4 := bc1 d hd
  have x2 : bt2 (bb1 a + 256 * (bb1 b + 256 * (bb1 c + 256 * bb1 d))) = bb2 (bb1 a) + 256 * (bb2 (bb1 b) + 256 * (bb2 (bb1 c) + 256 * bb2 (bb1 d))) := by
    show (_ &&& (51 + 256 * 3355443)) + (_ &&& (51 + 256 * 3355443)) = _
    rw [bt2_s _ _ a1.2.2, show (3355443 : Nat) = 51 + 256 * 13107 from rfl, bt2_s _ _ a2.2.2, show (13107 : Nat) = 51 + 256 * 51 from rfl, bt2_s _ _ a3.2.2]
    rfl
  have q1 := bc2 a ha
  have q2 := bc2 b hb
  have q3 := bc2 c hc
  have q4 := bc2 d hd
  have x3 : bt3 (bb2 (bb1 a) + 256 * (bb2 (bb1 b) + 256 * (bb2 (bb1 c) + 256 * bb2 (bb1 d)))) = pcn 8 a + 256 * (pcn 8 b + 256 * (pcn 8 c + 256 * pcn 8 d)) := by
    show (_ + _ &&& (15 + 256 * 986895)) = _
    rw [bt3_s _ _ q1.2.2.2.1 (by omega) (by omega), show (986895 : Nat) = 15 + 256 * 3855 from rfl, bt3_s _ _ q2.2.2.2.1 (by omega) (by omega), show (3855 : Nat) = 15 + 256 * 15 from rfl, bt3_s _ _ q3.2.2.2.1 (by omega) (by omega), bc3 a ha, bc3 b hb, bc3 c hc, bc3 d hd]
  rw [x1, x2, x3]
theorem pcn32 {a b c d : Nat} (ha : a < 256) (hb : b < 256) (hc : c < 256) : pcn 32 (a + 256 * (b + 256 * (c + 256 * d))) = pcn 8 a + pcn 8 b + pcn 8 c + pcn 8 d := by
  have s1 := pcn_add 8 24 (a + 256 * (b + 256 * (c + 256 * d)))
  have s2 := pcn_add 8 16 (b + 256 * (c + 256 * d))
  have s3 := pcn_add 8 8 (c + 256 * d)
  have m1 := pcn_mod 8 8 (a + 256 * (b + 256 * (c + 256 * d))) (by omega)
  have m2 := pcn_mod 8 8 (b + 256 * (c + 256 * d)) (by omega)
  have m3 := pcn_mod 8 8 (c + 256 * d) (by omega)
  rw [show (2 : Nat) ^ 8 = 256 from rfl] at s1 s2 s3 m1 m2 m3
  rw [show (a + 256 * (b + 256 * (c + 256 * d))) / 256 = b + 256 * (c + 256 * d) by omega] at s1
  rw [show (b + 256 * (c + 256 * d)) / 256 = c + 256 * d by omega] at s2
  rw [show (c + 256 * d) / 256 = d by omega] at s3
  rw [show (a + 256 * (b + 256 * (c + 256 * d))) % 256 = a by omega] at m1
  rw [show (b + 256 * (c + 256 * d)) % 256 = b by omega] at m2
  rw [show (c + 256 * d) % 256 = c by omega] at m3
  rw [show (32 : Nat) = 8 + 24 from rfl, s1, show (24 : Nat) = 8 + 16 from rfl, s2, show (16 : Nat) = 8 + 8 from rfl, s3, ← m1, ← m2, ← m3]
  omega
theorem bt_le1 (x : Nat) : bt1 x ≤ x := Nat.sub_le _ _
theorem c_342 {k : Int → FS → FI → FJ → Prop} {x : Nat} {S : FS} {F : FI} {G : FJ} (hx : x < 268435456) (hk : ∀ v, v = (pcn 32 x : Int) → k v S F G) : calI 0 342 [.inl (x : Int)] (mm S F G) k nof := by
  refine sg_342_0 ⟨_, _, _, rfl, hk _ ?_⟩
  have hd : x = x % 256 + 256 * (x / 256 % 256 + 256 * (x / 65536 % 256 + 256 * (x / 16777216))) := by omega
  have hB := bits32 (a := x % 256) (b := x / 256 % 256) (c := x / 65536 % 256) (d := x / 16777216) (by omega) (by omega) (by omega) (by omega)
  have hP := pcn32 (a := x % 256) (b := x / 256 % 256) (c := x / 65536 % 256) (d := x / 16777216) (by omega) (by omega) (by omega)
  rw [← hd] at hB hP
  have w1 := pc8 (x % 256) (by omega)
  have w2 := pc8 (x / 256 % 256) (by omega)
  have w3 := pc8 (x / 65536 % 256) (by omega)
  have w4 := pc8 (x / 16777216) (by omega)
  have l1 := bt_le1 x
  have n1 : (x / 2 &&& 1431655765) ≤ x / 2 := Nat.and_le_left
  have n2 : (bt1 x &&& 858993459) ≤ bt1 x := Nat.and_le_left
  have n3 : (bt1 x / 4 &&& 858993459) ≤ bt1 x / 4 := Nat.and_le_left
  have hT1 : wr ((x : Int) - an (ushr (x : Int) 1) 1431655765) = ((bt1 x : Nat) : Int) := by
    rw [show (1 : Int) = ((1 : Nat) : Int) from rfl, ushr_n (by omega) (by omega), show (2 : Nat) ^ 1 = 2 from rfl, show (1431655765 : Int) = ((1431655765 : Nat) : Int) from rfl, an_n (by decide), wr_id (by omega) (by omega)]
    unfold bt1
    omega
  have hT2 : wr (an ((bt1 x : Nat) : Int) 858993459 + an (ushr ((bt1 x : Nat) : Int) 2) 858993459) = ((bt2 (bt1 x) : Nat) : Int) := by
    rw [show (2 : Int) = ((2 : Nat) : Int) from rfl, ushr_n (by omega) (by omega), show (2 : Nat) ^ 2 = 4 from rfl, show (858993459 : Int) = ((858993459 : Nat) : Int) from rfl, an_n (by decide), an_n (by decide), wr_id (by omega) (by omega)]
    unfold bt2
    omega
  have l2 : bt2 (bt1 x) ≤ 536870912 := by
    unfold bt2
    omega
  have hT3 : an (wr (((bt2 (bt1 x) : Nat) : Int) + ushr ((bt2 (bt1 x) : Nat) : Int) 4)) 252645135 = ((bt3 (bt2 (bt1 x)) : Nat) : Int) := by
    rw [show (4 : Int) = ((4 : Nat) : Int) from rfl, ushr_n (by omega) (by omega), show (2 : Nat) ^ 4 = 16 from rfl, wr_id (by omega) (by omega), ← Int.natCast_add, show (252645135 : Int) = ((252645135 : Nat) : Int) from rfl, an_n (by decide)]
    rfl
  rw [hT1, hT2, hT3, hB]
  generalize pcn 8 (x % 256) = p0 at *
  generalize pcn 8 (x / 256 % 256) = p1 at *
  generalize pcn 8 (x / 65536 % 256) = p2 at *
  generalize pcn 8 (x / 16777216) = p3 at *
  have hT4 : wr (((p0 + 256 * (p1 + 256 * (p2 + 256 * p3)) : Nat) : Int) + ushr ((p0 + 256 * (p1 + 256 * (p2 + 256 * p3)) : Nat) : Int) 8) = (((p0 + p1) + 256 * ((p1 + p2) + 256 * ((p2 + p3) + 256 * p3)) : Nat) : Int) := by
    rw [show (8 : Int) = ((8 : Nat) : Int) from rfl, ushr_n (by omega) (by omega), show (2 : Nat) ^ 8 = 256 from rfl, wr_id (by omega) (by omega)]
    omega
  rw [hT4]
  have hT5 : wr ((((p0 + p1) + 256 * ((p1 + p2) + 256 * ((p2 + p3) + 256 * p3)) : Nat) : Int) + ushr ((((p0 + p1) + 256 * ((p1 + p2) + 256 * ((p2 + p3) + 256 * p3)) : Nat) : Int)) 16) = (((p0 + p1 + p2 + p3) + 256 * ((p1 + p2 + p3) + 256 * ((p2 + p3) + 256 * p3)) : Nat) : Int) := by
    rw [show (16 : Int) = ((16 : Nat) : Int) from rfl, ushr_n (by omega) (by omega), show (2 : Nat) ^ 16 = 65536 from rfl, wr_id (by omega) (by omega)]
    omega
  rw [hT5, show (63 : Int) = ((63 : Nat) : Int) from rfl, an_n (by decide), show (63 : Nat) = 2 ^ 6 - 1 from rfl, Nat.and_two_pow_sub_one_eq_mod]
  omega
