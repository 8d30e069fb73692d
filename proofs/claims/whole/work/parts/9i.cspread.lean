/-! ===== the class walks: where they may come ===== -/
noncomputable def gW (f : Nat → Int) : Nat → Int := fun i => @ite _ (bit (f (i / 13)) ((i % 13 : Nat) : Int)) (Classical.propDecidable _) 1 0
def SB (st : Int) (f : Nat → Int) : Prop := ∀ i : Nat, i < 300 → 0 ≤ f i ∧ f i < ((2 ^ (st + 1).toNat : Nat) : Int)
theorem SB_8 {st : Int} {f : Nat → Int} (h : SB st f) (hst : st ≤ 12) : ∀ i : Nat, i < 300 → 0 ≤ f i ∧ f i < 8192 := fun i hi => by
  have := h i hi
  have hp : 2 ^ (st + 1).toNat ≤ 2 ^ 13 := Nat.pow_le_pow_right (by decide) (by omega)
  omega
theorem gW_01 (f : Nat → Int) (i : Nat) : gW f i = 0 ∨ gW f i = 1 := by
  unfold gW
  split
  · exact Or.inr rfl
  · exact Or.inl rfl
theorem gW_i {f : Nat → Int} {h p n : Int} (h0 : 0 ≤ h) (p0 : 0 ≤ p) (n0 : 0 ≤ n) (n1 : n ≤ 12) : gW f ((h * 12 + p) * 13 + n).toNat = 1 ↔ bit (f (h * 12 + p).toNat) n := by
  unfold gW
  rw [show ((h * 12 + p) * 13 + n).toNat / 13 = (h * 12 + p).toNat by omega, show ((((h * 12 + p) * 13 + n).toNat % 13 : Nat) : Int) = n by omega]
  split
  · rename_i c
    exact ⟨fun _ => c, fun _ => rfl⟩
  · rename_i c
    exact ⟨fun q => absurd q (by decide), fun q => absurd q c⟩
theorem shl_8 {n : Int} (h0 : 0 ≤ n) (h1 : n ≤ 12) : shl 1 n = ((2 ^ n.toNat : Nat) : Int) ∧ 1 ≤ shl 1 n ∧ shl 1 n < 8192 := by
  obtain ⟨I, rfl⟩ := Int.eq_ofNat_of_zero_le h0
  have hp : 2 ^ I ≤ 2 ^ 12 := Nat.pow_le_pow_right (by decide) (by omega)
  have hp1 := Nat.two_pow_pos I
  have e := shl_n (a := 1) (k := I) (by omega) (by omega)
  rw [Nat.one_mul] at e
  rw [show ((I : Int)).toNat = I by omega]
  have e' : shl 1 (I : Int) = ((2 ^ I : Nat) : Int) := e
  rw [e']
  exact ⟨rfl, by omega, by omega⟩
/-- a mark more -/
def MW (f' f : Nat → Int) (h p n : Int) : Prop := ∀ h' p' n' : Int, 0 ≤ h' → h' ≤ 24 → 0 ≤ p' → p' < 12 → 0 ≤ n' → n' ≤ 12 → (gW f' ((h' * 12 + p') * 13 + n').toNat = 1 ↔ gW f ((h' * 12 + p') * 13 + n').toNat = 1 ∨ (h' = h ∧ p' = p ∧ n' = n))
theorem c_292 {k : FS → FI → FJ → Prop} {st p h n : Int} {S : FS} {F : FI} {G : FJ} (p0 : 0 ≤ p) (p1 : p < 12) (h0 : 0 ≤ h) (h1 : h ≤ 24) (n0 : 0 ≤ n) (n1 : n ≤ st) (hst : st ≤ 12) (hs : SB st (F 27)) (hk : ∀ F', (∀ c, c ≠ 27 → F' c = F c) → SB st (F' 27) → MW (F' 27) (F 27) h p n → (∀ i, i ≠ (h * 12 + p).toNat → F' 27 i = F 27 i) → k S F' G) : calV 0 292 [.inr (.inr (.inl 26)), .inl p, .inl h, .inl n] (mm S F G) k nof := by
  refine sg_292_0 ?_
  rw [wr_id (a := h * 12) (by omega) (by omega), wr_id (a := h * 12 + p) (by omega) (by omega)]
  have b := SB_8 hs hst (h * 12 + p).toNat (by omega)
  have s := shl_8 n0 (show n ≤ 12 by omega)
  have ob : 0 ≤ orr (F 27 (h * 12 + p).toNat) (shl 1 n) ∧ orr (F 27 (h * 12 + p).toNat) (shl 1 n) < ((2 ^ (st + 1).toNat : Nat) : Int) := by
    have b2 := hs (h * 12 + p).toNat (by omega)
    rw [s.1]
    obtain ⟨A, hA⟩ := Int.eq_ofNat_of_zero_le b2.1
    rw [hA] at b b2 ⊢
    have hp : 2 ^ n.toNat ≤ 2 ^ 12 := Nat.pow_le_pow_right (by decide) (by omega)
    rw [orr_n (by omega) (by omega)]
    have h2 : 2 ^ n.toNat < 2 ^ (st + 1).toNat := Nat.pow_lt_pow_right (by decide) (by omega)
    have := Nat.or_lt_two_pow (n := (st + 1).toNat) (x := A) (y := 2 ^ n.toNat) (by omega) h2
    omega
  refine ck_i (jb_i (by omega) (by omega)) (ck_i (jb_i (by omega) (by omega)) ⟨_, _, _, rfl, hk _ (fun c hc => u2_o hc) (fun i hi => ?_) (fun h' p' n' a1 a2 a3 a4 a5 a6 => ?_) (fun i hi => u2_n hi)⟩)
  · rw [u2_k]
    split
    · exact ob
    · exact hs i hi
  · rw [gW_i a1 a3 a5 a6, gW_i a1 a3 a5 a6, u2_k]
    by_cases q : h' = h ∧ p' = p
    · rw [if_pos (by omega), q.1, q.2, bit_or b.1 (by omega) (by omega) (by omega) a5]
      have bp : bit (shl 1 n) n' ↔ n' = n := by
        rw [s.1]
        exact bit_p n0 a5
      rw [bp]
      constructor
      · rintro (x | x)
        · exact Or.inl x
        · exact Or.inr ⟨rfl, rfl, x⟩
      · rintro (x | x)
        · exact Or.inl x
        · exact Or.inr x.2.2
    · rw [if_neg (by omega)]
      exact ⟨fun x => Or.inl x, fun x => x.elim id (fun y => absurd ⟨y.1, y.2.1⟩ q)⟩
/-- the walker's own cells may change -/
theorem YK_w {S : FS} {F F' : FI} {G G' : FJ} {a b : Nat} {l s : Nat → Int} {w : La} (h : YK S F G a b l s w) (o1 : ∀ c, ¬ (25 ≤ c ∧ c ≤ 30) → F' c = F c) (o2 : ∀ c, ¬ (28 ≤ c ∧ c ≤ 30) → G' c = G c) : YK S F' G' a b l s w ∧ QC S S F F' G G' := by
  obtain ⟨ha, hb, -, -, -, -, -, -, -, v1, v2, v3, v4, v5, v6⟩ := id h
  have q : QC S S F F' G G' := ⟨fun c hc => o1 c (by unfold kpC at hc; omega), fun i _ => by rw [o1 1 (by decide)], fun c hc => o2 c (by omega), fun _ _ _ => rfl⟩
  refine ⟨YK_q h q ⟨?_, ?_, ?_, ?_, ?_, fun z => ?_⟩, q⟩
  · rw [o1 23 (by decide)]; exact v1
  · unfold RK
    rw [o1 22 (by decide), o1 24 (by decide)]
    exact v2
  · rw [o1 16 (by decide)]; exact v3
  · rw [o1 19 (by decide)]; exact v4
  · rw [o1 1 (by decide)]; exact v5
  · rw [o1 1 (by decide)] at z
    have := v6 z
    unfold SOL GS at this ⊢
    rw [o1 7 (by decide), o1 6 (by decide), o1 18 (by decide), o2 17 (by decide)]
    exact this
/-- what may come of a move, by who asks -/
def EW (l : Nat → Int) (st x3 : Int) : Int → Int → Int → Int → Int → Int → Prop := if x3 = 0 then sGo l st else sMy l st
theorem EW_0 {l : Nat → Int} {st x3 h p n p' n' : Int} : EW l st x3 h p n 0 p' n' ↔ p' = p ∧ n' = sAf l st p n := by
  unfold EW
  split
  · unfold sGo
    rw [if_pos (Or.inl rfl)]
    exact ⟨fun q => ⟨q.1, by rw [← q.1]; exact q.2⟩, fun q => ⟨q.1, by rw [q.1]; exact q.2⟩⟩
  · unfold sMy
    exact ⟨fun q => q.elim (fun r => r.2) (fun r => absurd rfl r.1.1), fun q => Or.inl ⟨Or.inl rfl, q⟩⟩
theorem EW_a {l : Nat → Int} {st x3 h p n m p' n' : Int} (h16 : sSn l (m - 1) h = 16) : EW l st x3 h p n m p' n' ↔ p' = p ∧ n' = sAf l st p n := by
  unfold EW
  split
  · unfold sGo
    rw [if_pos (Or.inr h16)]
    exact ⟨fun q => ⟨q.1, by rw [← q.1]; exact q.2⟩, fun q => ⟨q.1, by rw [q.1]; exact q.2⟩⟩
  · unfold sMy
    exact ⟨fun q => q.elim (fun r => r.2) (fun r => by have := r.1.2; omega), fun q => Or.inl ⟨Or.inr (by omega), q⟩⟩
theorem EW_b {l : Nat → Int} {st x3 h p n m p' n' : Int} (hm : m ≠ 0) (h16 : sSn l (m - 1) h < 16) (hx : x3 = 0 ∨ ¬ 0 < sSn l (m - 1) h) : EW l st x3 h p n m p' n' ↔ p' = sOth l (m - 1) p ∧ n' = sAf l st (sOth l (m - 1) p) n := by
  unfold EW
  split
  · unfold sGo
    rw [if_neg (by omega)]
    exact ⟨fun q => ⟨q.1, by rw [← q.1]; exact q.2⟩, fun q => ⟨q.1, by rw [q.1]; exact q.2⟩⟩
  · rename_i c
    unfold sMy
    exact ⟨fun q => q.elim (fun r => by have := r.1; omega) (fun r => r.2), fun q => Or.inr ⟨⟨hm, h16⟩, q⟩⟩
theorem EW_c {l : Nat → Int} {st x3 h p n m p' n' : Int} (hm : m ≠ 0) (h16 : sSn l (m - 1) h < 16) (hx : x3 ≠ 0) (h0 : 0 < sSn l (m - 1) h) : EW l st x3 h p n m p' n' ↔ (p' = p ∧ n' = sAf l st p n) ∨ (p' = sOth l (m - 1) p ∧ n' = sAf l st (sOth l (m - 1) p) n) := by
  unfold EW
  rw [if_neg hx]
  unfold sMy
  exact ⟨fun q => q.elim (fun r => Or.inl r.2) (fun r => Or.inr r.2), fun q => q.elim (fun r => Or.inl ⟨Or.inr h0, r⟩) (fun r => Or.inr ⟨⟨hm, h16⟩, r⟩)⟩
/-- no move is left -/
theorem RI_x {l : Nat → Int} {B : Int → Int → Int → Int} {E : Int → Int → Int → Int → Int → Int → Prop} {st h0 p0 n0 p n : Int} {g : Nat → Int} {t : Nat} {j : Int} (hst : st ≤ 12) (hw : vs l st (h0 + t) p n) (h : RI l B E st h0 p0 n0 g t (p * 13 + n) j) (hb : ∀ m, j ≤ m → 0 ≤ m → m ≤ l 1 → ¬ bit (B (h0 + t) p n) m) : RI l B E st h0 p0 n0 g t (p * 13 + n + 1) 0 := by
  refine RI_c h (fun p' n' => ⟨fun ⟨q, s, m, a, b⟩ => ⟨q, s, m, a, by omega⟩, fun ⟨q, s, m, a, b⟩ => ⟨q, s, m, a, ?_⟩⟩)
  have m0 := a.2.2.2.1
  by_cases c : q * 13 + s < p * 13 + n
  · exact Or.inl c
  · by_cases d : m < j
    · exact Or.inr ⟨by omega, d⟩
    · have hq := a.2.1
      unfold vs at hq hw
      have e1 : q = p := by omega
      have e2 : s = n := by omega
      have := m0.2.2
      rw [e1, e2] at this
      exact absurd this (hb m (by omega) m0.1 m0.2.1)
theorem sar_z {M m i : Int} (h0 : 0 ≤ M) (h1 : M < 2147483648) (m0 : 0 ≤ m) (m1 : m < 32) (hz : sar M m = 0) (hi : m ≤ i) : ¬ bit M i := by
  obtain ⟨A, rfl⟩ := Int.eq_ofNat_of_zero_le h0
  obtain ⟨K, rfl⟩ := Int.eq_ofNat_of_zero_le m0
  obtain ⟨I, rfl⟩ := Int.eq_ofNat_of_zero_le (show 0 ≤ i by omega)
  rw [sar_n (by omega) (by omega)] at hz
  have hd : A / 2 ^ K = 0 := by omega
  have hp := Nat.two_pow_pos K
  have hlt : A < 2 ^ K := by
    rcases Nat.div_eq_zero_iff.mp hd with q | q
    · omega
    · exact q
  rw [bit_tb, Nat.testBit_lt_two_pow (Nat.lt_of_lt_of_le hlt (Nat.pow_le_pow_right (by decide) (by omega)))]
  decide
