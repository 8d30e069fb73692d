/-! ===== what the class's columns hold ===== -/
theorem AM_mask {l : Nat → Int} {w : La} {sk k h p n m : Int} (hw : l 1 ≤ 24) (hw0 : 0 ≤ l 1) (h0 : 0 ≤ m) (hb : bit (sMask l w sk k h p n) m) : AM l p m := by
  obtain ⟨N, rfl⟩ := Int.eq_ofNat_of_zero_le h0
  unfold sMask at hb
  have mb := sMk_b (sLf l w sk k h p n) (l 1 + 1).toNat
  by_cases c : sRaw l w sk k h p n = 0
  · rw [if_pos c] at hb
    left
    by_cases q : N = 0
    · rw [q]
      rfl
    · have e : (1 : Int) = ((1 : Nat) : Int) := rfl
      rw [e, bit_tb, Nat.testBit_lt_two_pow (show 1 < 2 ^ N from Nat.one_lt_two_pow q)] at hb
      exact absurd hb (by decide)
  · rw [if_neg c] at hb
    by_cases q : N < (l 1 + 1).toNat
    · have := (sMk_bit _ _ N q).mp hb
      unfold sLf at this
      unfold AM
      by_cases z : (N : Int) = 0
      · exact Or.inl z
      · rw [if_neg z] at this
        exact Or.inr ⟨by omega, by omega, this.1⟩
    · obtain ⟨X, hX⟩ := Int.eq_ofNat_of_zero_le mb.1
      have e : sRaw l w sk k h p n = (X : Int) := hX
      rw [hX] at mb
      have hl : X < 2 ^ (l 1 + 1).toNat := by exact_mod_cast mb.2
      have hp : 2 ^ (l 1 + 1).toNat ≤ 2 ^ N := Nat.pow_le_pow_right (by decide) (by omega)
      rw [e, bit_tb, Nat.testBit_lt_two_pow (by omega)] at hb
      exact absurd hb (by decide)
theorem sCh_e {l : Nat → Int} {c : Cf} {st e h p n : Int} (h2 : h ≤ l 3) (he : sEnd l h p n ≠ 0) : sCh l c st e (l 3 - h).toNat p n = if sEnd l h p n = e then sScH l h else 0 := by
  by_cases d : h = l 3
  · rw [d, show (l 3 - l 3).toNat = 0 by omega]
    show (if _ then _ else _) = _
    unfold sScH
    rw [show (l 3 - l 3).toNat = 0 by omega]
    rfl
  · obtain ⟨t, ht⟩ : ∃ t : Nat, (l 3 - h).toNat = t + 1 := ⟨(l 3 - h).toNat - 1, by omega⟩
    have e : l 3 - ((t : Int) + 1) = h := by omega
    unfold sScH
    rw [ht]
    show (if _ then _ else _) = _
    rw [e, if_pos he]
theorem sCh_g {l : Nat → Int} {c : Cf} {st e h p n : Int} (h2 : h < l 3) (he : sEnd l h p n = 0) : sCh l c st e (l 3 - h).toNat p n = sBr l st h p n (sTk l c st h p n) (sCh l c st e (l 3 - (h + 1)).toNat) := by
  obtain ⟨t, ht⟩ : ∃ t : Nat, (l 3 - h).toNat = t + 1 := ⟨(l 3 - h).toNat - 1, by omega⟩
  have e1 : l 3 - ((t : Int) + 1) = h := by omega
  have e2 : (l 3 - (h + 1)).toNat = t := by omega
  unfold sTk
  rw [ht, e2]
  show (if _ then _ else _) = _
  rw [e1, if_neg (by rw [he]; decide), if_neg (by rw [he]; decide)]
theorem sCh_b {l : Nat → Int} {c : Cf} {st e : Int} (hv : LV l) (hs : 0 ≤ st) (hst : st ≤ 12) (hc : CV l st c) :
    ∀ t : Nat, (t : Int) ≤ l 3 → ∀ p n, 0 ≤ p → p < l 0 → 0 ≤ n → n ≤ st → WB l t (sCh l c st e t p n) := by
  obtain ⟨⟨hv1, hv2⟩, ⟨hv3, hv4⟩, ⟨hv5, hv6⟩, ⟨hv7, hv8⟩, ⟨hv9, hv10⟩, ⟨hv11, hv12⟩, ⟨hv13, hv14⟩, hvw, hvs, hvk, hvc, hvx⟩ := id hv
  intro t
  induction t with
  | zero =>
    intro _ p n h1 h2 h3 h4
    have := sSc_1 l 0
    unfold WB
    show _ ≤ (if _ then _ else _) ∧ (if _ then _ else _) ≤ _
    split <;> omega
  | succ t ih =>
    intro ht p n h1 h2 h3 h4
    have hh : (l 3 - (l 3 - ((t : Int) + 1))).toNat = t + 1 := by omega
    have hh2 : (l 3 - (l 3 - ((t : Int) + 1) + 1)).toNat = t := by omega
    by_cases d : sEnd l (l 3 - ((t : Int) + 1)) p n = 0
    · obtain ⟨c1, c2⟩ := sEnd_n d
      have mb := sTk_in hv hc ⟨by omega, by omega, h1, h2, h3, h4⟩ d
      have e := sCh_g (c := c) (st := st) (e := e) (by omega) d
      rw [hh, hh2] at e
      rw [e]
      exact sBr_w hv hs hst h1 h2 (by omega) h4 mb.1 mb.2 (by omega) (by omega) rfl (fun q s a b c d => ih (by omega) q s a b c d)
    · have e := sCh_e (c := c) (st := st) (e := e) (by omega) d
      rw [hh] at e
      rw [e]
      have := sSc_1 l (t + 1)
      unfold WB sScH
      rw [hh]
      split <;> omega
/-- the kind that a leader acts by -/
def cK (c : Cf) (k : Int) : Int := if c.2.2.2.2.2.2 = 1 then 7 else if k = c.2.2.2.2.1 ∨ k = c.2.2.2.2.2.1 then 6 else c.2.1 k
def CW (l : Nat → Int) (c : Cf) : Prop := (∀ k, 0 ≤ k → k < l 2 → 0 ≤ c.2.1 k ∧ c.2.1 k ≤ 5) ∧ (c.2.2.2.2.1 = -1 ∧ c.2.2.2.2.2.1 = -1 ∨ (0 ≤ c.2.2.2.2.1 ∧ c.2.2.2.2.1 < l 2) ∧ (0 ≤ c.2.2.2.2.2.1 ∧ c.2.2.2.2.2.1 < l 2) ∧ c.2.2.2.2.1 ≠ c.2.2.2.2.2.1)
/-- columns that are filled -/
def YV (l : Nat → Int) (c : Cf) (o : Int) : Prop := 0 ≤ o ∧ (o < 2 + l 2 ∨ (7 ≤ o ∧ o < 7 + l 2) ∧ (cK c (o - 7) = 1 ∨ cK c (o - 7) = 4))
noncomputable def fC (l : Nat → Int) (c : Cf) (st : Int) (t : Nat) (o q s : Int) : Int := if o = 0 then sCh l c st 1 t q s else if o = 1 then sCh l c st 2 t q s else if o < 7 then sW l c st t (o - 2) q s
  else if cK c (o - 7) = 1 then sDr l st c.2.2.2.1 (fun _ => o - 7) (o - 7) t q s else sDr l st c.2.2.2.1 c.1 (o - 7) t q s
theorem fC_B {l : Nat → Int} {c : Cf} {st o q s : Int} {t : Nat} (hv : LV l) (hs : 0 ≤ st) (hst : st ≤ 12) (hc : CV l st c) (ho : YV l c o) (ht : (t : Int) ≤ l 3) (h1 : 0 ≤ q) (h2 : q < l 0) (h3 : 0 ≤ s) (h4 : s ≤ st) : B5 (fC l c st t o q s) := by
  obtain ⟨⟨hv1, hv2⟩, ⟨hv3, hv4⟩, ⟨hv5, hv6⟩, ⟨hv7, hv8⟩, ⟨hv9, hv10⟩, ⟨hv11, hv12⟩, ⟨hv13, hv14⟩, hvw, hvs, hvk, hvc, hvx⟩ := id hv
  unfold YV at ho
  unfold fC
  split
  · exact WB_5 hv ht (sCh_b hv hs hst hc t ht q s h1 h2 h3 h4)
  split
  · exact WB_5 hv ht (sCh_b hv hs hst hc t ht q s h1 h2 h3 h4)
  split
  · exact WB_5 hv ht (sW_b hv hs hst hc t ht _ q s (by omega) (by omega) h1 h2 h3 h4)
  split
  · exact WB_5 hv ht (sDr_b hv hs hst hc.2.2.1 (by omega) (by omega) (fun _ _ _ => ⟨by omega, by omega⟩) t ht q s h1 h2 h3 h4)
  · exact WB_5 hv ht (sDr_b hv hs hst hc.2.2.1 (by omega) (by omega) hc.1 t ht q s h1 h2 h3 h4)
theorem fC_e {l : Nat → Int} {c : Cf} {st o h p n : Int} (h2 : h ≤ l 3) (he : sEnd l h p n ≠ 0) (h7 : o < 7 ∨ 7 ≤ o) : fC l c st (l 3 - h).toNat o p n = if o = 0 then (if sEnd l h p n = 1 then sScH l h else 0) else if o = 1 then (if sEnd l h p n = 2 then sScH l h else 0) else if o < 7 then sEv l (o - 2) h p (sEnd l h p n) else sEv l (o - 7) h p (sEnd l h p n) := by
  unfold fC
  rw [sCh_e h2 he, sCh_e h2 he, sW_e h2 he, sDr_e h2 he, sDr_e h2 he]
  split
  · rfl
  split
  · rfl
  split
  · rfl
  split <;> rfl
theorem fC_g {l : Nat → Int} {c : Cf} {st o h p n : Int} (h2 : h < l 3) (he : sEnd l h p n = 0) (h7 : o < 7) : fC l c st (l 3 - h).toNat o p n = sBr l st h p n (sTk l c st h p n) (fC l c st (l 3 - (h + 1)).toNat o) := by
  have e : fC l c st (l 3 - (h + 1)).toNat o = if o = 0 then sCh l c st 1 (l 3 - (h + 1)).toNat else if o = 1 then sCh l c st 2 (l 3 - (h + 1)).toNat else sW l c st (l 3 - (h + 1)).toNat (o - 2) := by
    funext q s
    unfold fC
    simp only [if_pos h7]
    split
    · rfl
    split <;> rfl
  rw [e]
  unfold fC
  rw [sCh_g h2 he, sCh_g h2 he, sW_g h2 he]
  simp only [if_pos h7]
  split
  · rfl
  split <;> rfl
theorem sSum_1 {c : Int → Prop} {g : Int → Int} {i : Int} {n : Nat} (h0 : 0 ≤ i) (h1 : i < n) (h : ∀ k : Int, 0 ≤ k → k < n → (c k ↔ k = i)) : sSum c g n = g i := by
  have e1 := sSum_e (c := c) (g := g) (m := (i + 1).toNat) (n := n) (by omega) (fun k a b q => by have := (h k (by omega) b).mp q; omega)
  rw [e1, sSum_t h0 ((h i h0 h1).mpr rfl), sSum_0 (fun k a b q => by have := (h k a (by omega)).mp q; omega), Int.zero_add]
theorem bit_p {i k : Int} (h0 : 0 ≤ i) (h1 : 0 ≤ k) : bit ((2 ^ i.toNat : Nat) : Int) k ↔ k = i := by
  obtain ⟨I, rfl⟩ := Int.eq_ofNat_of_zero_le h0
  obtain ⟨K, rfl⟩ := Int.eq_ofNat_of_zero_le h1
  rw [bit_tb, Nat.testBit_two_pow, show ((I : Int)).toNat = I by omega, decide_eq_true_iff]
  omega
theorem shl_1 {i : Int} (h0 : 0 ≤ i) (h1 : i < 12) : shl 1 i = ((2 ^ i.toNat : Nat) : Int) ∧ 1 ≤ shl 1 i ∧ shl 1 i < 4096 := by
  obtain ⟨I, rfl⟩ := Int.eq_ofNat_of_zero_le h0
  have hp : 2 ^ I ≤ 2 ^ 11 := Nat.pow_le_pow_right (by decide) (by omega)
  have hp1 := Nat.two_pow_pos I
  have e := shl_n (a := 1) (k := I) (by omega) (by omega)
  rw [Nat.one_mul] at e
  rw [show ((I : Int)).toNat = I by omega]
  have e' : shl 1 (I : Int) = ((2 ^ I : Nat) : Int) := e
  rw [e']
  exact ⟨rfl, by omega, by omega⟩
theorem vE_1 {l : Nat → Int} {st h p n sg m i : Int} {f : Int → Int → Int → Int} (h0 : 0 ≤ i) (h1 : i < 12) : vE l st h p n f (shl 1 i) sg m = sg * sBr l st h p n m (f i) := by
  unfold vE
  rw [sSum_1 (g := fun c => sBr l st h p n m (f c)) h0 (by omega) (fun k a b => by rw [(shl_1 h0 h1).1]; exact bit_p h0 a)]
theorem kb_0 : ∀ n : Nat, n < 6 → 1 ≤ n → shl (wr (shl 1 (n : Int) - 1)) 2 = (((2 ^ n - 1) * 4 : Nat) : Int) ∧ (∀ k : Nat, k < 12 → (((2 ^ n - 1) * 4).testBit k = true ↔ 2 ≤ k ∧ k < 2 + n)) ∧ 1 ≤ (2 ^ n - 1) * 4 ∧ (2 ^ n - 1) * 4 < 4096 := by decide +kernel
theorem sSum_s {g : Int → Int} {c : Int → Prop} {n : Nat} (h : ∀ k : Int, 0 ≤ k → k < 12 → (c k ↔ 2 ≤ k ∧ k < 2 + (n : Int))) (hn : n ≤ 10) : sSum c g 12 = sSum (fun _ => True) (fun k => g (k + 2)) n := by
  have up : ∀ j : Nat, j ≤ n → sSum c g (j + 2) = sSum (fun _ => True) (fun k => g (k + 2)) j := by
    intro j
    induction j with
    | zero =>
      intro _
      exact sSum_0 (fun k a b q => by have := (h k a (by omega)).mp q; omega)
    | succ i ih =>
      intro hj
      have e := sSum_t (c := c) (g := g) (i := (i : Int) + 2) (by omega) ((h _ (by omega) (by omega)).mpr ⟨by omega, by omega⟩)
      have e2 := sSum_t (c := fun _ => True) (g := fun k => g (k + 2)) (i := (i : Int)) (by omega) trivial
      rw [show ((i : Int) + 2 + 1).toNat = i + 1 + 2 by omega, show ((i : Int) + 2).toNat = i + 2 by omega] at e
      rw [show ((i : Int) + 1).toNat = i + 1 by omega, show ((i : Int)).toNat = i by omega] at e2
      rw [e, e2, ih (by omega)]
  rw [← up n (Nat.le_refl _)]
  exact sSum_e (by omega) (fun k a b q => by have := (h k (by omega) b).mp q; omega)
/-- all who are asked for, from who follows -/
theorem sSum_p {g : Int → Int} {c : Int → Prop} {a b : Int} {n : Nat} (ha : 0 ≤ a) (ha' : a < n) (hb : 0 ≤ b) (hb' : b < n) (hab : a ≠ b) (h : ∀ k : Int, 0 ≤ k → k < 12 → (c k ↔ k = 2 + a ∨ k = 2 + b)) (hn : n ≤ 10) : sSum c g 12 = sSum (fun k => k = a ∨ k = b) (fun k => g (k + 2)) n := by
  have up : ∀ j : Nat, j ≤ n → sSum c g (j + 2) = sSum (fun k => k = a ∨ k = b) (fun k => g (k + 2)) j := by
    intro j
    induction j with
    | zero =>
      intro _
      exact sSum_0 (fun k a b q => by have := (h k a (by omega)).mp q; omega)
    | succ i ih =>
      intro hj
      have hc := h ((i : Int) + 2) (by omega) (by omega)
      by_cases q : (i : Int) = a ∨ (i : Int) = b
      · have e := sSum_t (c := c) (g := g) (i := (i : Int) + 2) (by omega) (hc.mpr (by omega))
        have e2 := sSum_t (c := fun k => k = a ∨ k = b) (g := fun k => g (k + 2)) (i := (i : Int)) (by omega) q
        rw [show ((i : Int) + 2 + 1).toNat = i + 1 + 2 by omega, show ((i : Int) + 2).toNat = i + 2 by omega] at e
        rw [show ((i : Int) + 1).toNat = i + 1 by omega, show ((i : Int)).toNat = i by omega] at e2
        rw [e, e2, ih (by omega)]
      · have e := sSum_f (c := c) (g := g) (i := (i : Int) + 2) (by omega) (fun r => q (by have := hc.mp r; omega))
        have e2 := sSum_f (c := fun k => k = a ∨ k = b) (g := fun k => g (k + 2)) (i := (i : Int)) (by omega) q
        rw [show ((i : Int) + 2 + 1).toNat = i + 1 + 2 by omega, show ((i : Int) + 2).toNat = i + 2 by omega] at e
        rw [show ((i : Int) + 1).toNat = i + 1 by omega, show ((i : Int)).toNat = i by omega] at e2
        rw [e, e2, ih (by omega)]
  rw [← up n (Nat.le_refl _)]
  exact sSum_e (by omega) (fun k a b q => by have := (h k (by omega) b).mp q; omega)
