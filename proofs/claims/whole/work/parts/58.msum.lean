/-! ===== sums, and where a party may stand ===== -/
def aS (f : Nat → Int) : Nat → Int
  | 0 => 0
  | k + 1 => aS f k + f k
theorem aS_c {f g : Nat → Int} : ∀ {k : Nat}, (∀ i, i < k → f i = g i) → aS f k = aS g k := by
  intro k
  induction k with
  | zero => intro _; rfl
  | succ k ih =>
    intro h
    show aS f k + f k = aS g k + g k
    rw [ih (fun i a => h i (by omega)), h k (by omega)]
theorem aS_z : ∀ {k : Nat}, aS (fun _ => 0) k = 0 := by
  intro k
  induction k with
  | zero => rfl
  | succ k ih => show aS _ k + 0 = 0; omega
theorem aS_add (f g : Nat → Int) : ∀ k : Nat, aS (fun i => f i + g i) k = aS f k + aS g k := by
  intro k
  induction k with
  | zero => rfl
  | succ k ih => show aS _ k + (f k + g k) = aS f k + f k + (aS g k + g k); omega
theorem aS_mul (f : Nat → Int) (x : Int) : ∀ k : Nat, aS (fun i => f i * x) k = aS f k * x := by
  intro k
  induction k with
  | zero => exact (Int.zero_mul x).symm
  | succ k ih => show aS _ k + f k * x = (aS f k + f k) * x; rw [ih, Int.add_mul]
theorem aS_sw (f : Nat → Nat → Int) (m : Nat) : ∀ n : Nat, aS (fun i => aS (fun j => f i j) m) n = aS (fun j => aS (fun i => f i j) n) m := by
  intro n
  induction n with
  | zero => exact aS_z.symm
  | succ n ih =>
    show aS _ n + aS (fun j => f n j) m = _
    rw [ih, ← aS_add]
    rfl
theorem aS_d {f : Nat → Int} {j : Nat} : ∀ {k : Nat}, aS (fun i => if i = j then f i else 0) k = if j < k then f j else 0 := by
  intro k
  induction k with
  | zero => rw [if_neg (by omega)]; rfl
  | succ k ih =>
    show aS _ k + (if k = j then f k else 0) = _
    rw [ih]
    by_cases q : k = j
    · rw [if_neg (by omega), if_pos q, if_pos (by omega), q]; omega
    · rw [if_neg q]
      by_cases r : j < k
      · rw [if_pos r, if_pos (by omega)]; omega
      · rw [if_neg r, if_neg (by omega)]; omega
theorem aS_le {f g : Nat → Int} : ∀ {k : Nat}, (∀ i, i < k → f i ≤ g i) → aS f k ≤ aS g k := by
  intro k
  induction k with
  | zero => intro _; exact Int.le_refl _
  | succ k ih =>
    intro h
    have a := ih (fun i a => h i (by omega))
    have b := h k (by omega)
    show aS f k + f k ≤ aS g k + g k
    omega
theorem aS_nn {f : Nat → Int} {k : Nat} (h : ∀ i, i < k → 0 ≤ f i) : 0 ≤ aS f k := by
  have := aS_le (f := fun _ => 0) (g := f) (k := k) h
  rw [aS_z] at this
  exact this
theorem aS_up {f : Nat → Int} {j : Nat} : ∀ {k : Nat}, j ≤ k → (∀ i, i < k → 0 ≤ f i) → aS f j ≤ aS f k := by
  intro k
  induction k with
  | zero => intro h _; rw [Nat.le_zero.mp h]; exact Int.le_refl _
  | succ k ih =>
    intro h h2
    by_cases q : j = k + 1
    · rw [q]; exact Int.le_refl _
    · have a := ih (by omega) (fun i a => h2 i (by omega))
      have b := h2 k (by omega)
      show aS f j ≤ aS f k + f k
      omega
theorem aS_1 {f : Nat → Int} {j k : Nat} (h : j < k) (h2 : ∀ i, i < k → 0 ≤ f i) : f j ≤ aS f k := by
  have a := aS_up (f := f) (j := j + 1) (k := k) h h2
  have b : 0 ≤ aS f j := aS_nn (fun i a => h2 i (by omega))
  have : aS f (j + 1) = aS f j + f j := rfl
  omega
theorem aS_e {f : Nat → Int} {j : Nat} : ∀ {k : Nat}, j ≤ k → (∀ i, j ≤ i → i < k → f i = 0) → aS f k = aS f j := by
  intro k
  induction k with
  | zero => intro h _; rw [Nat.le_zero.mp h]
  | succ k ih =>
    intro h h2
    by_cases q : j = k + 1
    · rw [q]
    · have a := ih (by omega) (fun i a b => h2 i a (by omega))
      have b := h2 k (by omega) (by omega)
      show aS f k + f k = aS f j
      omega
/-- the place and the stores of an index -/
def iP (i : Nat) : Int := ((i / 13 : Nat) : Int)
def iN (i : Nat) : Int := ((i % 13 : Nat) : Int)
def iv (l : Nat → Int) (st : Int) (i : Nat) : Prop := iP i < l 0 ∧ iN i ≤ st
theorem i_of {p n : Int} (h1 : 0 ≤ p) (h3 : 0 ≤ n) (h4 : n < 13) : iP (p * 13 + n).toNat = p ∧ iN (p * 13 + n).toNat = n := by
  unfold iP iN
  omega
theorem iv_of {l : Nat → Int} {st p n : Int} (h1 : 0 ≤ p) (h2 : p < l 0) (h3 : 0 ≤ n) (h4 : n < 13) (h5 : n ≤ st) : iv l st (p * 13 + n).toNat := by
  obtain ⟨a, b⟩ := i_of h1 h3 h4
  unfold iv
  omega
theorem i_eq {i : Nat} {p n : Int} (h1 : 0 ≤ p) (h3 : 0 ≤ n) (h4 : n < 13) : i = (p * 13 + n).toNat ↔ iP i = p ∧ iN i = n := by
  unfold iP iN
  omega
/-- a number, if so -/
noncomputable def iW (c : Prop) (x : Int) : Int := @ite _ c (Classical.propDecidable c) x 0
theorem iW_p {c : Prop} {x : Int} (h : c) : iW c x = x := if_pos h
theorem iW_n {c : Prop} {x : Int} (h : ¬ c) : iW c x = 0 := if_neg h
theorem iW_2 (c : Prop) : (c ∧ ∀ x, iW c x = x) ∨ (¬ c ∧ ∀ x, iW c x = 0) := by
  by_cases h : c
  · exact Or.inl ⟨h, fun _ => iW_p h⟩
  · exact Or.inr ⟨h, fun _ => iW_n h⟩
theorem iv_p {l : Nat → Int} {st : Int} {i : Nat} (h : iv l st i) : 0 ≤ iP i ∧ iP i < l 0 ∧ 0 ≤ iN i ∧ iN i ≤ st := ⟨by unfold iP; omega, h.1, by unfold iN; omega, h.2⟩
/-- a sum over the states of an hour -/
noncomputable def hS (l : Nat → Int) (st : Int) (f : Int → Int → Int) : Int := aS (fun i => iW (iv l st i) (f (iP i) (iN i))) 156
theorem hS_c {l : Nat → Int} {st : Int} {f g : Int → Int → Int} (h : ∀ p n, 0 ≤ p → p < l 0 → 0 ≤ n → n ≤ st → f p n = g p n) : hS l st f = hS l st g := by
  refine aS_c (fun i _ => ?_)
  rcases iW_2 (iv l st i) with ⟨q, e⟩ | ⟨q, e⟩
  · obtain ⟨a, b, c, d⟩ := iv_p q
    rw [e, e]; exact h _ _ a b c d
  · rw [e, e]
theorem hS_le {l : Nat → Int} {st : Int} {f g : Int → Int → Int} (h : ∀ p n, 0 ≤ p → p < l 0 → 0 ≤ n → n ≤ st → f p n ≤ g p n) : hS l st f ≤ hS l st g := by
  refine aS_le (fun i _ => ?_)
  rcases iW_2 (iv l st i) with ⟨q, e⟩ | ⟨q, e⟩
  · obtain ⟨a, b, c, d⟩ := iv_p q
    rw [e, e]; exact h _ _ a b c d
  · rw [e, e]; exact Int.le_refl _
theorem hS_mul {l : Nat → Int} {st : Int} (f : Int → Int → Int) (x : Int) : hS l st (fun p n => f p n * x) = hS l st f * x := by
  show aS _ 156 = aS _ 156 * x
  rw [← aS_mul]
  refine aS_c (fun i _ => ?_)
  rcases iW_2 (iv l st i) with ⟨q, e⟩ | ⟨q, e⟩
  · rw [e, e]
  · rw [e, e, Int.zero_mul]
theorem hS_add {l : Nat → Int} {st : Int} (f g : Int → Int → Int) : hS l st (fun p n => f p n + g p n) = hS l st f + hS l st g := by
  show aS _ 156 = aS _ 156 + aS _ 156
  rw [← aS_add]
  refine aS_c (fun i _ => ?_)
  rcases iW_2 (iv l st i) with ⟨q, e⟩ | ⟨q, e⟩
  · rw [e, e, e]
  · rw [e, e, e]; rfl
theorem hS_1 {l : Nat → Int} {st p n : Int} {f : Int → Int → Int} (hv : LV l) (hst : st ≤ 12) (hf : ∀ p n, 0 ≤ p → p < l 0 → 0 ≤ n → n ≤ st → 0 ≤ f p n) (h1 : 0 ≤ p) (h2 : p < l 0) (h3 : 0 ≤ n) (h4 : n ≤ st) : f p n ≤ hS l st f := by
  obtain ⟨⟨hv1, hv2⟩, ⟨hv3, hv4⟩, ⟨hv5, hv6⟩, ⟨hv7, hv8⟩, ⟨hv9, hv10⟩, ⟨hv11, hv12⟩, ⟨hv13, hv14⟩, hvw, hvs, hvk, hvc, hvx⟩ := id hv
  obtain ⟨a, b⟩ := i_of h1 h3 (n := n) (by omega)
  have q := aS_1 (f := fun i => iW (iv l st i) (f (iP i) (iN i))) (j := (p * 13 + n).toNat) (k := 156) (by omega) (fun i _ => by
    show 0 ≤ iW (iv l st i) (f (iP i) (iN i))
    rcases iW_2 (iv l st i) with ⟨q, e⟩ | ⟨q, e⟩
    · obtain ⟨a, b, c, d⟩ := iv_p q
      rw [e]; exact hf _ _ a b c d
    · rw [e]; exact Int.le_refl _)
  have q : iW (iv l st (p * 13 + n).toNat) (f (iP (p * 13 + n).toNat) (iN (p * 13 + n).toNat)) ≤ hS l st f := q
  rw [iW_p (iv_of h1 h2 h3 (by omega) h4), a, b] at q
  exact q
/-- only one state counts -/
theorem hS_d {l : Nat → Int} {st p n : Int} {f : Int → Int → Int} (hv : LV l) (hst : st ≤ 12) (h1 : 0 ≤ p) (h2 : p < l 0) (h3 : 0 ≤ n) (h4 : n ≤ st) : hS l st (fun q s => (if p = q ∧ n = s then 1 else 0) * f q s) = f p n := by
  obtain ⟨⟨hv1, hv2⟩, ⟨hv3, hv4⟩, ⟨hv5, hv6⟩, ⟨hv7, hv8⟩, ⟨hv9, hv10⟩, ⟨hv11, hv12⟩, ⟨hv13, hv14⟩, hvw, hvs, hvk, hvc, hvx⟩ := id hv
  obtain ⟨a, b⟩ := i_of h1 h3 (n := n) (by omega)
  have e : hS l st (fun q s => (if p = q ∧ n = s then 1 else 0) * f q s) = aS (fun i => if i = (p * 13 + n).toNat then f (iP i) (iN i) else 0) 156 := by
    refine aS_c (fun i _ => ?_)
    show iW (iv l st i) ((if p = iP i ∧ n = iN i then 1 else 0) * f (iP i) (iN i)) = _
    by_cases q : i = (p * 13 + n).toNat
    · rw [if_pos q, q, iW_p (iv_of h1 h2 h3 (by omega) h4), a, b, if_pos ⟨rfl, rfl⟩, Int.one_mul]
    · have this : ¬ (p = iP i ∧ n = iN i) := fun x => q ((i_eq h1 h3 (by omega)).2 ⟨x.1.symm, x.2.symm⟩)
      rw [if_neg q, if_neg this, Int.zero_mul]
      rcases iW_2 (iv l st i) with ⟨q, e⟩ | ⟨q, e⟩ <;> rw [e]
  rw [e, aS_d, if_pos (by omega), a, b]
/-- what of a move's weight comes to a state -/
noncomputable def sCt (l : Nat → Int) (st h p n m p' n' : Int) : Int := sBr l st h p n m (fun q s => if q = p' ∧ s = n' then 1 else 0)
theorem sCt_f {l : Nat → Int} {st h p n m : Int} {f : Int → Int → Int} (hv : LV l) (hs : 0 ≤ st) (hst : st ≤ 12) (h1 : 0 ≤ p) (h2 : p < l 0) (h3 : 1 ≤ n) (h4 : n ≤ st) (h5 : 0 ≤ m) (h6 : m ≤ l 1) :
    hS l st (fun q s => sCt l st h p n m q s * f q s) = sBr l st h p n m f := by
  have a1 := sAf_b (l := l) (q := p) hs hst h3 h4
  have d1 := hS_d (f := f) hv hst h1 h2 a1.1 a1.2
  unfold sCt sBr
  by_cases q : m = 0
  · simp only [q, if_true]
    by_cases r : sSy l h = 1
    · simp only [r, if_true, Int.mul_assoc]
      rw [← d1, Int.mul_comm 16, ← hS_mul]
      exact hS_c (fun _ _ _ _ _ _ => Int.mul_comm _ _)
    · simp only [r, if_false]
      exact d1
  · have ob := sOth_b (p := p) (w := m - 1) hv (by omega) (by omega)
    have a2 := sAf_b (l := l) (q := sOth l (m - 1) p) hs hst h3 h4
    have d2 := hS_d (f := f) hv hst ob.1 ob.2 a2.1 a2.2
    simp only [q, if_false]
    by_cases r : sSy l h = 1
    · simp only [r, if_true, Int.add_mul, Int.mul_assoc]
      rw [hS_add, ← d1, ← d2, Int.mul_comm (sSn l (m - 1) h), Int.mul_comm (16 - sSn l (m - 1) h), ← hS_mul, ← hS_mul]
      exact congr (congrArg _ (hS_c (fun _ _ _ _ _ _ => Int.mul_comm _ _))) (hS_c (fun _ _ _ _ _ _ => Int.mul_comm _ _))
    · simp only [r, if_false]
      exact d2
theorem sBr_nn {l : Nat → Int} {st h p n m : Int} {f : Int → Int → Int} (hv : LV l) (h1 : 0 ≤ h) (h2 : h < l 3) (h3 : 0 ≤ m) (h4 : m ≤ l 1) (hf : ∀ q s, 0 ≤ f q s) : 0 ≤ sBr l st h p n m f := by
  obtain ⟨⟨hv1, hv2⟩, ⟨hv3, hv4⟩, ⟨hv5, hv6⟩, ⟨hv7, hv8⟩, ⟨hv9, hv10⟩, ⟨hv11, hv12⟩, ⟨hv13, hv14⟩, hvw, hvs, hvk, hvc, hvx⟩ := id hv
  have f1 := hf p (sAf l st p n)
  have f2 := hf (sOth l (m - 1) p) (sAf l st (sOth l (m - 1) p) n)
  unfold sBr
  split
  · split <;> omega
  · split
    · have := hvs (m - 1) h (by omega) (by omega) h1 (by omega)
      exact Int.add_nonneg (Int.mul_nonneg this.1 f1) (Int.mul_nonneg (by omega) f2)
    · exact f2
