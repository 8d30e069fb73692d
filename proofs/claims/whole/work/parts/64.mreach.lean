/-! ===== where they may come ===== -/
/-- with luck a move goes, if it ever goes -/
def sGo (l : Nat → Int) (st : Int) (h p n m p' n' : Int) : Prop := (p' = if m = 0 ∨ sSn l (m - 1) h = 16 then p else sOth l (m - 1) p) ∧ n' = sAf l st p' n
/-- all that may come of a move -/
def sMy (l : Nat → Int) (st : Int) (h p n m p' n' : Int) : Prop := ((m = 0 ∨ 0 < sSn l (m - 1) h) ∧ p' = p ∧ n' = sAf l st p n) ∨ ((m ≠ 0 ∧ sSn l (m - 1) h < 16) ∧ p' = sOth l (m - 1) p ∧ n' = sAf l st (sOth l (m - 1) p) n)
def sRe (l : Nat → Int) (B : Int → Int → Int → Int) (E : Int → Int → Int → Int → Int → Int → Prop) (st h0 p0 n0 : Int) : Nat → Int → Int → Prop
  | 0 => fun p n => p = p0 ∧ n = n0
  | t + 1 => fun p' n' => ∃ p n m, sRe l B E st h0 p0 n0 t p n ∧ vs l st (h0 + t) p n ∧ sEnd l (h0 + t) p n = 0 ∧ (0 ≤ m ∧ m ≤ l 1 ∧ bit (B (h0 + t) p n) m) ∧ E (h0 + t) p n m p' n'
/-- so far -/
def sRp (l : Nat → Int) (B : Int → Int → Int → Int) (E : Int → Int → Int → Int → Int → Int → Prop) (st h0 p0 n0 : Int) (t : Nat) (i j p' n' : Int) : Prop := ∃ p n m, (sRe l B E st h0 p0 n0 t p n ∧ vs l st (h0 + t) p n ∧ sEnd l (h0 + t) p n = 0 ∧ (0 ≤ m ∧ m ≤ l 1 ∧ bit (B (h0 + t) p n) m) ∧ E (h0 + t) p n m p' n') ∧ (p * 13 + n < i ∨ (p * 13 + n = i ∧ m < j))
def RI (l : Nat → Int) (B : Int → Int → Int → Int) (E : Int → Int → Int → Int → Int → Int → Prop) (st h0 p0 n0 : Int) (g : Nat → Int) (t : Nat) (i j : Int) : Prop := ∀ h' p' n', vs l st h' p' n' → (g ((h' * 12 + p') * 13 + n').toNat = 0 ∨ g ((h' * 12 + p') * 13 + n').toNat = 1) ∧
  (g ((h' * 12 + p') * 13 + n').toNat = 1 ↔ (h0 ≤ h' ∧ h' ≤ h0 + t ∧ sRe l B E st h0 p0 n0 (h' - h0).toNat p' n') ∨ (h' = h0 + t + 1 ∧ sRp l B E st h0 p0 n0 t i j p' n'))
theorem RI_c {l : Nat → Int} {B : Int → Int → Int → Int} {E : Int → Int → Int → Int → Int → Int → Prop} {st h0 p0 n0 : Int} {g : Nat → Int} {t : Nat} {i j i' j' : Int} (h : RI l B E st h0 p0 n0 g t i j) (hc : ∀ p' n', sRp l B E st h0 p0 n0 t i j p' n' ↔ sRp l B E st h0 p0 n0 t i' j' p' n') : RI l B E st h0 p0 n0 g t i' j' := by
  intro h' p' n' w
  obtain ⟨a, b⟩ := h h' p' n' w
  exact ⟨a, by rw [← hc]; exact b⟩
/-- nothing comes of these -/
theorem RI_k {l : Nat → Int} {B : Int → Int → Int → Int} {E : Int → Int → Int → Int → Int → Int → Prop} {st h0 p0 n0 : Int} {g : Nat → Int} {t : Nat} {i i' : Int} (h : RI l B E st h0 p0 n0 g t i 0) (hi : i ≤ i') (hz : ∀ p n, vs l st (h0 + t) p n → i ≤ p * 13 + n → p * 13 + n < i' → sRe l B E st h0 p0 n0 t p n → sEnd l (h0 + t) p n = 0 → False) : RI l B E st h0 p0 n0 g t i' 0 := by
  refine RI_c h (fun p' n' => ⟨fun ⟨p, n, m, a, b⟩ => ⟨p, n, m, a, ?_⟩, fun ⟨p, n, m, a, b⟩ => ⟨p, n, m, a, ?_⟩⟩)
  · have := a.2.2.2.1.1
    omega
  · have m0 := a.2.2.2.1.1
    by_cases q : p * 13 + n < i
    · exact Or.inl q
    · exact (hz p n a.2.1 (by omega) (by omega) a.1 a.2.2.1).elim
theorem RI_b {l : Nat → Int} {B : Int → Int → Int → Int} {E : Int → Int → Int → Int → Int → Int → Prop} {st h0 p0 n0 p n : Int} {g : Nat → Int} {t : Nat} {j : Int} (hst : st ≤ 12) (hw : vs l st (h0 + t) p n) (h : RI l B E st h0 p0 n0 g t (p * 13 + n) j) (hb : ¬ bit (B (h0 + t) p n) j) : RI l B E st h0 p0 n0 g t (p * 13 + n) (j + 1) := by
  refine RI_c h (fun p' n' => ⟨fun ⟨q, s, m, a, b⟩ => ⟨q, s, m, a, by omega⟩, fun ⟨q, s, m, a, b⟩ => ⟨q, s, m, a, ?_⟩⟩)
  by_cases c : q * 13 + s < p * 13 + n
  · exact Or.inl c
  · by_cases d : m = j
    · have hq := a.2.1
      unfold vs at hq hw
      have e1 : q = p := by omega
      have e2 : s = n := by omega
      have := a.2.2.2.1.2.2
      rw [e1, e2, d] at this
      exact absurd this hb
    · omega
theorem RI_e {l : Nat → Int} {B : Int → Int → Int → Int} {E : Int → Int → Int → Int → Int → Int → Prop} {st h0 p0 n0 i : Int} {g : Nat → Int} {t : Nat} {j : Int} (h : RI l B E st h0 p0 n0 g t i j) (hj : l 1 < j) : RI l B E st h0 p0 n0 g t (i + 1) 0 := by
  refine RI_c h (fun p' n' => ⟨fun ⟨q, s, m, a, b⟩ => ⟨q, s, m, a, by omega⟩, fun ⟨q, s, m, a, b⟩ => ⟨q, s, m, a, ?_⟩⟩)
  have := a.2.2.2.1
  omega
theorem RI_n {l : Nat → Int} {B : Int → Int → Int → Int} {E : Int → Int → Int → Int → Int → Int → Prop} {st h0 p0 n0 : Int} {g : Nat → Int} {t : Nat} (hv : LV l) (hst : st ≤ 12) (h : RI l B E st h0 p0 n0 g t 156 0) : RI l B E st h0 p0 n0 g (t + 1) 0 0 := by
  obtain ⟨⟨hv1, hv2⟩, ⟨hv3, hv4⟩, ⟨hv5, hv6⟩, ⟨hv7, hv8⟩, ⟨hv9, hv10⟩, ⟨hv11, hv12⟩, ⟨hv13, hv14⟩, hvw, hvs, hvk, hvc, hvx⟩ := id hv
  intro h' p' n' w
  obtain ⟨a, b⟩ := h h' p' n' w
  refine ⟨a, b.trans ⟨fun c => ?_, fun c => ?_⟩⟩
  · rcases c with ⟨c1, c2, c3⟩ | ⟨c1, p, n, m, c2, c3⟩
    · exact Or.inl ⟨c1, by omega, c3⟩
    · refine Or.inl ⟨by omega, by omega, ?_⟩
      rw [show (h' - h0).toNat = t + 1 by omega]
      exact ⟨p, n, m, c2⟩
  · rcases c with ⟨c1, c2, c3⟩ | ⟨c1, p, n, m, c2, c3⟩
    · by_cases q : h' ≤ h0 + t
      · exact Or.inl ⟨c1, q, c3⟩
      · rw [show (h' - h0).toNat = t + 1 by omega] at c3
        obtain ⟨p, n, m, c4⟩ := c3
        refine Or.inr ⟨by omega, p, n, m, c4, ?_⟩
        have := c4.2.1
        unfold vs at this
        omega
    · have := c2.2.1
      unfold vs at this
      have := c2.2.2.2.1.1
      omega
theorem RI_s {l : Nat → Int} {B : Int → Int → Int → Int} {E : Int → Int → Int → Int → Int → Int → Prop} {st h0 p0 n0 p n : Int} {g g' : Nat → Int} {t : Nat} {m : Int} (hst : st ≤ 12) (h : RI l B E st h0 p0 n0 g t (p * 13 + n) m) (hw : vs l st (h0 + t) p n) (hr : sRe l B E st h0 p0 n0 t p n) (he : sEnd l (h0 + t) p n = 0) (hb : 0 ≤ m ∧ m ≤ l 1 ∧ bit (B (h0 + t) p n) m)
    (h0' : 0 ≤ h0) (h5 : ∀ h' p' n', vs l st h' p' n' → h' = h0 + t + 1 → (g' ((h' * 12 + p') * 13 + n').toNat = 0 ∨ g' ((h' * 12 + p') * 13 + n').toNat = 1) ∧ (g' ((h' * 12 + p') * 13 + n').toNat = 1 ↔ g ((h' * 12 + p') * 13 + n').toNat = 1 ∨ E (h0 + t) p n m p' n'))
    (h6 : ∀ h' p' n', vs l st h' p' n' → h' ≠ h0 + t + 1 → g' ((h' * 12 + p') * 13 + n').toNat = g ((h' * 12 + p') * 13 + n').toNat) : RI l B E st h0 p0 n0 g' t (p * 13 + n) (m + 1) := by
  intro h' p' n' w
  obtain ⟨a, b⟩ := h h' p' n' w
  by_cases q : h' = h0 + t + 1
  · obtain ⟨c, d⟩ := h5 h' p' n' w q
    refine ⟨c, ?_⟩
    rw [d, b]
    constructor
    · rintro ((x | ⟨x, y⟩) | x)
      · exact Or.inl x
      · obtain ⟨p1, n1, m1, y1, y2⟩ := y
        exact Or.inr ⟨x, p1, n1, m1, y1, by omega⟩
      · exact Or.inr ⟨q, p, n, m, ⟨hr, hw, he, hb, x⟩, Or.inr ⟨rfl, by omega⟩⟩
    · rintro (x | ⟨x, p1, n1, m1, y1, y2⟩)
      · exact Or.inl (Or.inl x)
      · by_cases z : p1 * 13 + n1 = p * 13 + n ∧ m1 = m
        · have w1 := y1.2.1
          unfold vs at w1 hw
          have e1 : p1 = p := by omega
          have e2 : n1 = n := by omega
          have := y1.2.2.2.2
          rw [e1, e2, z.2] at this
          exact Or.inr this
        · exact Or.inl (Or.inr ⟨x, p1, n1, m1, y1, by omega⟩)
  · rw [h6 h' p' n' w q]
    refine ⟨a, b.trans ⟨fun c => ?_, fun c => ?_⟩⟩
    · rcases c with c | c
      · exact Or.inl c
      · exact absurd c.1 q
    · rcases c with c | c
      · exact Or.inl c
      · exact absurd c.1 q
/-- at the beginning -/
theorem RI_0 {l : Nat → Int} {B : Int → Int → Int → Int} {E : Int → Int → Int → Int → Int → Int → Prop} {st h0 p0 n0 : Int} {g : Nat → Int} (hv : LV l) (hst : st ≤ 12) (hw : vs l st h0 p0 n0) (hg : ∀ i : Nat, (i : Int) < 3900 → g i = if (i : Int) = (h0 * 12 + p0) * 13 + n0 then 1 else 0) : RI l B E st h0 p0 n0 g 0 0 0 := by
  obtain ⟨⟨hv1, hv2⟩, ⟨hv3, hv4⟩, ⟨hv5, hv6⟩, ⟨hv7, hv8⟩, ⟨hv9, hv10⟩, ⟨hv11, hv12⟩, ⟨hv13, hv14⟩, hvw, hvs, hvk, hvc, hvx⟩ := id hv
  intro h' p' n' w
  have w' := w
  unfold vs at w' hw
  rw [hg _ (by omega)]
  constructor
  · split <;> omega
  · constructor
    · intro x
      split at x
      · rename_i y
        have e1 : h' = h0 := by omega
        refine Or.inl ⟨by omega, by omega, ?_⟩
        rw [show (h' - h0).toNat = 0 by omega]
        exact ⟨by omega, by omega⟩
      · omega
    · rintro (⟨x, y, z⟩ | ⟨x, p, n, m, y, z⟩)
      · have e : h' = h0 := by omega
        rw [show (h' - h0).toNat = 0 by omega] at z
        have z' : p' = p0 ∧ n' = n0 := z
        rw [if_pos (by omega)]
      · have := y.2.1
        unfold vs at this
        have := y.2.2.2.1.1
        omega
/-- the first, if any -/
noncomputable def sFst (P : Nat → Prop) : Nat → Int
  | 0 => -1
  | k + 1 => if sFst P k = -1 then @ite _ (P k) (Classical.propDecidable _) (k : Int) (-1) else sFst P k
theorem sFst_n {P : Nat → Prop} : ∀ {k : Nat}, (∀ i, i < k → ¬ P i) → sFst P k = -1 := by
  intro k
  induction k with
  | zero => intro _; rfl
  | succ k ih =>
    intro h
    show (if sFst P k = -1 then _ else _) = _
    rw [if_pos (ih (fun i a => h i (by omega))), if_neg (h k (by omega))]
theorem sFst_y {P : Nat → Prop} {j : Nat} (h : P j) (hn : ∀ i, i < j → ¬ P i) : ∀ {k : Nat}, j < k → sFst P k = j := by
  intro k
  induction k with
  | zero => intro a; omega
  | succ k ih =>
    intro a
    show (if sFst P k = -1 then _ else _) = _
    by_cases q : j = k
    · subst q
      rw [if_pos (sFst_n hn), if_pos h]
    · have i := ih (by omega)
      rw [if_neg (by omega), i]
