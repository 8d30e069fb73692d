/-! ===== a line of a land: what comes of it ===== -/
def uL (l : Nat → Int) (i : Nat) (v : Int) : Nat → Int := fun j => if j = i then v else l j
def wL (F : FI) (l : Nat → Int) : FI := fun a => if a = 101 then l else F a
theorem wL_s {F : FI} {l : Nat → Int} : wL F l 101 = l := if_pos rfl
theorem wL_o {F : FI} {l : Nat → Int} {a : Nat} (h : a ≠ 101) : wL F l a = F a := if_neg h
theorem wL_u {F : FI} {l : Nat → Int} {i : Nat} {v : Int} : u2 (wL F l) 101 i v = wL F (uL l i v) := by
  funext a b
  by_cases h : a = 101
  · subst h
    rw [u2_k, wL_s, wL_s]
    rfl
  · rw [u2_o h, wL_o h, wL_o h]
theorem wL_i {F : FI} : wL F (F 101) = F := by
  funext a
  by_cases h : a = 101
  · subst h
    exact wL_s
  · exact wL_o h
/-- how many of the hours are so -/
noncomputable def snC (P : Int → Prop) : Nat → Int
  | 0 => 0
  | h + 1 => snC P h + @ite _ (P h) (Classical.propDecidable _) 1 0
theorem snC_b (P : Int → Prop) : ∀ k : Nat, 0 ≤ snC P k ∧ snC P k ≤ k := by
  intro k
  induction k with
  | zero => exact ⟨Int.le_refl 0, Int.le_refl 0⟩
  | succ k ih =>
    have e : snC P (k + 1) = snC P k + @ite _ (P k) (Classical.propDecidable _) 1 0 := rfl
    rw [e]
    split <;> omega
theorem snC_c {P Q : Int → Prop} : ∀ k : Nat, (∀ h : Int, 0 ≤ h → h < k → (P h ↔ Q h)) → snC P k = snC Q k := by
  intro k
  induction k with
  | zero => intro _; rfl
  | succ k ih =>
    intro h
    have e1 : snC P (k + 1) = snC P k + @ite _ (P k) (Classical.propDecidable _) 1 0 := rfl
    have e2 : snC Q (k + 1) = snC Q k + @ite _ (Q k) (Classical.propDecidable _) 1 0 := rfl
    rw [e1, e2, ih (fun x a b => h x a (by omega))]
    have := h k (by omega) (by omega)
    by_cases q : P k
    · rw [if_pos q, if_pos (this.mp q)]
    · rw [if_neg q, if_neg (fun r => q (this.mpr r))]
def wSn (l : Nat → Int) (w a b v : Int) : Nat → Int := fun j => if 132 + 24 * w + a ≤ j ∧ (j : Int) ≤ 132 + 24 * w + b then v else l j
def rW1 (t : Nat → Int) (n : Int) (p : Pz) (l : Nat → Int) : Int × Pz := pNb t n p 0 (l 0 - 1)
def rW3 (t : Nat → Int) (n : Int) (p : Pz) (l : Nat → Int) : Int × Pz := pNb t n (pAt (rW1 t n p l).2 (pSp t n (rW1 t n p l).2.1)) 0 (l 0 - 1)
def rS1 (t : Nat → Int) (n : Int) (p : Pz) (l : Nat → Int) : Int × Pz := pNb t n p 0 (l 1 - 1)
def rS2 (t : Nat → Int) (n : Int) (p : Pz) (l : Nat → Int) : Int × Pz := pNb t n (rS1 t n p l).2 0 23
def rS3 (t : Nat → Int) (n : Int) (p : Pz) (l : Nat → Int) : Int × Pz := pNb t n (pAt (rS2 t n p l).2 (pSp t n (rS2 t n p l).2.1)) (rS2 t n p l).1 23
noncomputable def rSc (t : Nat → Int) (n : Int) (p : Pz) (l : Nat → Int) : Int := snC (fun h => pSy l h ∨ (rS2 t n p l).1 ≤ h ∧ h ≤ (rS3 t n p l).1) 24
noncomputable def rS4 (t : Nat → Int) (n : Int) (p : Pz) (l : Nat → Int) : Pz := if (rS3 t n p l).2.2.1 = -1 ∧ 10 < rSc t n p l then pFl (rS3 t n p l).2 2 (pSp t n (rS2 t n p l).2.1) else (rS3 t n p l).2
noncomputable def rS5 (t : Nat → Int) (n : Int) (p : Pz) (l : Nat → Int) : Int × Pz := pNb t n (rS4 t n p l) 1 16
def rN1 (t : Nat → Int) (n : Int) (p : Pz) (l : Nat → Int) : Int × Pz := pNb t n p 0 (l 2 - 1)
def rN2 (t : Nat → Int) (n : Int) (p : Pz) (l : Nat → Int) : Int × Pz := pNb t n (rN1 t n p l).2 0 (l 0 - 1)
def rN3 (t : Nat → Int) (n : Int) (p : Pz) (l : Nat → Int) : Int × Pz := pNb t n (rN2 t n p l).2 0 99
def rPl (t : Nat → Int) (n : Int) (p : Pz) : Int := pKi (pWd t n (pSp t n p.1))
/-- a number of the land -/
def rOn (t : Nat → Int) (n : Int) (p : Pz) (l : Nat → Int) (i : Nat) (lo hi : Int) : Pz × (Nat → Int) := if (pNb t n p lo hi).2.2.1 ≠ -1 then ((pNb t n p lo hi).2, l) else ((pNb t n p lo hi).2, uL l i (pNb t n p lo hi).1)
/-- what comes of a line, by its word -/
noncomputable def rC (t : Nat → Int) (n w : Int) (p : Pz) (l : Nat → Int) : Pz × (Nat → Int) :=
  if w = tC 6 then ((if rPl t n p = 0 then pAt p (pSp t n p.1) else pAt p (pLe t n (pSp t n p.1))), uL (uL l (7 + l 0).toNat (rPl t n p)) 0 (l 0 + 1))
  else if w = tC 7 then (if (rW3 t n p l).2.2.1 ≠ -1 then ((rW3 t n p l).2, l) else if (rW1 t n p l).1 = (rW3 t n p l).1 then (pFl (rW3 t n p l).2 2 (pSp t n (rW1 t n p l).2.1), l) else ((rW3 t n p l).2, uL (uL (uL l (19 + l 1).toNat (rW1 t n p l).1) (43 + l 1).toNat (rW3 t n p l).1) 1 (l 1 + 1)))
  else if w = tC 8 then (if (rS5 t n p l).2.2.1 ≠ -1 then ((rS5 t n p l).2, l) else ((rS5 t n p l).2, wSn l (rS1 t n p l).1 (rS2 t n p l).1 (rS3 t n p l).1 (rS5 t n p l).1))
  else if w = tC 9 then (if (pNb t n p 0 9).2.2.1 ≠ -1 then ((pNb t n p 0 9).2, l) else ((pNb t n p 0 9).2, uL (uL l (67 + l 2).toNat (pNb t n p 0 9).1) 2 (l 2 + 1)))
  else if w = tC 10 then (if (rN3 t n p l).2.2.1 ≠ -1 then ((rN3 t n p l).2, l) else ((rN3 t n p l).2, uL l (72 + 12 * (rN1 t n p l).1 + (rN2 t n p l).1).toNat (rN3 t n p l).1))
  else if w = tC 11 then rOn t n p l 3 1 24
  else if w = tC 12 then rOn t n p l 4 1 12
  else if w = tC 13 then rOn t n p l 5 0 99
  else rOn t n p l 6 0 (l 0 - 1)
/-- a land as far as it is told -/
def RV (l : Nat → Int) : Prop := ((0 ≤ l 0 ∧ l 0 ≤ 12) ∧ (0 ≤ l 1 ∧ l 1 ≤ 24) ∧ (0 ≤ l 2 ∧ l 2 ≤ 5) ∧ (1 ≤ l 3 ∧ l 3 ≤ 24) ∧ (1 ≤ l 4 ∧ l 4 ≤ 12) ∧ (0 ≤ l 5 ∧ l 5 ≤ 99) ∧ 0 ≤ l 6 ∧ (l 6 < l 0 ∨ l 6 = 0)) ∧
  (∀ w : Int, 0 ≤ w → w < l 1 → 0 ≤ l (19 + w).toNat ∧ l (19 + w).toNat < l 0 ∧ 0 ≤ l (43 + w).toNat ∧ l (43 + w).toNat < l 0 ∧ l (19 + w).toNat ≠ l (43 + w).toNat) ∧
  (∀ w h : Int, 0 ≤ w → w < 24 → 0 ≤ h → h < 24 → (0 ≤ l (132 + 24 * w + h).toNat ∧ l (132 + 24 * w + h).toNat ≤ 16) ∧ (l 1 ≤ w → l (132 + 24 * w + h).toNat = 0)) ∧
  (∀ k p : Int, 0 ≤ k → k < 5 → 0 ≤ p → p < 12 → 0 ≤ l (72 + 12 * k + p).toNat ∧ l (72 + 12 * k + p).toNat ≤ 99) ∧ (∀ k : Int, 0 ≤ k → k < 5 → 0 ≤ l (67 + k).toNat ∧ l (67 + k).toNat ≤ 9) ∧ snC (pSy l) 24 ≤ 10
theorem pSy_s {l l' : Nat → Int} {h : Int} (e : ∀ w : Int, 0 ≤ w → w < 24 → l' (132 + 24 * w + h).toNat = l (132 + 24 * w + h).toNat) : pSy l' h ↔ pSy l h := by
  unfold pSy
  constructor
  · rintro ⟨w, a, b, c⟩
    exact ⟨w, a, b, by rw [← e w a b]; exact c⟩
  · rintro ⟨w, a, b, c⟩
    exact ⟨w, a, b, by rw [e w a b]; exact c⟩
/-- a change below the snow -/
theorem RV_u {l : Nat → Int} {i : Nat} {v : Int} (h : RV l) (hi : i < 132) (h0 : i = 0 → False) (h1 : i = 1 → False) (h2 : i = 2 → 0 ≤ v ∧ v ≤ 5) (h3 : i = 3 → 1 ≤ v ∧ v ≤ 24) (h4 : i = 4 → 1 ≤ v ∧ v ≤ 12) (h5 : i = 5 → 0 ≤ v ∧ v ≤ 99) (h6 : i = 6 → 0 ≤ v ∧ v < l 0) (h7 : 19 ≤ i → i < 67 → (l 1 ≤ i - 19 ∨ 43 ≤ i) ∧ l 1 ≤ (i : Int) - 43 ∨ (i < 43 ∧ l 1 ≤ (i : Int) - 19)) (h8 : 67 ≤ i → i < 72 → 0 ≤ v ∧ v ≤ 9) (h9 : 72 ≤ i → i < 132 → 0 ≤ v ∧ v ≤ 99) : RV (uL l i v) := by
  obtain ⟨⟨a1, a2, a3, a4, a5, a6, a7⟩, b1, b2, b3, b4, b5⟩ := h
  have u : ∀ j : Nat, uL l i v j = if j = i then v else l j := fun _ => rfl
  have un : ∀ j : Nat, j ≠ i → uL l i v j = l j := fun j hj => if_neg hj
  have sy : ∀ h : Int, 0 ≤ h → h < 24 → (pSy (uL l i v) h ↔ pSy l h) := fun h h0 h1 => pSy_s (fun w w0 w1 => un _ (by omega))
  refine ⟨⟨?_, ?_, ?_, ?_, ?_, ?_, ?_⟩, fun w w0 w1 => ?_, fun w h w0 w1 h0' h1' => ?_, fun k p k0 k1 p0 p1 => ?_, fun k k0 k1 => ?_, ?_⟩
  · rw [un 0 (fun q => h0 q.symm)]; exact a1
  · rw [un 1 (fun q => h1 q.symm)]; exact a2
  · rw [u 2]; split
    · exact h2 (by omega)
    · exact a3
  · rw [u 3]; split
    · exact h3 (by omega)
    · exact a4
  · rw [u 4]; split
    · exact h4 (by omega)
    · exact a5
  · rw [u 5]; split
    · exact h5 (by omega)
    · exact a6
  · rw [un 0 (fun q => h0 q.symm), u 6]; split
    · have := h6 (by omega)
      exact ⟨this.1, Or.inl this.2⟩
    · exact a7
  · rw [un 1 (fun q => h1 q.symm)] at w1
    rw [un 0 (fun q => h0 q.symm), un (19 + w).toNat (by omega), un (43 + w).toNat (by omega)]
    exact b1 w w0 w1
  · rw [un 1 (fun q => h1 q.symm), un (132 + 24 * w + h).toNat (by omega)]
    exact b2 w h w0 w1 h0' h1'
  · rw [u]; split
    · exact h9 (by omega) (by omega)
    · exact b3 k p k0 k1 p0 p1
  · rw [u]; split
    · exact h8 (by omega) (by omega)
    · exact b4 k k0 k1
  · rw [snC_c 24 (fun h a b => sy h a (by omega))]
    exact b5
theorem RV_0 {l : Nat → Int} {v : Int} (h : RV l) (hf : l 0 < 12) : RV (uL (uL l (7 + l 0).toNat v) 0 (l 0 + 1)) := by
  have hh := h
  obtain ⟨⟨a1, a2, a3, a4, a5, a6, a7⟩, b1, b2, b3, b4, b5⟩ := h
  obtain ⟨l', el⟩ : ∃ l', l' = uL (uL l (7 + l 0).toNat v) 0 (l 0 + 1) := ⟨_, rfl⟩
  rw [← el]
  have e0 : l' 0 = l 0 + 1 := by rw [el]; exact if_pos rfl
  have en : ∀ j : Nat, j ≠ 0 → j ≠ (7 + l 0).toNat → l' j = l j := fun j j0 j1 => by
    rw [el]
    show (if j = 0 then _ else if j = _ then _ else _) = _
    rw [if_neg j0, if_neg j1]
  refine ⟨⟨by rw [e0]; omega, by rw [en 1 (by decide) (by omega)]; exact a2, by rw [en 2 (by decide) (by omega)]; exact a3, by rw [en 3 (by decide) (by omega)]; exact a4, by rw [en 4 (by decide) (by omega)]; exact a5, by rw [en 5 (by decide) (by omega)]; exact a6, by rw [e0, en 6 (by decide) (by omega)]; omega⟩, fun w w0 w1 => ?_, fun w h w0 w1 h0' h1' => ?_, fun k p k0 k1 p0 p1 => ?_, fun k k0 k1 => ?_, ?_⟩
  · rw [en 1 (by decide) (by omega)] at w1
    have := b1 w w0 w1
    rw [e0, en (19 + w).toNat (by omega) (by omega), en (43 + w).toNat (by omega) (by omega)]
    omega
  · rw [en 1 (by decide) (by omega), en (132 + 24 * w + h).toNat (by omega) (by omega)]
    exact b2 w h w0 w1 h0' h1'
  · rw [en (72 + 12 * k + p).toNat (by omega) (by omega)]
    exact b3 k p k0 k1 p0 p1
  · rw [en (67 + k).toNat (by omega) (by omega)]
    exact b4 k k0 k1
  · rw [snC_c 24 (fun h a b => pSy_s (fun w w0 w1 => en (132 + 24 * w + h).toNat (by omega) (by omega)))]
    exact b5
theorem RV_1 {l : Nat → Int} {x y : Int} (h : RV l) (hf : l 1 < 24) (hx : 0 ≤ x ∧ x < l 0) (hy : 0 ≤ y ∧ y < l 0) (hne : x ≠ y) : RV (uL (uL (uL l (19 + l 1).toNat x) (43 + l 1).toNat y) 1 (l 1 + 1)) := by
  obtain ⟨⟨a1, a2, a3, a4, a5, a6, a7⟩, b1, b2, b3, b4, b5⟩ := h
  obtain ⟨l', el⟩ : ∃ l', l' = uL (uL (uL l (19 + l 1).toNat x) (43 + l 1).toNat y) 1 (l 1 + 1) := ⟨_, rfl⟩
  rw [← el]
  have e1 : l' 1 = l 1 + 1 := by rw [el]; exact if_pos rfl
  have ex : l' (19 + l 1).toNat = x := by
    rw [el]
    show (if _ = 1 then _ else if _ = _ then _ else if _ = _ then _ else _) = _
    rw [if_neg (by omega), if_neg (by omega), if_pos rfl]
  have ey : l' (43 + l 1).toNat = y := by
    rw [el]
    show (if _ = 1 then _ else if _ = _ then _ else if _ = _ then _ else _) = _
    rw [if_neg (by omega), if_pos rfl]
  have en : ∀ j : Nat, j ≠ 1 → j ≠ (19 + l 1).toNat → j ≠ (43 + l 1).toNat → l' j = l j := fun j j0 j1 j2 => by
    rw [el]
    show (if j = 1 then _ else if j = _ then _ else if j = _ then _ else _) = _
    rw [if_neg j0, if_neg j2, if_neg j1]
  refine ⟨⟨by rw [en 0 (by decide) (by omega) (by omega)]; exact a1, by rw [e1]; omega, by rw [en 2 (by decide) (by omega) (by omega)]; exact a3, by rw [en 3 (by decide) (by omega) (by omega)]; exact a4, by rw [en 4 (by decide) (by omega) (by omega)]; exact a5, by rw [en 5 (by decide) (by omega) (by omega)]; exact a6, by rw [en 0 (by decide) (by omega) (by omega), en 6 (by decide) (by omega) (by omega)]; exact a7⟩, fun w w0 w1 => ?_, fun w h w0 w1 h0' h1' => ?_, fun k p k0 k1 p0 p1 => ?_, fun k k0 k1 => ?_, ?_⟩
  · rw [e1] at w1
    rw [en 0 (by decide) (by omega) (by omega)]
    by_cases q : w = l 1
    · rw [q, ex, ey]
      exact ⟨hx.1, hx.2, hy.1, hy.2, hne⟩
    · rw [en (19 + w).toNat (by omega) (by omega) (by omega), en (43 + w).toNat (by omega) (by omega) (by omega)]
      exact b1 w w0 (by omega)
  · have := b2 w h w0 w1 h0' h1'
    rw [e1, en (132 + 24 * w + h).toNat (by omega) (by omega) (by omega)]
    exact ⟨this.1, fun q => this.2 (by omega)⟩
  · rw [en (72 + 12 * k + p).toNat (by omega) (by omega) (by omega)]
    exact b3 k p k0 k1 p0 p1
  · rw [en (67 + k).toNat (by omega) (by omega) (by omega)]
    exact b4 k k0 k1
  · rw [snC_c 24 (fun h a b => pSy_s (fun w w0 w1 => en (132 + 24 * w + h).toNat (by omega) (by omega) (by omega)))]
    exact b5
theorem RV_s {l : Nat → Int} {w a b v : Int} (h : RV l) (hw : 0 ≤ w ∧ w < l 1) (ha : 0 ≤ a ∧ a ≤ b) (hb : b ≤ 23) (hv : 1 ≤ v ∧ v ≤ 16) (hc : snC (fun h => pSy l h ∨ a ≤ h ∧ h ≤ b) 24 ≤ 10) : RV (wSn l w a b v) ∧ ∀ h, 0 ≤ h → h < 24 → (pSy (wSn l w a b v) h ↔ pSy l h ∨ a ≤ h ∧ h ≤ b) := by
  obtain ⟨⟨a1, a2, a3, a4, a5, a6, a7⟩, b1, b2, b3, b4, b5⟩ := h
  have un : ∀ j : Nat, (j : Int) < 132 → wSn l w a b v j = l j := fun j hj => if_neg (by omega)
  have ui : ∀ w' h : Int, 0 ≤ w' → w' < 24 → 0 ≤ h → h < 24 → wSn l w a b v (132 + 24 * w' + h).toNat = if w' = w ∧ a ≤ h ∧ h ≤ b then v else l (132 + 24 * w' + h).toNat := fun w' h w0 w1 h0 h1 => by
    unfold wSn
    by_cases q : w' = w ∧ a ≤ h ∧ h ≤ b
    · rw [if_pos q, if_pos (by omega)]
    · rw [if_neg q, if_neg (by omega)]
  have sy : ∀ h, 0 ≤ h → h < 24 → (pSy (wSn l w a b v) h ↔ pSy l h ∨ a ≤ h ∧ h ≤ b) := by
    intro h h0 h1
    unfold pSy
    constructor
    · rintro ⟨w', x, y, z⟩
      rw [ui w' h x y h0 h1] at z
      split at z
      · rename_i q; exact Or.inr q.2
      · exact Or.inl ⟨w', x, y, z⟩
    · rintro (⟨w', x, y, z⟩ | q)
      · refine ⟨w', x, y, ?_⟩
        rw [ui w' h x y h0 h1]
        split <;> omega
      · refine ⟨w, by omega, by omega, ?_⟩
        rw [ui w h (by omega) (by omega) h0 h1, if_pos ⟨rfl, q⟩]
        omega
  refine ⟨⟨⟨by rw [un 0 (by decide)]; exact a1, by rw [un 1 (by decide)]; exact a2, by rw [un 2 (by decide)]; exact a3, by rw [un 3 (by decide)]; exact a4, by rw [un 4 (by decide)]; exact a5, by rw [un 5 (by decide)]; exact a6, by rw [un 0 (by decide), un 6 (by decide)]; exact a7⟩, fun w' w0 w1 => ?_, fun w' h w0 w1 h0' h1' => ?_, fun k p k0 k1 p0 p1 => ?_, fun k k0 k1 => ?_, ?_⟩, sy⟩
  · rw [un 1 (by decide)] at w1
    rw [un 0 (by decide), un (19 + w').toNat (by omega), un (43 + w').toNat (by omega)]
    exact b1 w' w0 w1
  · have := b2 w' h w0 w1 h0' h1'
    rw [un 1 (by decide), ui w' h w0 w1 h0' h1']
    split
    · exact ⟨by omega, fun q => by omega⟩
    · exact this
  · rw [un (72 + 12 * k + p).toNat (by omega)]
    exact b3 k p k0 k1 p0 p1
  · rw [un (67 + k).toNat (by omega)]
    exact b4 k k0 k1
  · rw [snC_c 24 (fun h x y => sy h x (by omega))]
    exact hc
