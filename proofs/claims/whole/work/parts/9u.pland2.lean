/-! ===== the reference reads a land ===== -/
theorem RV_e {l l' : Nat → Int} (h : RV l) (e : ∀ j, j < 708 → l' j = l j) : RV l' := by
  obtain ⟨⟨a1, a2, a3, a4, a5, a6, a7⟩, b1, b2, b3, b4, b5⟩ := h
  refine ⟨⟨by rw [e 0 (by decide)]; exact a1, by rw [e 1 (by decide)]; exact a2, by rw [e 2 (by decide)]; exact a3, by rw [e 3 (by decide)]; exact a4, by rw [e 4 (by decide)]; exact a5, by rw [e 5 (by decide)]; exact a6, by rw [e 6 (by decide), e 0 (by decide)]; exact a7⟩, fun w w0 w1 => ?_, fun w h w0 w1 h0 h1 => ?_, fun k p k0 k1 p0 p1 => ?_, fun k k0 k1 => ?_, ?_⟩
  · rw [e 1 (by decide)] at w1
    rw [e 0 (by decide), e (19 + w).toNat (by omega), e (43 + w).toNat (by omega)]
    exact b1 w w0 w1
  · rw [e 1 (by decide), e (132 + 24 * w + h).toNat (by omega)]
    exact b2 w h w0 w1 h0 h1
  · rw [e (72 + 12 * k + p).toNat (by omega)]
    exact b3 k p k0 k1 p0 p1
  · rw [e (67 + k).toNat (by omega)]
    exact b4 k k0 k1
  · rw [snC_c 24 (fun h a b => pSy_s (fun w w0 w1 => e (132 + 24 * w + h).toNat (by omega)))]
    exact b5
theorem snC_z {P : Int → Prop} : ∀ k : Nat, (∀ h : Int, 0 ≤ h → h < k → ¬ P h) → snC P k = 0 := by
  intro k
  induction k with
  | zero => intro _; rfl
  | succ k ih =>
    intro h
    have e : snC P (k + 1) = snC P k + @ite _ (P k) (Classical.propDecidable _) 1 0 := rfl
    rw [e, ih (fun x a b => h x a (by omega)), if_neg (h k (by omega) (by omega))]
    rfl
theorem snC_m {P : Int → Prop} {a : Nat} : ∀ b : Nat, a ≤ b → snC P a ≤ snC P b := by
  intro b
  induction b with
  | zero => intro h; rw [show a = 0 by omega]; exact Int.le_refl _
  | succ b ih =>
    intro h
    by_cases q : a = b + 1
    · rw [q]; exact Int.le_refl _
    · have i := ih (by omega)
      have e : snC P (b + 1) = snC P b + @ite _ (P b) (Classical.propDecidable _) 1 0 := rfl
      rw [e]
      split <;> omega
/-- a land that stands is one that can be told -/
theorem RV_LV {l : Nat → Int} (h : RV l) (h0 : 1 ≤ l 0) (h2 : 1 ≤ l 2) : LV l := by
  obtain ⟨⟨a1, a2, a3, a4, a5, a6, a7⟩, b1, b2, b3, b4, b5⟩ := h
  have sy : ∀ h : Int, 0 ≤ h → h < 24 → (sSyP l h ↔ pSy l h) := by
    intro h h0 h1
    unfold sSyP pSy sSn
    constructor
    · rintro ⟨w, x, y, z⟩
      exact ⟨w, x, by omega, z⟩
    · rintro ⟨w, x, y, z⟩
      refine ⟨w, x, ?_, z⟩
      apply Classical.byContradiction
      intro c
      have := (b2 w h x y h0 h1).2 (by omega)
      omega
  have sc : ∀ t : Nat, (t : Int) ≤ l 3 → ∃ c : Nat, sSc l t = 16 ^ c ∧ (c : Int) + snC (pSy l) (l 3 - t).toNat ≤ snC (pSy l) 24 := by
    intro t
    induction t with
    | zero =>
      intro _
      refine ⟨0, rfl, ?_⟩
      have := snC_m (P := pSy l) (a := (l 3 - ((0 : Nat) : Int)).toNat) 24 (by omega)
      omega
    | succ t ih =>
      intro ht
      obtain ⟨c, c1, c2⟩ := ih (by omega)
      have e1 : (l 3 - (t : Int)).toNat = (l 3 - ((t + 1 : Nat) : Int)).toNat + 1 := by omega
      have e2 : ((((l 3 - ((t + 1 : Nat) : Int)).toNat : Nat)) : Int) = l 3 - ((t : Int) + 1) := by omega
      have e3 : snC (pSy l) (l 3 - (t : Int)).toNat = snC (pSy l) (l 3 - ((t + 1 : Nat) : Int)).toNat + @ite _ (pSy l (l 3 - ((t : Int) + 1))) (Classical.propDecidable _) 1 0 := by
        rw [e1]
        have e5 : snC (pSy l) ((l 3 - ((t + 1 : Nat) : Int)).toNat + 1) = snC (pSy l) (l 3 - ((t + 1 : Nat) : Int)).toNat + @ite _ (pSy l ((((l 3 - ((t + 1 : Nat) : Int)).toNat : Nat)) : Int)) (Classical.propDecidable _) 1 0 := rfl
        rw [e5, e2]
      have e4 : sSc l (t + 1) = sSc l t * (if sSy l (l 3 - ((t : Int) + 1)) = 1 then 16 else 1) := rfl
      have sy' := sy (l 3 - ((t : Int) + 1)) (by omega) (by omega)
      by_cases q : pSy l (l 3 - ((t : Int) + 1))
      · have s1 : sSy l (l 3 - ((t : Int) + 1)) = 1 := if_pos (sy'.mpr q)
        rw [if_pos q] at e3
        rw [if_pos s1] at e4
        exact ⟨c + 1, by rw [e4, c1]; exact (Int.pow_succ 16 c).symm, by omega⟩
      · have s1 : sSy l (l 3 - ((t : Int) + 1)) = 0 := if_neg (fun r => q (sy'.mp r))
        rw [if_neg q] at e3
        rw [if_neg (by omega), Int.mul_one] at e4
        exact ⟨c, by rw [e4, c1], by omega⟩
  obtain ⟨c, c1, c2⟩ := sc (l 3).toNat (by omega)
  have c10 : c ≤ 10 := by
    have := (snC_b (pSy l) (l 3 - ((l 3).toNat : Int)).toNat).1
    omega
  refine ⟨⟨h0, a1.2⟩, a2, ⟨h2, a3.2⟩, a4, a5, a6, ⟨a7.1, by omega⟩, b1, fun w h w0 w1 h0 h1 => (b2 w h w0 w1 h0 h1).1, b3, b4, ?_⟩
  rw [c1]
  have p10 : (16 : Nat) ^ c ≤ 16 ^ 10 := Nat.pow_le_pow_right (by decide) c10
  have e16 : ((16 ^ c : Nat) : Int) = (16 : Int) ^ c := by
    rw [Int.natCast_pow]
    rfl
  rw [← e16]
  have : (16 : Nat) ^ 10 = 1099511627776 := by decide
  omega
/-- a land's first numbers -/
def l00 (g : Nat → Int) : Nat → Int := fun j => if j = 4 then 12 else if j = 3 then 12 else if j < 708 then 0 else g j
theorem RV_00 (g : Nat → Int) : RV (l00 g) := by
  have z : ∀ j : Nat, j < 708 → j ≠ 3 → j ≠ 4 → l00 g j = 0 := fun j h1 h2 h3 => by
    unfold l00
    rw [if_neg h3, if_neg h2, if_pos h1]
  have e0 : l00 g 0 = 0 := rfl
  have e1 : l00 g 1 = 0 := rfl
  refine ⟨⟨by rw [e0]; omega, by rw [e1]; omega, by rw [z 2 (by decide) (by decide) (by decide)]; omega, ⟨by show (1 : Int) ≤ 12; decide, by show (12 : Int) ≤ 24; decide⟩, ⟨by show (1 : Int) ≤ 12; decide, by show (12 : Int) ≤ 12; decide⟩, by rw [z 5 (by decide) (by decide) (by decide)]; omega, by rw [z 6 (by decide) (by decide) (by decide)]; omega⟩, fun w w0 w1 => ?_, fun w h w0 w1 h0 h1 => ?_, fun k p k0 k1 p0 p1 => ?_, fun k k0 k1 => ?_, ?_⟩
  · rw [e1] at w1
    omega
  · rw [z (132 + 24 * w + h).toNat (by omega) (by omega) (by omega)]
    omega
  · rw [z (72 + 12 * k + p).toNat (by omega) (by omega) (by omega)]
    omega
  · rw [z (67 + k).toNat (by omega) (by omega) (by omega)]
    omega
  · rw [snC_z 24 (fun h a b => ?_)]
    · decide
    · rintro ⟨w, x, y, q⟩
      rw [z (132 + 24 * w + h).toNat (by omega) (by omega) (by omega)] at q
      omega
/-- line by line -/
noncomputable def lLo (t : Nat → Int) (n : Int) : Nat → Nat → Pz → (Nat → Int) → Pz × (Nat → Int)
  | 0, _, p, l => (p, l)
  | K + 1, many, p, l => if p.2.1 ≠ -1 then (p, l) else if n ≤ pSp t n p.1 then (pAt p (pSp t n p.1), l)
    else @ite _ (¬ isCl (pWd t n (pSp t n p.1))) (Classical.propDecidable _) (pFl (pAt p (pSp t n p.1)) 1 (pSp t n p.1), l)
      (@ite _ (many = 60 ∨ flF (pWd t n (pSp t n p.1)) l) (Classical.propDecidable _) (pFl (pAt p (pSp t n p.1)) 3 (pSp t n p.1), l)
        (lLo t n K (many + 1) (pEx t n (rC t n (pWd t n (pSp t n p.1)) (pAt p (pLe t n (pSp t n p.1))) l).1 59) (rC t n (pWd t n (pSp t n p.1)) (pAt p (pLe t n (pSp t n p.1))) l).2))
/-- at the end: a land without a place or a person doesn't stand -/
def pE (p : Pz) (l : Nat → Int) (n : Int) : Pz := if p.2.1 = -1 ∧ (l 0 = 0 ∨ l 2 = 0) then pFl p 4 n else p
def EXq (Q : Rs → Mm → Prop) (S : FS) (F : FI) (G : FJ) : Prop := calI 0 73 [.inr (.inr (.inl 97))] (mm S F G) (fun v2 S2 F2 G2 => cnd (decide (v2 = 0)) (calI 0 73 [.inr (.inr (.inl 97))] (mm S2 (u2 F2 97 8 (F2 97 5)) G2) (fun v3 S3 F3 G3 => cnd (decide (v3 = 0)) (Q (.inl (some (.inl (wr ((F3 97 6) - 10))))) (mm S3 F3 G3)) (wph 5 96 229 [.inr (.inr (.inl 97)), jk, jk, .inl 0] [] (mm S3 F3 G3) (0, 0) Q)) nof) (cnd (decide ((F2 101 0) = 0)) (calV 0 74 [.inr (.inr (.inl 97)), .inl 4, .inl (F2 97 3)] (mm S2 F2 G2) (fun S4 F4 G4 => calI 0 73 [.inr (.inr (.inl 97))] (mm S4 (u2 F4 97 8 (F4 97 5)) G4) (fun v5 S5 F5 G5 => cnd (decide (v5 = 0)) (Q (.inl (some (.inl (wr ((F5 97 6) - 10))))) (mm S5 F5 G5)) (wph 5 96 229 [.inr (.inr (.inl 97)), jk, jk, .inl 0] [] (mm S5 F5 G5) (0, 0) Q)) nof) nof) (cnd (decide ((F2 101 2) = 0)) (calV 0 74 [.inr (.inr (.inl 97)), .inl 4, .inl (F2 97 3)] (mm S2 F2 G2) (fun S6 F6 G6 => calI 0 73 [.inr (.inr (.inl 97))] (mm S6 (u2 F6 97 8 (F6 97 5)) G6) (fun v7 S7 F7 G7 => cnd (decide (v7 = 0)) (Q (.inl (some (.inl (wr ((F7 97 6) - 10))))) (mm S7 F7 G7)) (wph 5 96 229 [.inr (.inr (.inl 97)), jk, jk, .inl 0] [] (mm S7 F7 G7) (0, 0) Q)) nof) nof) (calI 0 73 [.inr (.inr (.inl 97))] (mm S2 (u2 F2 97 8 (F2 97 5)) G2) (fun v8 S8 F8 G8 => cnd (decide (v8 = 0)) (Q (.inl (some (.inl (wr ((F8 97 6) - 10))))) (mm S8 F8 G8)) (wph 5 96 229 [.inr (.inr (.inl 97)), jk, jk, .inl 0] [] (mm S8 F8 G8) (0, 0) Q)) nof)))) nof
set_option maxRecDepth 100000 in
theorem e_96 {Q : Rs → Mm → Prop} {F0 : FI} {n : Int} {p : Pz} {l : Nat → Int} {S : FS} {F : FI} {G : FJ} (h : PZs (wL F0 l) F p) (hn : F0 97 3 = n)
    (bad : (pE p l n).2.1 ≠ -1 → ∀ F', PZs (wL F0 l) F' (pE p l n) → Q (.inl (some (.inl (wr ((pE p l n).2.2 - 10))))) (mm S (u2 F' 97 8 (pE p l n).2.1) G))
    (good : (pE p l n).2.1 = -1 → ∀ F', PZs (wL F0 l) F' (pE p l n) → wph 5 96 229 [.inr (.inr (.inl 97)), jk, jk, .inl 0] [] (mm S (u2 F' 97 8 (-1)) G) (0, 0) Q) : EXq Q S F G := by
  unfold EXq
  have f101 : F 101 = l := by rw [h.1 101 (by decide)]; exact wL_s
  have f3 : F 97 3 = n := (h.2.1 3 (by decide) (by decide) (by decide)).trans (by rw [wL_o (by decide)]; exact hn)
  -- what is told at last
  have fin : ∀ (F' : FI) (q : Pz), q = pE p l n → PZs (wL F0 l) F' q → calI 0 73 [.inr (.inr (.inl 97))] (mm S (u2 F' 97 8 (F' 97 5)) G) (fun v3 S3 F3 G3 => cnd (decide (v3 = 0)) (Q (.inl (some (.inl (wr ((F3 97 6) - 10))))) (mm S3 F3 G3)) (wph 5 96 229 [.inr (.inr (.inl 97)), jk, jk, .inl 0] [] (mm S3 F3 G3) (0, 0) Q)) nof := by
    intro F' q eq s
    rw [← eq] at bad good
    have e5 : F' 97 5 = q.2.1 := s.2.2.2.1
    have e6 : F' 97 6 = q.2.2 := s.2.2.2.2
    refine sg_73_0 ?_
    rw [u2_n (by decide), e5]
    refine cn_i (fun b => ⟨_, _, _, rfl, cd_f (by decide) ?_⟩) (fun b => ⟨_, _, _, rfl, cd_t rfl ?_⟩)
    · rw [b]
      exact good b F' s
    · rw [u2_n (by decide), e6]
      exact bad b F' s
  refine c_73 h (fun b => cd_f (by decide) ?_) (fun b => cd_t rfl ?_)
  · rw [f101, f3]
    refine cn_i (fun z => ?_) (fun z => cn_i (fun z2 => ?_) (fun z2 => ?_))
    · refine c_74 h (fun F' s => fin F' _ ?_ s)
      unfold pE
      rw [if_pos ⟨b, Or.inl z⟩]
    · refine c_74 h (fun F' s => fin F' _ ?_ s)
      unfold pE
      rw [if_pos ⟨b, Or.inr z2⟩]
    · refine fin F _ ?_ h
      unfold pE
      rw [if_neg (fun r => r.2.elim z z2)]
  · refine fin F _ ?_ h
    unfold pE
    rw [if_neg (fun r => b r.1)]
theorem pEx_ok {t : Nat → Int} {n c : Int} {p : Pz} (h : (pEx t n p c).2.1 = -1) : p.2.1 = -1 := by
  unfold pEx at h
  split at h
  · exact h
  · rename_i q
    apply Classical.byContradiction
    intro r
    exact q r
theorem pFl_ne {t : Nat → Int} {n : Int} {p : Pz} {kd : Int} (hp : p.2.1 = -1) (h0 : 0 ≤ pSp t n p.1) : (pFl (pAt p (pSp t n p.1)) kd (pSp t n p.1)).2.1 ≠ -1 := by
  unfold pFl
  rw [if_pos (show (pAt p (pSp t n p.1)).2.1 = -1 from hp)]
  show pSp t n p.1 ≠ -1
  omega
set_option maxRecDepth 100000 in
theorem l_96_78 {Q : Rs → Mm → Prop} {F0 : FI} {n : Int} {R : Pz × (Nat → Int)} {S : FS} {G : FJ} (hT : TX F0) (hn3 : F0 97 3 = n)
    (bad : (pE R.1 R.2 n).2.1 ≠ -1 → ∀ F', PZs (wL F0 R.2) F' (pE R.1 R.2 n) → Q (.inl (some (.inl (wr ((pE R.1 R.2 n).2.2 - 10))))) (mm S (u2 F' 97 8 (pE R.1 R.2 n).2.1) G))
    (good : (pE R.1 R.2 n).2.1 = -1 → RV R.2 → ∀ F', PZs (wL F0 R.2) F' (pE R.1 R.2 n) → wph 5 96 229 [.inr (.inr (.inl 97)), jk, jk, .inl 0] [] (mm S (u2 F' 97 8 (-1)) G) (0, 0) Q) :
    ∀ (K many : Nat) (p : Pz) (l : Nat → Int) (F : FI), K + many = 60 → lLo (F0 99) n (K + 1) many p l = R → PZs (wL F0 l) F p → PZn F0 n p → (p.2.1 = -1 → RV l) → wph 5 96 78 [.inr (.inr (.inl 97)), jk, .inl (many : Int)] [] (mm S F G) (0, 0) Q := by
  have e99 : ∀ l', wL F0 l' 99 = F0 99 := fun l' => wL_o (by decide)
  have e97 : ∀ l', wL F0 l' 97 = F0 97 := fun l' => wL_o (by decide)
  have up : ∀ l' q, PZn F0 n q → PZn (wL F0 l') n q := fun l' q a => ⟨by rw [e97]; exact a.1, a.2⟩
  have dn : ∀ l' q, PZn (wL F0 l') n q → PZn F0 n q := fun l' q a => ⟨by have := a.1; rw [e97] at this; exact this, a.2⟩
  have tw : ∀ l', TX (wL F0 l') := fun l' t i a b => by
    rw [wL_o (by omega)]
    exact hT t i a b
  have pE_ok : ∀ (p : Pz) (l : Nat → Int), (pE p l n).2.1 = -1 → 0 ≤ n → p.2.1 = -1 := by
    intro p l h h0
    unfold pE at h
    split at h
    · rename_i c; exact c.1
    · exact h
  have out : ∀ (F' : FI) (p' : Pz) (l' : Nat → Int), R = (p', l') → PZs (wL F0 l') F' p' → 0 ≤ n → (p'.2.1 = -1 → RV l') → EXq Q S F' G := by
    intro F' p' l' eR s n0 rv
    rw [eR] at bad good
    exact e_96 s hn3 bad (fun b => good b (rv (pE_ok p' l' b n0)))
  have step : ∀ (K many : Nat) (p : Pz) (l : Nat → Int) (F : FI), K + many = 60 → lLo (F0 99) n (K + 1) many p l = R → PZs (wL F0 l) F p → PZn F0 n p → (p.2.1 = -1 → RV l) →
      (many ≠ 60 → ∀ (p' : Pz) (l' : Nat → Int) (F' : FI), lLo (F0 99) n K (many + 1) p' l' = R → PZs (wL F0 l') F' p' → PZn F0 n p' → (p'.2.1 = -1 → RV l') → wph 5 96 78 [.inr (.inr (.inl 97)), jk, .inl ((many + 1 : Nat) : Int)] [] (mm S F' G) (0, 0) Q) → wph 5 96 78 [.inr (.inr (.inl 97)), jk, .inl (many : Int)] [] (mm S F G) (0, 0) Q := by
    intro K many p l F hK hR h hn hr nxt
    have n0 : 0 ≤ n := by have := hn.2.2; omega
    unfold lLo at hR
    refine sg_96_78 (c_73 h (fun b => cd_f (by decide) ?_) (fun b => cd_t rfl ?_))
    · rw [if_neg (fun r => r b)] at hR
      have rv := hr b
      refine c_83 (up l p hn) h (fun lt F1 s1 n1 => cd_f (by decide) ?_) (fun ge F1 s1 n1 => cd_t rfl ?_)
      · rw [e99] at s1 n1 lt
        rw [if_neg (by omega)] at hR
        have n1 := dn _ _ n1
        have esp : pSp (F0 99) n (pSp (F0 99) n p.1) = pSp (F0 99) n p.1 := pSp_f hn.2.2.2
        have b0 : 0 ≤ pSp (F0 99) n p.1 := n1.2.2.1
        refine c_78 (up l _ n1) s1 (fun F2 s2 n2 => ?_)
        rw [e99, show (pAt p (pSp (F0 99) n p.1)).1 = pSp (F0 99) n p.1 from rfl, esp] at s2 n2 ⊢
        have s2 : PZs (wL F0 l) F2 (pAt p (pSp (F0 99) n p.1)) := s2
        have n2 : PZn F0 n (pAt p (pSp (F0 99) n p.1)) := n1
        have f4 : F2 97 4 = pSp (F0 99) n p.1 := s2.2.2.1
        -- a fault is told, and so it ends
        have flt : ∀ kd : Int, R = (pFl (pAt p (pSp (F0 99) n p.1)) kd (pSp (F0 99) n p.1), l) → ∀ kt : FS → FI → FJ → Prop, calV 0 74 [.inr (.inr (.inl 97)), .inl kd, .inl (pSp (F0 99) n p.1)] (mm S F2 G) (fun S3 F3 G3 => calI 0 73 [.inr (.inr (.inl 97))] (mm S3 F3 G3) (fun v S4 F4 G4 => cnd (decide (v = 0)) (EXq Q S4 F4 G4) (kt S4 F4 G4)) nof) nof := by
          intro kd eR kt
          refine c_74 s2 (fun F3 s3 => c_73 s3 (fun b2 => absurd b2 (pFl_ne b b0)) (fun b2 => cd_t rfl (out F3 _ _ eR s3 n0 (fun _ => rv))))
        refine c_93 (TX_p (tw l) s2) (fun cl => cd_f (by decide) ?_) (fun cl => cd_t rfl ?_)
        · rw [if_neg (fun r => r cl)] at hR
          by_cases m60 : many = 60
          · rw [if_pos (Or.inl m60)] at hR
            rw [f4]
            exact cd_t (by omega) (flt 3 hR.symm _)
          · have nx : ¬ flF (pWd (F0 99) n (pSp (F0 99) n p.1)) l → calI 0 73 [.inr (.inr (.inl 97))] (mm S F2 G) (fun v S4 F4 G4 => cnd (decide (v = 0)) (EXq Q S4 F4 G4) (calV 1 80 [.inr (.inr (.inl 97))] (mm S4 F4 G4) (fun S5 F5 G5 => calV 4 95 [.inr (.inr (.inl 97)), .inl (pWd (F0 99) n (pSp (F0 99) n p.1))] (mm S5 F5 G5) (fun S6 F6 G6 => calV 1 82 [.inr (.inr (.inl 97)), .inl 59] (mm S6 F6 G6) (fun S7 F7 G7 => wph 5 96 78 [.inr (.inr (.inl 97)), jk, .inl (wr ((many : Int) + 1))] [] (mm S7 F7 G7) (0, 0) Q) nof) nof) nof)) nof := by
              intro nf
              rw [if_neg (fun r => r.elim m60 nf)] at hR
              refine c_73 s2 (fun _ => cd_f (by decide) ?_) (fun b2 => absurd b b2)
              refine c_80 (up l _ n2) s2 (fun F3 s3 n3 => ?_)
              rw [e99, show (pAt p (pSp (F0 99) n p.1)).1 = pSp (F0 99) n p.1 from rfl] at s3 n3
              have s3 : PZs (wL F0 l) F3 (pAt p (pLe (F0 99) n (pSp (F0 99) n p.1))) := s3
              have n3 : PZn F0 n (pAt p (pLe (F0 99) n (pSp (F0 99) n p.1))) := dn _ _ n3
              refine c_95 hT n3 s3 rv (fun F4 s4 n4 => ?_)
              refine c_82 (by decide) (up _ _ n4) s4 (fun F5 s5 n5 => ?_)
              rw [e99] at s5 n5
              rw [wr_id (by omega) (by omega), show (many : Int) + 1 = ((many + 1 : Nat) : Int) by omega]
              exact nxt m60 _ _ F5 hR s5 (dn _ _ n5) (fun q => rC_RV rv cl nf n3.2.2.1 n3.2.2.2 (pEx_ok q))
            refine cd_f (by omega) (c_94 (TX_p (tw l) s2) (by rw [s2.1 101 (by decide)]; exact wL_s) (fun fl => cd_f (by decide) ?_) (fun nf => cd_t rfl (nx nf)))
            rw [if_pos (Or.inr fl)] at hR
            rw [f4]
            exact flt 3 hR.symm _
        · rw [if_pos cl] at hR
          rw [f4]
          exact flt 1 hR.symm _
      · rw [e99] at s1 n1 ge
        rw [if_pos ge] at hR
        exact out F1 _ _ hR.symm s1 n0 (fun _ => rv)
    · rw [if_pos b] at hR
      exact out F _ _ hR.symm h n0 hr
  intro K
  induction K with
  | zero =>
    intro many p l F hK hR h hn hr
    exact step 0 many p l F hK hR h hn hr (fun q => absurd (by omega) q)
  | succ K ih =>
    intro many p l F hK hR h hn hr
    exact step (K + 1) many p l F hK hR h hn hr (fun q p' l' F' a b c d => ih (many + 1) p' l' F' (by omega) a b c d)
