/-! ===== every text can be read; what is read can be run ===== -/
theorem GP_o {t : Nat → Int} {n o : Int} {g : Nat} {x x' : Px} (h : GP t n g o x x') (hf : x'.1.2.1 = -1) : x.1.2.1 = -1 := by
  apply Classical.byContradiction
  intro q
  rw [GP_x h q] at hf
  exact q hf
theorem GP_all {t : Nat → Int} {n : Int} : ∀ (N : Nat) (g : Nat) (o : Int) (x : Px), (g ≤ 5 ∨ g = 11 ∨ g = 12 ∨ g = 14 ∨ g = 15) → 0 ≤ x.1.1 ∧ x.1.1 ≤ n → (n - x.1.1).toNat * 10 + (if g < 10 then g + 1 else 0) < N → ∃ x', GP t n g o x x' := by
  intro N
  induction N with
  | zero => intro g o x _ _ h; omega
  | succ N ih =>
    intro g o x hg hx hm
    by_cases h : x.1.2.1 = -1
    · have sb := pSp_b (t := t) (n := n) (n - x.1.1).toNat x.1.1 (by omega)
      obtain ⟨b, eb⟩ : ∃ b, b = pSp t n x.1.1 := ⟨_, rfl⟩
      -- behind: nothing to read, or less
      have go : ∀ (g' : Nat) (o' : Int) (y : Px), (g' ≤ 5 ∨ g' = 11 ∨ g' = 12 ∨ g' = 14 ∨ g' = 15) → 0 ≤ y.1.1 ∧ y.1.1 ≤ n → (y.1.2.1 = -1 → x.1.1 + 1 ≤ y.1.1) → ∃ x', GP t n g' o' y x' := by
        intro g' o' y h1 h2 h3
        by_cases q : y.1.2.1 = -1
        · have := h3 q
          have w : (if g' < 10 then g' + 1 else 0) ≤ 9 := by split <;> omega
          exact ih g' o' y h1 h2 (by omega)
        · exact ⟨y, GP_flt q⟩
      have opd : ∀ k : Int, 0 ≤ k → pSp t n x.1.1 + 1 + k ≤ n → (0 ≤ (opn (pAt x.1 (pSp t n x.1.1)) (1 + k) o).1 ∧ (opn (pAt x.1 (pSp t n x.1.1)) (1 + k) o).1 ≤ n) ∧ ((opn (pAt x.1 (pSp t n x.1.1)) (1 + k) o).2.1 = -1 → x.1.1 + 1 ≤ (opn (pAt x.1 (pSp t n x.1.1)) (1 + k) o).1) := by
        intro k hk hk2
        have ob := opn_p (p := pAt x.1 (pSp t n x.1.1)) (k := 1 + k) (o := o) (n := n) h (by show 0 ≤ pSp t n x.1.1; omega) (by show pSp t n x.1.1 + (1 + k) ≤ n; omega) (by omega)
        refine ⟨ob.1, fun q => ?_⟩
        have o2 : (opn (pAt x.1 (pSp t n x.1.1)) (1 + k) o).1 = pSp t n x.1.1 + (1 + k) := (ob.2 q).1
        omega
      -- a row
      have row : ∀ g : Nat, (g = 1 ∨ g = 2 ∨ g = 4 ∨ g = 5) → (n - x.1.1).toNat * 10 + 2 ≤ N → (∀ o' y, 0 ≤ y.1.1 ∧ y.1.1 ≤ n → x.1.1 ≤ y.1.1 → (n - y.1.1).toNat * 10 + 0 < N → ∃ z, GP t n (10 + g) o' y z) → (∃ y, GP t n (g - 1) o x y) → ∃ z, GP t n g o x z := by
        rintro g hg hN lo ⟨y, hy⟩
        have m := GP_m hy hx
        by_cases q : y.1.2.1 = -1
        · have m2 := m.2 q
          obtain ⟨z, hz⟩ := lo o y m.1 m2.2.1 (by omega)
          exact ⟨z, GP_joi h hg hy hz⟩
        · exact ⟨y, GP_joi h hg hy (GP_flt q)⟩
      have rest : ∀ g : Nat, (g = 1 ∨ g = 2 ∨ g = 4 ∨ g = 5) → (10 + g ≤ 5 ∨ 10 + g = 11 ∨ 10 + g = 12 ∨ 10 + g = 14 ∨ 10 + g = 15) → ∃ z, GP t n (10 + g) o x z := by
        intro g hg hg2
        by_cases c : jop g (pBy t n (pSp t n x.1.1)) (pWd t n (pSp t n x.1.1)) = 0
        · exact ⟨_, GP_fin h hg c⟩
        · have jb := jop_p (t := t) hg (by omega) sb.2 c
          obtain ⟨y, hy⟩ := go (g - 1) o (pAt x.1 (jq t n g (pSp t n x.1.1)), x.2) (by omega) ⟨by show 0 ≤ jq t n g (pSp t n x.1.1); omega, jb.2⟩ (fun _ => by show x.1.1 + 1 ≤ jq t n g (pSp t n x.1.1); omega)
          have m := GP_m hy ⟨by show 0 ≤ jq t n g (pSp t n x.1.1); omega, jb.2⟩
          obtain ⟨z, hz⟩ := go (10 + g) o (emx y (jop g (pBy t n (pSp t n x.1.1)) (pWd t n (pSp t n x.1.1))) 0) hg2 (by rw [emx_1]; exact m.1) (fun q => by
            rw [emx_1] at q ⊢
            have m2 : jq t n g (pSp t n x.1.1) ≤ y.1.1 := (m.2 q).2.1
            omega)
          exact ⟨z, GP_mor h hg c hy hz⟩
      have e : g = 0 ∨ g = 1 ∨ g = 2 ∨ g = 3 ∨ g = 4 ∨ g = 5 ∨ g = 11 ∨ g = 12 ∨ g = 14 ∨ g = 15 := by omega
      rcases e with e | e | e | e | e | e | e | e | e | e <;> subst e
      · by_cases c : pBy t n (pSp t n x.1.1) = 40
        · have lt := pBy_n c (by decide)
          have ob := opd 0 (Int.le_refl 0) (by omega)
          obtain ⟨y, hy⟩ := go 2 (o + 1) (opn (pAt x.1 (pSp t n x.1.1)) 1 o, x.2) (by decide) ob.1 ob.2
          exact ⟨_, GP_par h c hy⟩
        · by_cases c2 : 48 ≤ pBy t n (pSp t n x.1.1) ∧ pBy t n (pSp t n x.1.1) ≤ 57
          · exact ⟨_, GP_num h c2⟩
          · by_cases w : fcW (pWd t n (pSp t n x.1.1)) = -1
            · exact ⟨_, GP_fno h c c2 w⟩
            · exact ⟨_, GP_fct h c c2 w⟩
      · exact row 1 (by decide) (by simp only [show (1 : Nat) < 10 from by decide, if_true] at hm; omega) (fun o' y h1 h2 h3 => ih 11 o' y (by decide) h1 h3) (ih 0 o x (by decide) hx (by simp only [show (1 : Nat) < 10 from by decide, show (0 : Nat) < 10 from by decide, if_true] at hm ⊢; omega))
      · exact row 2 (by decide) (by simp only [show (2 : Nat) < 10 from by decide, if_true] at hm; omega) (fun o' y h1 h2 h3 => ih 12 o' y (by decide) h1 h3) (ih 1 o x (by decide) hx (by simp only [show (1 : Nat) < 10 from by decide, show (2 : Nat) < 10 from by decide, if_true] at hm ⊢; omega))
      · by_cases c : pBy t n (pSp t n x.1.1) = 91
        · have lt := pBy_n c (by decide)
          have ob := opd 0 (Int.le_refl 0) (by omega)
          obtain ⟨y, hy⟩ := go 5 (o + 1) (opn (pAt x.1 (pSp t n x.1.1)) 1 o, x.2) (by decide) ob.1 ob.2
          exact ⟨_, GP_bra h c hy⟩
        · by_cases w : pWd t n (pSp t n x.1.1) = tC 20
          · have n3 := not3 (t := t) (n := n) (b := pSp t n x.1.1) (by omega) sb.2 w
            have lb := pLe_b (t := t) (n := n) (n - pSp t n x.1.1).toNat (pSp t n x.1.1) (by omega)
            have ob := opd 2 (by decide) (by omega)
            obtain ⟨y, hy⟩ := go 3 (o + 1) (opn (pAt x.1 (pSp t n x.1.1)) 3 o, x.2) (by decide) ob.1 ob.2
            exact ⟨_, GP_neg h c w hy⟩
          · obtain ⟨y, hy⟩ := ih 2 o (pAt x.1 (pSp t n x.1.1), x.2) (by decide) ⟨by show 0 ≤ pSp t n x.1.1; omega, sb.2⟩ (by
              simp only [show (3 : Nat) < 10 from by decide, show (2 : Nat) < 10 from by decide, if_true] at hm ⊢
              show (n - pSp t n x.1.1).toNat * 10 + 3 < N
              omega)
            have m := GP_m hy ⟨by show 0 ≤ pSp t n x.1.1; omega, sb.2⟩
            by_cases f : y.1.2.1 = -1
            · by_cases e : cop (pBy t n (pSp t n y.1.1)) = 0
              · exact ⟨_, GP_cmn h c w hy f e⟩
              · have lt := cop_p e
                have m2 : pSp t n x.1.1 ≤ y.1.1 := (m.2 f).2.1
                have sy := pSp_b (t := t) (n := n) (n - y.1.1).toNat y.1.1 (by omega)
                obtain ⟨z, hz⟩ := go 2 o (pAt y.1 (pSp t n y.1.1 + 1), y.2) (by decide) ⟨by show 0 ≤ pSp t n y.1.1 + 1; omega, by show pSp t n y.1.1 + 1 ≤ n; omega⟩ (fun _ => by show x.1.1 + 1 ≤ pSp t n y.1.1 + 1; omega)
                exact ⟨_, GP_cmp h c w hy f e hz⟩
            · exact ⟨_, GP_cmf h c w hy f⟩
      · exact row 4 (by decide) (by simp only [show (4 : Nat) < 10 from by decide, if_true] at hm; omega) (fun o' y h1 h2 h3 => ih 14 o' y (by decide) h1 h3) (ih 3 o x (by decide) hx (by simp only [show (4 : Nat) < 10 from by decide, show (3 : Nat) < 10 from by decide, if_true] at hm ⊢; omega))
      · exact row 5 (by decide) (by simp only [show (5 : Nat) < 10 from by decide, if_true] at hm; omega) (fun o' y h1 h2 h3 => ih 15 o' y (by decide) h1 h3) (ih 4 o x (by decide) hx (by simp only [show (4 : Nat) < 10 from by decide, show (5 : Nat) < 10 from by decide, if_true] at hm ⊢; omega))
      · exact rest 1 (by decide) (by decide)
      · exact rest 2 (by decide) (by decide)
      · exact rest 4 (by decide) (by decide)
      · exact rest 5 (by decide) (by decide)
    · exact ⟨x, GP_flt h⟩
/-- steps that can be run: from d to e on the stack -/
def wfl : List (Int × Int) → Int → Int → Prop
  | [], d, e => d = e
  | q :: r, d, e => (0 ≤ q.1 ∧ q.1 ≤ 1 ∧ 0 ≤ d ∧ d < 64 ∧ 0 ≤ q.2 ∧ (q.1 = 1 → q.2 ≤ 7) ∧ wfl r (d + 1) e) ∨ (q.1 = 9 ∧ 1 ≤ d ∧ wfl r d e) ∨ (2 ≤ q.1 ∧ q.1 ≤ 11 ∧ q.1 ≠ 9 ∧ 2 ≤ d ∧ wfl r (d - 1) e)
theorem wfl_a : ∀ (a b : List (Int × Int)) (d m e : Int), wfl a d m → wfl b m e → wfl (a ++ b) d e := by
  intro a
  induction a with
  | nil => intro b d m e h1 h2; rw [show d = m from h1]; exact h2
  | cons q r ih =>
    intro b d m e h1 h2
    rcases h1 with ⟨a1, a2, a3, a4, a5, a6, a7⟩ | ⟨a1, a2, a3⟩ | ⟨a1, a2, a3, a4, a5⟩
    · exact Or.inl ⟨a1, a2, a3, a4, a5, a6, ih b _ m e a7 h2⟩
    · exact Or.inr (Or.inl ⟨a1, a2, ih b _ m e a3 h2⟩)
    · exact Or.inr (Or.inr ⟨a1, a2, a3, a4, ih b _ m e a5 h2⟩)
theorem wfl_2 {op d : Int} (h : 2 ≤ op ∧ op ≤ 11 ∧ op ≠ 9) (hd : 2 ≤ d) : wfl [(op, 0)] d (d - 1) := Or.inr (Or.inr ⟨h.1, h.2.1, h.2.2, hd, rfl⟩)
theorem jop_v {g : Nat} {c w : Int} (h : jop g c w ≠ 0) : 2 ≤ jop g c w ∧ jop g c w ≤ 11 ∧ jop g c w ≠ 9 := by
  unfold jop at h ⊢
  split at h
  · rename_i q
    rw [if_pos q]
    split at h
    · rename_i q2; rw [if_pos q2]; decide
    · rename_i q2
      rw [if_neg q2]
      split at h
      · rename_i q3; rw [if_pos q3]; decide
      · exact absurd rfl h
  · rename_i q
    rw [if_neg q]
    split at h
    · rename_i q1
      rw [if_pos q1]
      split at h
      · rename_i q2; rw [if_pos q2]; decide
      · rename_i q2
        rw [if_neg q2]
        split at h
        · rename_i q3; rw [if_pos q3]; decide
        · exact absurd rfl h
    · rename_i q1
      rw [if_neg q1]
      split at h
      · rename_i q2
        rw [if_pos q2]
        split at h
        · rename_i q3; rw [if_pos q3]; decide
        · exact absurd rfl h
      · rename_i q2
        rw [if_neg q2]
        split at h
        · rename_i q3; rw [if_pos q3]; decide
        · exact absurd rfl h
theorem cop_v {c : Int} (h : cop c ≠ 0) : 2 ≤ cop c ∧ cop c ≤ 11 ∧ cop c ≠ 9 := by
  unfold cop at h ⊢
  split at h
  · rename_i q; rw [if_pos q]; decide
  · rename_i q
    rw [if_neg q]
    split at h
    · rename_i q1; rw [if_pos q1]; decide
    · rename_i q1
      rw [if_neg q1]
      split at h
      · rename_i q2; rw [if_pos q2]; decide
      · exact absurd rfl h
def ndw (g : Nat) (o : Int) : Int := (if g < 10 then (g : Int) else (g : Int) - 10) + 1 + 6 * (6 - o)
theorem GP_wf {t : Nat → Int} {n o : Int} {g : Nat} {x x' : Px} (h : GP t n g o x x') : 0 ≤ x.1.1 ∧ x.1.1 ≤ n → o ≤ 6 → x'.1.2.1 = -1 → ∃ s, x'.2 = x.2 ++ s ∧ (g < 10 → ∀ d, 0 ≤ d → d + ndw g o ≤ 64 → wfl s d (d + 1)) ∧ (¬ g < 10 → ∀ d, 1 ≤ d → d - 1 + ndw g o ≤ 64 → wfl s d d) := by
  have n0 : ndw 0 = fun o => 1 + 6 * (6 - o) := by funext o; show (0 : Int) + 1 + 6 * (6 - o) = _; omega
  have n1 : ndw 1 = fun o => 2 + 6 * (6 - o) := by funext o; show (1 : Int) + 1 + 6 * (6 - o) = _; omega
  have n2 : ndw 2 = fun o => 3 + 6 * (6 - o) := by funext o; show (2 : Int) + 1 + 6 * (6 - o) = _; omega
  have n3 : ndw 3 = fun o => 4 + 6 * (6 - o) := by funext o; show (3 : Int) + 1 + 6 * (6 - o) = _; omega
  have n5 : ndw 5 = fun o => 6 + 6 * (6 - o) := by funext o; show (5 : Int) + 1 + 6 * (6 - o) = _; omega
  have ng : ∀ g : Nat, (g = 1 ∨ g = 2 ∨ g = 4 ∨ g = 5) → ∀ o, ndw g o = ndw (g - 1) o + 1 ∧ ndw (10 + g) o = ndw g o := by
    intro g hg o
    unfold ndw
    rcases hg with e | e | e | e <;> subst e
    · exact ⟨by show (1 : Int) + 1 + 6 * (6 - o) = (0 : Int) + 1 + 6 * (6 - o) + 1; omega, by show (11 : Int) - 10 + 1 + 6 * (6 - o) = (1 : Int) + 1 + 6 * (6 - o); omega⟩
    · exact ⟨by show (2 : Int) + 1 + 6 * (6 - o) = (1 : Int) + 1 + 6 * (6 - o) + 1; omega, by show (12 : Int) - 10 + 1 + 6 * (6 - o) = (2 : Int) + 1 + 6 * (6 - o); omega⟩
    · exact ⟨by show (4 : Int) + 1 + 6 * (6 - o) = (3 : Int) + 1 + 6 * (6 - o) + 1; omega, by show (14 : Int) - 10 + 1 + 6 * (6 - o) = (4 : Int) + 1 + 6 * (6 - o); omega⟩
    · exact ⟨by show (5 : Int) + 1 + 6 * (6 - o) = (4 : Int) + 1 + 6 * (6 - o) + 1; omega, by show (15 : Int) - 10 + 1 + 6 * (6 - o) = (5 : Int) + 1 + 6 * (6 - o); omega⟩
  refine GP_rec (P := fun g o x x' => 0 ≤ x.1.1 ∧ x.1.1 ≤ n → o ≤ 6 → x'.1.2.1 = -1 → ∃ s, x'.2 = x.2 ++ s ∧ (g < 10 → ∀ d, 0 ≤ d → d + ndw g o ≤ 64 → wfl s d (d + 1)) ∧ (¬ g < 10 → ∀ d, 1 ≤ d → d - 1 + ndw g o ≤ 64 → wfl s d d)) ?_ ?_ ?_ ?_ ?_ ?_ ?_ ?_ ?_ ?_ ?_ ?_ ?_ h
  · exact fun g o x h hx ho r => absurd r h
  · intro o x y h c s ih hx ho r
    have sb := pSp_b (t := t) (n := n) (n - x.1.1).toNat x.1.1 (by omega)
    have lt := pBy_n c (by decide)
    have ob := opn_p (p := pAt x.1 (pSp t n x.1.1)) (k := 1) (o := o) (n := n) h (by show 0 ≤ pSp t n x.1.1; omega) (by show pSp t n x.1.1 + 1 ≤ n; omega) (by decide)
    have i1 := (GP_m s ob.1).1
    have yo := ((pEx_p (t := t) (c := 41) i1.1 i1.2 (by decide)).2 r).1
    have o6 := (ob.2 (GP_o s yo)).2
    obtain ⟨q, q1, q2, -⟩ := ih ob.1 (by omega) yo
    refine ⟨q, q1, fun _ d hd hd2 => q2 (by decide) d hd ?_, fun z => absurd (by decide) z⟩
    rw [n0] at hd2
    rw [n2]
    dsimp only at hd2 ⊢
    omega
  · intro o x h c hx ho r
    have sb := pSp_b (t := t) (n := n) (n - x.1.1).toNat x.1.1 (by omega)
    rw [emx_1] at r
    have v := pNb_f (t := t) (n := n) (lo := 0) (hi := 9999) (p := pAt x.1 (pSp t n x.1.1)) (by show 0 ≤ pSp t n x.1.1; omega) sb.2 r
    rw [emx_y r]
    refine ⟨_, rfl, fun _ d hd hd2 => Or.inl ⟨by show (0 : Int) ≤ 0; decide, by show (0 : Int) ≤ 1; decide, hd, ?_, v.2.1, fun z => absurd z (show ¬ ((0 : Int) = 1) by decide), rfl⟩, fun z => absurd (by decide) z⟩
    rw [n0] at hd2
    dsimp only at hd2
    omega
  · intro o x h c c2 w hx ho r
    have sb := pSp_b (t := t) (n := n) (n - x.1.1).toNat x.1.1 (by omega)
    rw [pFl_y (show (pAt x.1 (pSp t n x.1.1)).2.1 = -1 from h)] at r
    have r : pSp t n x.1.1 = -1 := r
    omega
  · intro o x h c c2 w hx ho r
    rw [emx_1] at r
    have fb := fcW_b w
    rw [emx_y (x := (pAt x.1 (pLe t n (pSp t n x.1.1)), x.2)) r]
    refine ⟨_, rfl, fun _ d hd hd2 => Or.inl ⟨by show (0 : Int) ≤ 1; decide, by show (1 : Int) ≤ 1; decide, hd, ?_, fb.1.1, fun _ => fb.1.2, rfl⟩, fun z => absurd (by decide) z⟩
    rw [n0] at hd2
    dsimp only at hd2
    omega
  · intro g o x y z h hg s1 s2 i1 i2 hx ho r
    have m := (GP_m s1 hx).1
    have yo := GP_o s2 r
    obtain ⟨q, q1, q2, -⟩ := i1 hx ho yo
    obtain ⟨q', p1, -, p3⟩ := i2 m ho r
    have e := ng g hg o
    have wf : ∀ d, 0 ≤ d → d + ndw g o ≤ 64 → wfl (q ++ q') d (d + 1) := by
      intro d hd hd2
      refine wfl_a q q' d (d + 1) (d + 1) (q2 (by omega) d hd (by omega)) (p3 (by omega) (d + 1) (by omega) ?_)
      rw [e.2]
      omega
    exact ⟨q ++ q', by rw [p1, q1, List.append_assoc], fun _ => wf, fun z => absurd (by omega) z⟩
  · intro g o x h hg c hx ho r
    exact ⟨[], (List.append_nil _).symm, fun z => by omega, fun _ d hd hd2 => rfl⟩
  · intro g o x y z h hg c s1 s2 i1 i2 hx ho r
    have sb := pSp_b (t := t) (n := n) (n - x.1.1).toNat x.1.1 (by omega)
    have jb := jop_p (t := t) hg (by omega) sb.2 c
    have m := (GP_m s1 ⟨by show 0 ≤ jq t n g (pSp t n x.1.1); omega, jb.2⟩).1
    have yo := GP_o s2 r
    rw [emx_1] at yo
    obtain ⟨q, q1, q2, -⟩ := i1 ⟨by show 0 ≤ jq t n g (pSp t n x.1.1); omega, jb.2⟩ ho yo
    obtain ⟨q', p1, -, p3⟩ := i2 (by rw [emx_1]; exact m) ho r
    rw [emx_y yo] at p1
    have e := ng g hg o
    refine ⟨q ++ [(jop g (pBy t n (pSp t n x.1.1)) (pWd t n (pSp t n x.1.1)), 0)] ++ q', ?_, fun z => by omega, fun _ d hd hd2 => ?_⟩
    · rw [p1]
      show (y.2 ++ _) ++ q' = _
      rw [q1]
      show ((x.2 ++ q) ++ _) ++ q' = _
      rw [List.append_assoc, List.append_assoc, List.append_assoc]
    · rw [e.2] at hd2
      have a1 := q2 (by omega) d (by omega) (by omega)
      have a2 := wfl_2 (d := d + 1) (jop_v c) (by omega)
      rw [show d + 1 - 1 = d by omega] at a2
      have a3 := p3 (by omega) d hd (by rw [e.2]; exact hd2)
      exact wfl_a _ _ d d d (wfl_a _ _ d (d + 1) d a1 a2) a3
  · intro o x y h c s ih hx ho r
    have sb := pSp_b (t := t) (n := n) (n - x.1.1).toNat x.1.1 (by omega)
    have lt := pBy_n c (by decide)
    have ob := opn_p (p := pAt x.1 (pSp t n x.1.1)) (k := 1) (o := o) (n := n) h (by show 0 ≤ pSp t n x.1.1; omega) (by show pSp t n x.1.1 + 1 ≤ n; omega) (by decide)
    have i1 := (GP_m s ob.1).1
    have yo := ((pEx_p (t := t) (c := 93) i1.1 i1.2 (by decide)).2 r).1
    have o6 := (ob.2 (GP_o s yo)).2
    obtain ⟨q, q1, q2, -⟩ := ih ob.1 (by omega) yo
    refine ⟨q, q1, fun _ d hd hd2 => q2 (by decide) d hd ?_, fun z => absurd (by decide) z⟩
    rw [n3] at hd2
    rw [n5]
    dsimp only at hd2 ⊢
    omega
  · intro o x y h c w s ih hx ho r
    have sb := pSp_b (t := t) (n := n) (n - x.1.1).toNat x.1.1 (by omega)
    have n3' := not3 (t := t) (n := n) (b := pSp t n x.1.1) (by omega) sb.2 w
    have lb := pLe_b (t := t) (n := n) (n - pSp t n x.1.1).toNat (pSp t n x.1.1) (by omega)
    have ob := opn_p (p := pAt x.1 (pSp t n x.1.1)) (k := 3) (o := o) (n := n) h (by show 0 ≤ pSp t n x.1.1; omega) (by show pSp t n x.1.1 + 3 ≤ n; omega) (by decide)
    rw [emx_1] at r
    have o6 := (ob.2 (GP_o s r)).2
    obtain ⟨q, q1, q2, -⟩ := ih ob.1 (by omega) r
    rw [emx_y r]
    refine ⟨q ++ [(9, 0)], ?_, fun _ d hd hd2 => wfl_a _ _ d (d + 1) (d + 1) (q2 (by decide) d hd ?_) (Or.inr (Or.inl ⟨rfl, by omega, rfl⟩)), fun z => absurd (by decide) z⟩
    · show y.2 ++ _ = _
      rw [q1]
      show (x.2 ++ q) ++ _ = _
      rw [List.append_assoc]
    · rw [n3] at hd2 ⊢
      dsimp only at hd2 ⊢
      omega
  · exact fun o x y h c w s f ih hx ho r => absurd r f
  · intro o x y h c w s f e ih hx ho r
    have sb := pSp_b (t := t) (n := n) (n - x.1.1).toNat x.1.1 (by omega)
    have i1 := (GP_m s ⟨by show 0 ≤ pSp t n x.1.1; omega, sb.2⟩).1
    have sy := pSp_b (t := t) (n := n) (n - y.1.1).toNat y.1.1 (by omega)
    rw [pFl_y (show (pAt y.1 (pSp t n y.1.1)).2.1 = -1 from f)] at r
    have r : pSp t n y.1.1 = -1 := r
    omega
  · intro o x y z h c w s f e s2 ih i2 hx ho r
    have sb := pSp_b (t := t) (n := n) (n - x.1.1).toNat x.1.1 (by omega)
    have i1 := (GP_m s ⟨by show 0 ≤ pSp t n x.1.1; omega, sb.2⟩).1
    have sy := pSp_b (t := t) (n := n) (n - y.1.1).toNat y.1.1 (by omega)
    have lt := cop_p e
    rw [emx_1] at r
    obtain ⟨q, q1, q2, -⟩ := ih ⟨by show 0 ≤ pSp t n x.1.1; omega, sb.2⟩ ho f
    obtain ⟨q', p1, p2, -⟩ := i2 ⟨by show 0 ≤ pSp t n y.1.1 + 1; omega, by show pSp t n y.1.1 + 1 ≤ n; omega⟩ ho r
    rw [emx_y r]
    refine ⟨q ++ q' ++ [(cop (pBy t n (pSp t n y.1.1)), 0)], ?_, fun _ d hd hd2 => ?_, fun z => absurd (by decide) z⟩
    · show z.2 ++ _ = _
      rw [p1]
      show (y.2 ++ q') ++ _ = _
      rw [q1]
      show ((x.2 ++ q) ++ q') ++ _ = _
      rw [List.append_assoc, List.append_assoc, List.append_assoc]
    · rw [n3] at hd2
      rw [n2] at q2 p2
      dsimp only at hd2 q2 p2
      have a1 := q2 (by decide) d hd (by omega)
      have a2 := p2 (by decide) (d + 1) (by omega) (by omega)
      have a3 := wfl_2 (d := d + 1 + 1) (cop_v e) (by omega)
      rw [show d + 1 + 1 - 1 = d + 1 by omega] at a3
      exact wfl_a _ _ d (d + 1 + 1) (d + 1) (wfl_a _ _ d (d + 1) (d + 1 + 1) a1 a2) a3
