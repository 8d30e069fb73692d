/-! ===== the reference reads a line ===== -/
theorem wSn_0 {l : Nat → Int} {w a b v : Int} (h : b < a) : wSn l w a b v = l := by
  funext j
  exact if_neg (by omega)
theorem wSn_s {l : Nat → Int} {w a b v : Int} {i : Nat} (hw : 0 ≤ w) (ha : 0 ≤ a) (hi : (i : Int) = 132 + 24 * w + (b + 1)) (h : a ≤ b + 1) : uL (wSn l w a b v) i v = wSn l w a (b + 1) v := by
  funext j
  show (if j = i then v else if _ then v else l j) = if _ then v else l j
  by_cases q : j = i
  · rw [if_pos q, if_pos (by omega)]
  · rw [if_neg q]
    by_cases q2 : 132 + 24 * w + a ≤ j ∧ (j : Int) ≤ 132 + 24 * w + b
    · rw [if_pos q2, if_pos (by omega)]
    · rw [if_neg q2, if_neg (by omega)]
theorem l_90_124 {Q : Rs → Mm → Prop} {F0 : FI} {l : Nat → Int} {w a b v : Int} {p : Pz} {S : FS} {G : FJ} (hw : 0 ≤ w ∧ w < 24) (ha : 0 ≤ a) (hb : b ≤ 23) (hk : ∀ F', PZs (wL F0 (wSn l w a b v)) F' p → Q (.inl none) (mm S F' G)) :
    ∀ (K : Nat) (x : Int) (F : FI), (K : Int) = b + 1 - x → a ≤ x → PZs (wL F0 (wSn l w a (x - 1) v)) F p → wph 3 90 124 [.inr (.inr (.inl 97)), .inl w, jk, jk, .inl b, jk, .inl v, .inl x] [] (mm S F G) (0, 0) Q := by
  intro K
  induction K with
  | zero =>
    intro x F hK hx h
    refine sg_90_124 (cd_t (by omega) (hk F ?_))
    rw [show b = x - 1 by omega]
    exact h
  | succ K ih =>
    intro x F hK hx h
    refine sg_90_124 (cd_f (by omega) ?_)
    rw [wr_id (a := 24 * w) (by omega) (by omega), wr_id (a := 132 + 24 * w) (by omega) (by omega), wr_id (a := 132 + 24 * w + x) (by omega) (by omega), wr_id (a := x + 1) (by omega) (by omega)]
    refine ck_i (jb_i (by omega) (by omega)) (ih (x + 1) _ (by omega) (by omega) ?_)
    have := PZs_w h (a := 101) (i := (132 + 24 * w + x).toNat) (v := v) (by decide)
    rw [wL_u, wSn_s hw.1 ha (by omega) (by omega), show x - 1 + 1 = x + 1 - 1 by omega] at this
    exact this
theorem pNb_b {t : Nat → Int} {n lo hi : Int} {p : Pz} (h : p.2.1 ≠ -1) : pNb t n p lo hi = (0, p) := if_pos h
/-- where all that was read before stands well -/
theorem pNb_f {t : Nat → Int} {n lo hi : Int} {p : Pz} (h0 : 0 ≤ p.1) (h1 : p.1 ≤ n) (h : (pNb t n p lo hi).2.2.1 = -1) : p.2.1 = -1 ∧ lo ≤ (pNb t n p lo hi).1 ∧ (pNb t n p lo hi).1 ≤ hi := by
  refine pNb_ok ?_ h
  have := (pSp_b (t := t) (n := n) (n - p.1).toNat p.1 (by omega)).1
  omega
set_option maxRecDepth 100000 in
theorem l_90_39 {Q : Rs → Mm → Prop} {F0 : FI} {n : Int} {p : Pz} {l : Nat → Int} {S : FS} {F4 : FI} {G : FJ} (hn : PZn F0 n p) (n1 : PZn F0 n (rS1 (F0 99) n p l).2) (n3 : PZn F0 n (pAt (rS2 (F0 99) n p l).2 (pSp (F0 99) n (rS2 (F0 99) n p l).2.1))) (n4 : PZn F0 n (rS3 (F0 99) n p l).2) (s4 : PZs (wL F0 l) F4 (rS3 (F0 99) n p l).2) (hl : 0 ≤ l 1 ∧ l 1 ≤ 24)
    (bad : (rS5 (F0 99) n p l).2.2.1 ≠ -1 → ∀ F', PZs (wL F0 l) F' (rS5 (F0 99) n p l).2 → PZn F0 n (rS5 (F0 99) n p l).2 → Q (.inl none) (mm S F' G))
    (good : (rS5 (F0 99) n p l).2.2.1 = -1 → ∀ F', PZs (wL F0 (wSn l (rS1 (F0 99) n p l).1 (rS2 (F0 99) n p l).1 (rS3 (F0 99) n p l).1 (rS5 (F0 99) n p l).1)) F' (rS5 (F0 99) n p l).2 → PZn F0 n (rS5 (F0 99) n p l).2 → Q (.inl none) (mm S F' G)) :
    ∀ (K : Nat) (x : Nat), K + x = 24 → wph 3 90 39 [.inr (.inr (.inl 97)), .inl (rS1 (F0 99) n p l).1, .inl (rS2 (F0 99) n p l).1, .inl (pSp (F0 99) n (rS2 (F0 99) n p l).2.1), .inl (rS3 (F0 99) n p l).1, .inl (snC (fun h => pSy l h ∨ (rS2 (F0 99) n p l).1 ≤ h ∧ h ≤ (rS3 (F0 99) n p l).1) x), .inl (x : Int)] [] (mm S F4 G) (0, 0) Q := by
  have e99 : wL F0 l 99 = F0 99 := wL_o (by decide)
  have e97 : wL F0 l 97 = F0 97 := wL_o (by decide)
  have up : ∀ q, PZn F0 n q → PZn (wL F0 l) n q := fun q a => ⟨by rw [e97]; exact a.1, a.2⟩
  have dn : ∀ q, PZn (wL F0 l) n q → PZn F0 n q := fun q a => ⟨by have := a.1; rw [e97] at this; exact this, a.2⟩
  have last : ∀ (F5 : FI) (q : Pz), q = rS4 (F0 99) n p l → PZs (wL F0 l) F5 q → PZn F0 n q → calI 1 81 [.inr (.inr (.inl 97)), .inl 1, .inl 16] (mm S F5 G) (fun v S6 F6 G6 => calI 0 73 [.inr (.inr (.inl 97))] (mm S6 F6 G6) (fun v4 S7 F7 G7 => cnd (decide (v4 = 0)) (Q (.inl none) (mm S7 F7 G7)) (wph 3 90 124 [.inr (.inr (.inl 97)), .inl (rS1 (F0 99) n p l).1, jk, jk, .inl (rS3 (F0 99) n p l).1, jk, .inl v, .inl (rS2 (F0 99) n p l).1] [] (mm S7 F7 G7) (0, 0) Q)) nof) nof := by
    intro F5 q eq s5 n5
    refine c_81 (up _ n5) s5 (fun F6 s6 n6 => ?_)
    rw [e99, eq] at s6 n6
    rw [e99, eq]
    have s6 : PZs (wL F0 l) F6 (rS5 (F0 99) n p l).2 := s6
    have n6 := dn _ n6
    have n6 : PZn F0 n (rS5 (F0 99) n p l).2 := n6
    refine c_73 s6 (fun b => cd_f (by decide) ?_) (fun b => cd_t rfl (bad b F6 s6 n6))
    have b : (rS5 (F0 99) n p l).2.2.1 = -1 := b
    have o5 := pNb_f (t := F0 99) (n := n) (lo := 1) (hi := 16) (p := rS4 (F0 99) n p l) (by rw [← eq]; exact n5.2.2.1) (by rw [← eq]; exact n5.2.2.2) b
    have o4 : (rS3 (F0 99) n p l).2.2.1 = -1 ∧ ¬ 10 < rSc (F0 99) n p l := by
      have z := o5.1
      unfold rS4 at z
      split at z
      · rename_i c
        unfold pFl at z
        rw [if_pos c.1] at z
        have z : pSp (F0 99) n (rS2 (F0 99) n p l).2.1 = -1 := z
        have n30 : 0 ≤ pSp (F0 99) n (rS2 (F0 99) n p l).2.1 := n3.2.2.1
        omega
      · rename_i c
        exact ⟨z, fun r => c ⟨z, r⟩⟩
    have o3 := pNb_f (t := F0 99) (n := n) (lo := (rS2 (F0 99) n p l).1) (hi := 23) n3.2.2.1 n3.2.2.2 o4.1
    have o2 := pNb_f (t := F0 99) (n := n) (lo := 0) (hi := 23) n1.2.2.1 n1.2.2.2 o3.1
    have o1 := pNb_f (t := F0 99) (n := n) (lo := 0) (hi := l 1 - 1) hn.2.2.1 hn.2.2.2 o2.1
    have b1 : 0 ≤ (rS1 (F0 99) n p l).1 ∧ (rS1 (F0 99) n p l).1 ≤ l 1 - 1 := o1.2
    have b2 : 0 ≤ (rS2 (F0 99) n p l).1 ∧ (rS2 (F0 99) n p l).1 ≤ 23 := o2.2
    have b3 : (rS2 (F0 99) n p l).1 ≤ (rS3 (F0 99) n p l).1 ∧ (rS3 (F0 99) n p l).1 ≤ 23 := o3.2
    refine l_90_124 (F0 := F0) (l := l) (a := (rS2 (F0 99) n p l).1) (p := (rS5 (F0 99) n p l).2) ⟨b1.1, by omega⟩ b2.1 b3.2 (fun F' s' => good b F' s' n6) ((rS3 (F0 99) n p l).1 + 1 - (rS2 (F0 99) n p l).1).toNat _ F6 (by omega) (Int.le_refl _) ?_
    rw [wSn_0 (by omega)]
    exact s6
  intro K
  induction K with
  | zero =>
    intro x hx
    have x24 : x = 24 := by omega
    subst x24
    refine sg_90_39 (cd_f (by decide) ?_)
    refine c_73 s4 (fun b => cd_f (by decide) ?_) (fun b => cd_t rfl ?_)
    · have b : (rS3 (F0 99) n p l).2.2.1 = -1 := b
      refine cn_i (fun z => ?_) (fun z => ?_)
      · refine c_74 s4 (fun F5 s5 => last F5 _ ?_ s5 (PZn_fl n4))
        unfold rS4
        rw [if_pos ⟨b, z⟩]
      · refine last F4 _ ?_ s4 n4
        unfold rS4
        rw [if_neg (fun r => z r.2)]
    · refine last F4 _ ?_ s4 n4
      unfold rS4
      rw [if_neg (fun r => b r.1)]
  | succ K ih =>
    intro x hx
    have cb := snC_b (fun h => pSy l h ∨ (rS2 (F0 99) n p l).1 ≤ h ∧ h ≤ (rS3 (F0 99) n p l).1) x
    have es : snC (fun h => pSy l h ∨ (rS2 (F0 99) n p l).1 ≤ h ∧ h ≤ (rS3 (F0 99) n p l).1) (x + 1) = snC (fun h => pSy l h ∨ (rS2 (F0 99) n p l).1 ≤ h ∧ h ≤ (rS3 (F0 99) n p l).1) x + @ite _ (pSy l x ∨ (rS2 (F0 99) n p l).1 ≤ x ∧ (x : Int) ≤ (rS3 (F0 99) n p l).1) (Classical.propDecidable _) 1 0 := rfl
    have ih := ih (x + 1) (by omega)
    have f101 : F4 101 = l := by rw [s4.1 101 (by decide)]; exact wL_s
    obtain ⟨C, eC⟩ : ∃ C, C = snC (fun h => pSy l h ∨ (rS2 (F0 99) n p l).1 ≤ h ∧ h ≤ (rS3 (F0 99) n p l).1) x := ⟨_, rfl⟩
    rw [← eC] at cb es ⊢
    rw [es] at ih
    refine sg_90_39 (cd_t (by omega) ?_)
    rw [wr_id (a := C + 0) (by omega) (by omega), wr_id (a := C + 1) (by omega) (by omega), wr_id (a := (x : Int) + 1) (by omega) (by omega), show (x : Int) + 1 = ((x + 1 : Nat) : Int) by omega]
    refine c_89 (by omega) (by omega) (fun y => cd_f (by decide) ?_) (fun y => cd_t rfl ?_)
    · rw [f101] at y
      rw [if_pos (Or.inl y)] at ih
      exact ih
    · rw [f101] at y
      refine cn_i (fun z => ?_) (fun z => cn_i (fun z2 => ?_) (fun z2 => ?_))
      · rw [if_neg (fun r => r.elim y (fun q => by omega))] at ih
        exact ih
      · rw [if_neg (fun r => r.elim y (fun q => by omega))] at ih
        exact ih
      · rw [if_pos (Or.inr ⟨by omega, by omega⟩)] at ih
        exact ih
set_option maxRecDepth 100000 in
theorem c_90 {k : FS → FI → FJ → Prop} {F0 : FI} {n : Int} {p : Pz} {l : Nat → Int} {S : FS} {F : FI} {G : FJ} (hn : PZn F0 n p) (h : PZs (wL F0 l) F p) (hl : 0 ≤ l 1 ∧ l 1 ≤ 24)
    (bad : (rS5 (F0 99) n p l).2.2.1 ≠ -1 → ∀ F', PZs (wL F0 l) F' (rS5 (F0 99) n p l).2 → PZn F0 n (rS5 (F0 99) n p l).2 → k S F' G)
    (good : (rS5 (F0 99) n p l).2.2.1 = -1 → ∀ F', PZs (wL F0 (wSn l (rS1 (F0 99) n p l).1 (rS2 (F0 99) n p l).1 (rS3 (F0 99) n p l).1 (rS5 (F0 99) n p l).1)) F' (rS5 (F0 99) n p l).2 → PZn F0 n (rS5 (F0 99) n p l).2 → k S F' G) : calV 3 90 [.inr (.inr (.inl 97))] (mm S F G) k nof := by
  have e99 : wL F0 l 99 = F0 99 := wL_o (by decide)
  have e97 : wL F0 l 97 = F0 97 := wL_o (by decide)
  have up : ∀ q, PZn F0 n q → PZn (wL F0 l) n q := fun q a => ⟨by rw [e97]; exact a.1, a.2⟩
  have dn : ∀ q, PZn (wL F0 l) n q → PZn F0 n q := fun q a => ⟨by have := a.1; rw [e97] at this; exact this, a.2⟩
  refine sg_90_0 ?_
  refine c_87 (up _ hn) h (by decide) (by decide) (by rw [wL_s]; show 0 ≤ l 1 ∧ l 1 ≤ 1000; omega) (fun F1 s1 n1 => ?_)
  rw [e99, wL_s] at s1 n1 ⊢
  have s1 : PZs (wL F0 l) F1 (rS1 (F0 99) n p l).2 := s1
  have n1 := dn _ n1
  have n1 : PZn F0 n (rS1 (F0 99) n p l).2 := n1
  refine c_81 (up _ n1) s1 (fun F2 s2 n2 => ?_)
  rw [e99] at s2 n2 ⊢
  have s2 : PZs (wL F0 l) F2 (rS2 (F0 99) n p l).2 := s2
  have n2 := dn _ n2
  have n2 : PZn F0 n (rS2 (F0 99) n p l).2 := n2
  refine c_75 (up _ n2) s2 (fun F3 s3 n3 => ?_)
  rw [e99] at s3 n3
  have n3 := dn _ n3
  have f4 : F3 97 4 = pSp (F0 99) n (rS2 (F0 99) n p l).2.1 := s3.2.2.1
  rw [f4]
  refine c_81 (up _ n3) s3 (fun F4 s4 n4 => ?_)
  rw [e99] at s4 n4 ⊢
  have s4 : PZs (wL F0 l) F4 (rS3 (F0 99) n p l).2 := s4
  have n4 := dn _ n4
  have n4 : PZn F0 n (rS3 (F0 99) n p l).2 := n4
  exact l_90_39 hn n1 n3 n4 s4 hl (fun b F' s' n' => ⟨_, _, _, rfl, bad b F' s' n'⟩) (fun b F' s' n' => ⟨_, _, _, rfl, good b F' s' n'⟩) 24 0 rfl
