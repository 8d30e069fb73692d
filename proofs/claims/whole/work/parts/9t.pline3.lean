/-! ===== the reference reads a line of any sort ===== -/
def isCl (w : Int) : Prop := w = tC 6 ∨ w = tC 7 ∨ w = tC 8 ∨ w = tC 9 ∨ w = tC 10 ∨ w = tC 11 ∨ w = tC 12 ∨ w = tC 13 ∨ w = tC 14
def flF (w : Int) (l : Nat → Int) : Prop := (w = tC 6 ∧ l 0 = 12) ∨ (w = tC 7 ∧ l 1 = 24) ∨ (w = tC 9 ∧ l 2 = 5)
theorem c_93 {k : Int → FS → FI → FJ → Prop} {w : Int} {S : FS} {F : FI} {G : FJ} (hT : TX F) (h1 : isCl w → k 1 S F G) (h0 : ¬ isCl w → k 0 S F G) : calI 1 93 [.inl w] (mm S F G) k nof := by
  unfold isCl at h1 h0
  refine sg_93_0 ?_
  refine c_79t (t := 6) rfl (by decide) (by decide) (by decide) hT (cn_i (fun z => ⟨_, _, _, rfl, h1 (by omega)⟩) (fun z6 => ?_))
  refine c_79t (t := 7) rfl (by decide) (by decide) (by decide) hT (cn_i (fun z => ⟨_, _, _, rfl, h1 (by omega)⟩) (fun z7 => ?_))
  refine c_79t (t := 8) rfl (by decide) (by decide) (by decide) hT (cn_i (fun z => ⟨_, _, _, rfl, h1 (by omega)⟩) (fun z8 => ?_))
  refine c_79t (t := 9) rfl (by decide) (by decide) (by decide) hT (cn_i (fun z => ⟨_, _, _, rfl, h1 (by omega)⟩) (fun z9 => ?_))
  refine c_79t (t := 10) rfl (by decide) (by decide) (by decide) hT (cn_i (fun z => ⟨_, _, _, rfl, h1 (by omega)⟩) (fun z10 => ?_))
  refine c_79t (t := 11) rfl (by decide) (by decide) (by decide) hT (cn_i (fun z => ⟨_, _, _, rfl, h1 (by omega)⟩) (fun z11 => ?_))
  refine c_79t (t := 12) rfl (by decide) (by decide) (by decide) hT (cn_i (fun z => ⟨_, _, _, rfl, h1 (by omega)⟩) (fun z12 => ?_))
  refine c_79t (t := 13) rfl (by decide) (by decide) (by decide) hT (cn_i (fun z => ⟨_, _, _, rfl, h1 (by omega)⟩) (fun z13 => ?_))
  exact c_79t (t := 14) rfl (by decide) (by decide) (by decide) hT (cn_i (fun z => ⟨_, _, _, rfl, h1 (by omega)⟩) (fun z14 => ⟨_, _, _, rfl, h0 (by omega)⟩))
theorem c_94 {k : Int → FS → FI → FJ → Prop} {w : Int} {l : Nat → Int} {S : FS} {F : FI} {G : FJ} (hT : TX F) (hl : F 101 = l) (h1 : flF w l → k 1 S F G) (h0 : ¬ flF w l → k 0 S F G) : calI 1 94 [.inr (.inr (.inl 97)), .inl w] (mm S F G) k nof := by
  unfold flF at h1 h0
  subst hl
  refine sg_94_0 ?_
  have last : ¬ (w = tC 6 ∧ F 101 0 = 12) → ¬ (w = tC 7 ∧ F 101 1 = 24) → cnd (decide (w = tC 9)) (cnd (decide (F 101 2 = 5)) (∃ S' F' G', mm S F G = mm S' F' G' ∧ k 1 S' F' G') (∃ S' F' G', mm S F G = mm S' F' G' ∧ k 0 S' F' G')) (∃ S' F' G', mm S F G = mm S' F' G' ∧ k 0 S' F' G') := by
    intro a b
    exact cn_i (fun z => cn_i (fun y => ⟨_, _, _, rfl, h1 (Or.inr (Or.inr ⟨z, y⟩))⟩) (fun y => ⟨_, _, _, rfl, h0 (by omega)⟩)) (fun z => ⟨_, _, _, rfl, h0 (by omega)⟩)
  refine c_79t (t := 6) rfl (by decide) (by decide) (by decide) hT (cn_i (fun z => cn_i (fun y => ⟨_, _, _, rfl, h1 (Or.inl ⟨z, y⟩)⟩) (fun y => ?_)) (fun z => ?_))
  · refine c_79t (t := 7) rfl (by decide) (by decide) (by decide) hT (cn_i (fun z2 => cn_i (fun y2 => ⟨_, _, _, rfl, h1 (Or.inr (Or.inl ⟨z2, y2⟩))⟩) (fun y2 => ?_)) (fun z2 => ?_))
    · exact c_79t (t := 9) rfl (by decide) (by decide) (by decide) hT (last (fun r => y r.2) (fun r => y2 r.2))
    · exact c_79t (t := 9) rfl (by decide) (by decide) (by decide) hT (last (fun r => y r.2) (fun r => z2 r.1))
  · refine c_79t (t := 7) rfl (by decide) (by decide) (by decide) hT (cn_i (fun z2 => cn_i (fun y2 => ⟨_, _, _, rfl, h1 (Or.inr (Or.inl ⟨z2, y2⟩))⟩) (fun y2 => ?_)) (fun z2 => ?_))
    · exact c_79t (t := 9) rfl (by decide) (by decide) (by decide) hT (last (fun r => z r.1) (fun r => y2 r.2))
    · exact c_79t (t := 9) rfl (by decide) (by decide) (by decide) hT (last (fun r => z r.1) (fun r => z2 r.1))
set_option maxRecDepth 100000 in
theorem c_95 {k : FS → FI → FJ → Prop} {F0 : FI} {n w : Int} {p : Pz} {l : Nat → Int} {S : FS} {F : FI} {G : FJ} (hT : TX F0) (hn : PZn F0 n p) (h : PZs (wL F0 l) F p) (hr : RV l)
    (hk : ∀ F', PZs (wL F0 (rC (F0 99) n w p l).2) F' (rC (F0 99) n w p l).1 → PZn F0 n (rC (F0 99) n w p l).1 → k S F' G) : calV 4 95 [.inr (.inr (.inl 97)), .inl w] (mm S F G) k nof := by
  have e99 : ∀ l', wL F0 l' 99 = F0 99 := fun l' => wL_o (by decide)
  have e97 : ∀ l', wL F0 l' 97 = F0 97 := fun l' => wL_o (by decide)
  have up : ∀ l' q, PZn F0 n q → PZn (wL F0 l') n q := fun l' q a => ⟨by rw [e97]; exact a.1, a.2⟩
  have dn : ∀ l' q, PZn (wL F0 l') n q → PZn F0 n q := fun l' q a => ⟨by have := a.1; rw [e97] at this; exact this, a.2⟩
  have tw : ∀ l', TX (wL F0 l') := fun l' t i a b => by
    rw [wL_o (by omega)]
    exact hT t i a b
  have tf : TX F := TX_p (tw l) h
  obtain ⟨⟨a1, a2, a3, a4, a5, a6, a7⟩, b1, b2, b3, b4, b5⟩ := hr
  unfold rC at hk
  -- a number of the land
  have one : ∀ (i : Nat) (lo hi : Int), i < 708 → (∀ F', PZs (wL F0 (rOn (F0 99) n p l i lo hi).2) F' (rOn (F0 99) n p l i lo hi).1 → PZn F0 n (rOn (F0 99) n p l i lo hi).1 → k S F' G) → ∀ kt : FS → FI → FJ → Prop, (∀ F', k S F' G → kt S F' G) → calV 2 92 [.inr (.inr (.inl 97)), .inl (i : Int), .inl lo, .inl hi] (mm S F G) kt nof := by
    intro i lo hi hi' hk kt hkt
    unfold rOn at hk
    refine c_92 (up l p hn) h (by omega) (by omega) (fun b F' s1 n1 => hkt F' ?_) (fun b v F' s1 n1 => hkt F' ?_)
    · rw [e99] at b s1 n1
      rw [if_pos b] at hk
      exact hk F' s1 (dn _ _ n1)
    · rw [e99] at b s1 n1
      rw [wL_u, show ((i : Int)).toNat = i by omega] at s1
      rw [if_neg (fun r => r b)] at hk
      exact hk F' s1 (dn _ _ n1)
  refine sg_95_0 ?_
  refine c_79t (t := 6) rfl (by decide) (by decide) (by decide) tf (cn_i (fun z => ?_) (fun z => ?_))
  · rw [if_pos z] at hk
    refine c_86 (tw l) (up l p hn) h (w := l 0) (by rw [wL_s]) a1.1 (by omega) (fun F' q p' eq ep s1 n1 => ⟨_, _, _, rfl, ?_⟩)
    rw [e99] at eq ep
    rw [wL_u, wL_u, eq] at s1
    have eq' : q = rPl (F0 99) n p := eq
    rw [eq'] at ep
    rw [ep] at s1 n1
    exact hk F' s1 (dn _ _ n1)
  rw [if_neg z] at hk
  refine c_79t (t := 7) rfl (by decide) (by decide) (by decide) tf (cn_i (fun z => ?_) (fun z => ?_))
  · rw [if_pos z] at hk
    refine c_88 (v1 := (rW1 (F0 99) n p l).1) (r1 := (rW1 (F0 99) n p l).2) (v3 := (rW3 (F0 99) n p l).1) (r3 := (rW3 (F0 99) n p l).2) (up l p hn) h (by rw [wL_s]; exact a1) (w := l 1) (by rw [wL_s]) a2.1 (by omega) (by rw [e99, wL_s]; rfl) (by rw [e99, wL_s]; rfl) (fun b F' s1 n1 => ⟨_, _, _, rfl, ?_⟩) (fun b e F' s1 n1 => ⟨_, _, _, rfl, ?_⟩) (fun b e v F' s1 n1 => ⟨_, _, _, rfl, ?_⟩)
    · rw [if_pos b] at hk
      exact hk F' s1 (dn _ _ n1)
    · rw [if_neg (fun r => r b), if_pos e] at hk
      rw [e99] at s1 n1
      exact hk F' s1 (dn _ _ n1)
    · rw [if_neg (fun r => r b), if_neg e] at hk
      rw [wL_u, wL_u, wL_u] at s1
      exact hk F' s1 (dn _ _ n1)
  rw [if_neg z] at hk
  refine c_79t (t := 8) rfl (by decide) (by decide) (by decide) tf (cn_i (fun z => ?_) (fun z => ?_))
  · rw [if_pos z] at hk
    refine c_90 hn h a2 (fun b F' s1 n1 => ⟨_, _, _, rfl, ?_⟩) (fun b F' s1 n1 => ⟨_, _, _, rfl, ?_⟩)
    · rw [if_pos b] at hk
      exact hk F' s1 n1
    · rw [if_neg (fun r => r b)] at hk
      exact hk F' s1 n1
  rw [if_neg z] at hk
  refine c_79t (t := 9) rfl (by decide) (by decide) (by decide) tf (cn_i (fun z => ?_) (fun z => ?_))
  · rw [if_pos z] at hk
    refine c_81 (up l p hn) h (fun F1 s1 n1 => ?_)
    rw [e99] at s1 n1 ⊢
    refine c_73 s1 (fun b => cd_f (by decide) ?_) (fun b => cd_t rfl ⟨_, _, _, rfl, ?_⟩)
    · rw [if_neg (fun r => r b)] at hk
      have f2 : F1 101 2 = l 2 := by rw [s1.1 101 (by decide), wL_s]
      have s2 := PZs_w (PZs_w s1 (a := 101) (i := (67 + l 2).toNat) (v := (pNb (F0 99) n p 0 9).1) (by decide)) (a := 101) (i := 2) (v := l 2 + 1) (by decide)
      rw [wL_u, wL_u] at s2
      rw [f2, wr_id (a := 67 + l 2) (by omega) (by omega), u2_n (by omega), f2, wr_id (a := l 2 + 1) (by omega) (by omega)]
      exact ck_i (jb_i (by omega) (by omega)) ⟨_, _, _, rfl, hk _ s2 (dn _ _ n1)⟩
    · rw [if_pos b] at hk
      exact hk F1 s1 (dn _ _ n1)
  rw [if_neg z] at hk
  refine c_79t (t := 10) rfl (by decide) (by decide) (by decide) tf (cn_i (fun z => ?_) (fun z => ?_))
  · rw [if_pos z] at hk
    refine c_91 (v1 := (rN1 (F0 99) n p l).1) (r1 := (rN1 (F0 99) n p l).2) (v2 := (rN2 (F0 99) n p l).1) (r2 := (rN2 (F0 99) n p l).2) (v3 := (rN3 (F0 99) n p l).1) (r3 := (rN3 (F0 99) n p l).2) (up l p hn) h (by rw [wL_s]; exact ⟨a3, a1⟩) (by rw [e99, wL_s]; rfl) (by rw [e99, wL_s]; rfl) (by rw [e99]; rfl) (fun b F' s1 n1 => ⟨_, _, _, rfl, ?_⟩) (fun b v F' s1 n1 => ⟨_, _, _, rfl, ?_⟩)
    · rw [if_pos b] at hk
      exact hk F' s1 (dn _ _ n1)
    · rw [if_neg (fun r => r b)] at hk
      rw [wL_u] at s1
      exact hk F' s1 (dn _ _ n1)
  rw [if_neg z] at hk
  refine c_79t (t := 11) rfl (by decide) (by decide) (by decide) tf (cn_i (fun z => ?_) (fun z => ?_))
  · rw [if_pos z] at hk
    exact one 3 1 24 (by decide) hk _ (fun F' q => ⟨_, _, _, rfl, q⟩)
  rw [if_neg z] at hk
  refine c_79t (t := 12) rfl (by decide) (by decide) (by decide) tf (cn_i (fun z => ?_) (fun z => ?_))
  · rw [if_pos z] at hk
    exact one 4 1 12 (by decide) hk _ (fun F' q => ⟨_, _, _, rfl, q⟩)
  rw [if_neg z] at hk
  refine c_79t (t := 13) rfl (by decide) (by decide) (by decide) tf (cn_i (fun z => ?_) (fun z => ?_))
  · rw [if_pos z] at hk
    exact one 5 0 99 (by decide) hk _ (fun F' q => ⟨_, _, _, rfl, q⟩)
  rw [if_neg z] at hk
  unfold rOn at hk
  refine c_87 (up l p hn) h (by decide) (by decide) (by rw [wL_s]; show 0 ≤ l 0 ∧ l 0 ≤ 1000; omega) (fun F1 s1 n1 => ?_)
  rw [e99, wL_s, show l ((0 : Int)).toNat = l 0 from rfl] at s1 n1 ⊢
  refine c_73 s1 (fun b => cd_f (by decide) ⟨_, _, _, rfl, ?_⟩) (fun b => cd_t rfl ⟨_, _, _, rfl, ?_⟩)
  · rw [if_neg (fun r => r b)] at hk
    have s2 := PZs_w s1 (a := 101) (i := 6) (v := (pNb (F0 99) n p 0 (l 0 - 1)).1) (by decide)
    rw [wL_u] at s2
    exact hk _ s2 (dn _ _ n1)
  · rw [if_pos b] at hk
    exact hk F1 s1 (dn _ _ n1)
/-- a line keeps the land as it must be -/
theorem rC_RV {t : Nat → Int} {n w : Int} {p : Pz} {l : Nat → Int} (hr : RV l) (hw : isCl w) (hf : ¬ flF w l) (hp0 : 0 ≤ p.1) (hp1 : p.1 ≤ n) (h : (rC t n w p l).1.2.1 = -1) : RV (rC t n w p l).2 := by
  obtain ⟨⟨a1, a2, a3, a4, a5, a6, a7⟩, b1, b2, b3, b4, b5⟩ := id hr
  have fx : ∀ q lo hi, 0 ≤ q.1 → q.1 ≤ n → 0 ≤ (pNb t n q lo hi).2.1 ∧ (pNb t n q lo hi).2.1 ≤ n := fun q lo hi q0 q1 => by
    have sb := pSp_b (t := t) (n := n) (n - q.1).toNat q.1 (by omega)
    have db := pDs_b (t := t) (n - pSp t n q.1).toNat (pSp t n q.1) 0 (by decide) (by decide)
    unfold pNb
    split
    · exact ⟨q0, q1⟩
    split
    · rw [pFl_1]
      exact ⟨by show 0 ≤ pSp t n q.1; omega, sb.2⟩
    split
    · rw [pFl_1]
      exact ⟨by show 0 ≤ (pDs t _ _ 0).1; omega, by show (pDs t _ _ 0).1 ≤ n; omega⟩
    · exact ⟨by show 0 ≤ (pDs t _ _ 0).1; omega, by show (pDs t _ _ 0).1 ≤ n; omega⟩
  unfold flF at hf
  unfold rC at h ⊢
  have one : ∀ (i : Nat) (lo hi : Int), (∀ v, lo ≤ v → v ≤ hi → RV (uL l i v)) → (rOn t n p l i lo hi).1.2.1 = -1 → RV (rOn t n p l i lo hi).2 := by
    intro i lo hi hu h
    unfold rOn at h ⊢
    by_cases b : (pNb t n p lo hi).2.2.1 ≠ -1
    · rw [if_pos b] at h
      exact absurd h b
    · rw [if_neg b] at h ⊢
      have o := pNb_f hp0 hp1 h
      exact hu _ o.2.1 o.2.2
  by_cases z6 : w = tC 6
  · rw [if_pos z6] at h ⊢
    exact RV_0 hr (by omega)
  rw [if_neg z6] at h ⊢
  by_cases z7 : w = tC 7
  · rw [if_pos z7] at h ⊢
    by_cases b : (rW3 t n p l).2.2.1 ≠ -1
    · rw [if_pos b] at h
      exact absurd h b
    rw [if_neg b] at h ⊢
    by_cases e : (rW1 t n p l).1 = (rW3 t n p l).1
    · rw [if_pos e] at h ⊢
      exact hr
    · rw [if_neg e] at h ⊢
      have w1 := fx p 0 (l 0 - 1) hp0 hp1
      have sb := pSp_b (t := t) (n := n) (n - (rW1 t n p l).2.1).toNat (rW1 t n p l).2.1 (by have : (rW1 t n p l).2.1 ≤ n := w1.2; omega)
      have o3 := pNb_f (t := t) (n := n) (lo := 0) (hi := l 0 - 1) (p := pAt (rW1 t n p l).2 (pSp t n (rW1 t n p l).2.1)) (by have : 0 ≤ (rW1 t n p l).2.1 := w1.1; show 0 ≤ pSp t n (rW1 t n p l).2.1; omega) sb.2 h
      have o1 := pNb_f (t := t) (n := n) (lo := 0) (hi := l 0 - 1) hp0 hp1 o3.1
      have v1 : 0 ≤ (rW1 t n p l).1 ∧ (rW1 t n p l).1 ≤ l 0 - 1 := o1.2
      have v3 : 0 ≤ (rW3 t n p l).1 ∧ (rW3 t n p l).1 ≤ l 0 - 1 := o3.2
      exact RV_1 hr (by omega) (by omega) (by omega) e
  rw [if_neg z7] at h ⊢
  by_cases z8 : w = tC 8
  · rw [if_pos z8] at h ⊢
    by_cases b : (rS5 t n p l).2.2.1 ≠ -1
    · rw [if_pos b] at h
      exact absurd h b
    rw [if_neg b] at h ⊢
    have w1 := fx p 0 (l 1 - 1) hp0 hp1
    have w2 := fx (rS1 t n p l).2 0 23 w1.1 w1.2
    have sb := pSp_b (t := t) (n := n) (n - (rS2 t n p l).2.1).toNat (rS2 t n p l).2.1 (by have : (rS2 t n p l).2.1 ≤ n := w2.2; omega)
    have q0 : 0 ≤ (rS2 t n p l).2.1 := w2.1
    have w3 := fx (pAt (rS2 t n p l).2 (pSp t n (rS2 t n p l).2.1)) (rS2 t n p l).1 23 (by show 0 ≤ pSp t n _; omega) sb.2
    have w3' : 0 ≤ (rS3 t n p l).2.1 ∧ (rS3 t n p l).2.1 ≤ n := w3
    have w4 : 0 ≤ (rS4 t n p l).1 ∧ (rS4 t n p l).1 ≤ n := by
      unfold rS4
      split
      · rw [pFl_1]; exact w3'
      · exact w3'
    have o5 := pNb_f (t := t) (n := n) (lo := 1) (hi := 16) (p := rS4 t n p l) w4.1 w4.2 h
    have o4 : (rS3 t n p l).2.2.1 = -1 ∧ ¬ 10 < rSc t n p l := by
      have z := o5.1
      unfold rS4 at z
      split at z
      · rename_i c
        unfold pFl at z
        rw [if_pos c.1] at z
        have z : pSp t n (rS2 t n p l).2.1 = -1 := z
        omega
      · rename_i c
        exact ⟨z, fun r => c ⟨z, r⟩⟩
    have o3 := pNb_f (t := t) (n := n) (lo := (rS2 t n p l).1) (hi := 23) (p := pAt (rS2 t n p l).2 (pSp t n (rS2 t n p l).2.1)) (by show 0 ≤ pSp t n _; omega) sb.2 o4.1
    have o2 := pNb_f (t := t) (n := n) (lo := 0) (hi := 23) (p := (rS1 t n p l).2) w1.1 w1.2 o3.1
    have o1 := pNb_f (t := t) (n := n) (lo := 0) (hi := l 1 - 1) hp0 hp1 o2.1
    have v1 : 0 ≤ (rS1 t n p l).1 ∧ (rS1 t n p l).1 ≤ l 1 - 1 := o1.2
    have v2 : 0 ≤ (rS2 t n p l).1 ∧ (rS2 t n p l).1 ≤ 23 := o2.2
    have v3 : (rS2 t n p l).1 ≤ (rS3 t n p l).1 ∧ (rS3 t n p l).1 ≤ 23 := o3.2
    have v5 : 1 ≤ (rS5 t n p l).1 ∧ (rS5 t n p l).1 ≤ 16 := o5.2
    exact (RV_s hr ⟨v1.1, by omega⟩ ⟨v2.1, v3.1⟩ v3.2 v5 (by have := o4.2; unfold rSc at this; omega)).1
  rw [if_neg z8] at h ⊢
  by_cases z9 : w = tC 9
  · rw [if_pos z9] at h ⊢
    by_cases b : (pNb t n p 0 9).2.2.1 ≠ -1
    · rw [if_pos b] at h
      exact absurd h b
    rw [if_neg b] at h ⊢
    have o := pNb_f hp0 hp1 h
    have lt : l 2 < 5 := by omega
    have r1 : RV (uL l (67 + l 2).toNat (pNb t n p 0 9).1) := RV_u hr (by omega) (fun q => by omega) (fun q => by omega) (fun q => by omega) (fun q => by omega) (fun q => by omega) (fun q => by omega) (fun q => by omega) (fun q r => by omega) (fun _ _ => o.2) (fun q r => by omega)
    exact RV_u r1 (by decide) (fun q => by omega) (fun q => by omega) (fun _ => by omega) (fun q => by omega) (fun q => by omega) (fun q => by omega) (fun q => by omega) (fun q r => by omega) (fun q r => by omega) (fun q r => by omega)
  rw [if_neg z9] at h ⊢
  by_cases z10 : w = tC 10
  · rw [if_pos z10] at h ⊢
    by_cases b : (rN3 t n p l).2.2.1 ≠ -1
    · rw [if_pos b] at h
      exact absurd h b
    rw [if_neg b] at h ⊢
    have w1 := fx p 0 (l 2 - 1) hp0 hp1
    have w2 := fx (rN1 t n p l).2 0 (l 0 - 1) w1.1 w1.2
    have o3 := pNb_f (t := t) (n := n) (lo := 0) (hi := 99) (p := (rN2 t n p l).2) w2.1 w2.2 h
    have o2 := pNb_f (t := t) (n := n) (lo := 0) (hi := l 0 - 1) (p := (rN1 t n p l).2) w1.1 w1.2 o3.1
    have o1 := pNb_f (t := t) (n := n) (lo := 0) (hi := l 2 - 1) hp0 hp1 o2.1
    have v1 : 0 ≤ (rN1 t n p l).1 ∧ (rN1 t n p l).1 ≤ l 2 - 1 := o1.2
    have v2 : 0 ≤ (rN2 t n p l).1 ∧ (rN2 t n p l).1 ≤ l 0 - 1 := o2.2
    have v3 : 0 ≤ (rN3 t n p l).1 ∧ (rN3 t n p l).1 ≤ 99 := o3.2
    exact RV_u hr (by omega) (fun q => by omega) (fun q => by omega) (fun q => by omega) (fun q => by omega) (fun q => by omega) (fun q => by omega) (fun q => by omega) (fun q r => by omega) (fun q r => by omega) (fun _ _ => v3)
  rw [if_neg z10] at h ⊢
  have rest : ∀ (i : Nat) (lo hi : Int), 3 ≤ i → i ≤ 6 → (∀ v, lo ≤ v → v ≤ hi → (i = 3 → 1 ≤ v ∧ v ≤ 24) ∧ (i = 4 → 1 ≤ v ∧ v ≤ 12) ∧ (i = 5 → 0 ≤ v ∧ v ≤ 99) ∧ (i = 6 → 0 ≤ v ∧ v < l 0)) → (rOn t n p l i lo hi).1.2.1 = -1 → RV (rOn t n p l i lo hi).2 := by
    intro i lo hi i0 i1 hb h
    refine one i lo hi (fun v v0 v1 => ?_) h
    obtain ⟨x3, x4, x5, x6⟩ := hb v v0 v1
    exact RV_u hr (by omega) (fun q => by omega) (fun q => by omega) (fun q => by omega) x3 x4 x5 x6 (fun q r => by omega) (fun q r => by omega) (fun q r => by omega)
  by_cases z11 : w = tC 11
  · rw [if_pos z11] at h ⊢
    exact rest 3 1 24 (by decide) (by decide) (fun v a b => ⟨fun _ => ⟨a, b⟩, fun q => by omega, fun q => by omega, fun q => by omega⟩) h
  rw [if_neg z11] at h ⊢
  by_cases z12 : w = tC 12
  · rw [if_pos z12] at h ⊢
    exact rest 4 1 12 (by decide) (by decide) (fun v a b => ⟨fun q => by omega, fun _ => ⟨a, b⟩, fun q => by omega, fun q => by omega⟩) h
  rw [if_neg z12] at h ⊢
  by_cases z13 : w = tC 13
  · rw [if_pos z13] at h ⊢
    exact rest 5 0 99 (by decide) (by decide) (fun v a b => ⟨fun q => by omega, fun q => by omega, fun _ => ⟨a, b⟩, fun q => by omega⟩) h
  rw [if_neg z13] at h ⊢
  exact rest 6 0 (l 0 - 1) (by decide) (by decide) (fun v a b => ⟨fun q => by omega, fun q => by omega, fun q => by omega, fun _ => ⟨a, by omega⟩⟩) h
