theorem PZs_w {F0 F : FI} {p : Pz} {a i : Nat} {v : Int} (h : PZs F0 F p) (ha : a ≠ 97) : PZs (u2 F0 a i v) (u2 F a i v) p := by
  obtain ⟨h1, h2, h3, h4, h5⟩ := h
  refine ⟨fun x q => ?_, fun j j1 j2 j3 => ?_, ?_, ?_, ?_⟩
  · by_cases e : x = a
    · subst e
      funext b
      rw [u2_k, u2_k, h1 x q]
    · rw [u2_o e, u2_o e]; exact h1 x q
  · rw [u2_o (Ne.symm ha), u2_o (Ne.symm ha)]; exact h2 j j1 j2 j3
  · rw [u2_o (Ne.symm ha)]; exact h3
  · rw [u2_o (Ne.symm ha)]; exact h4
  · rw [u2_o (Ne.symm ha)]; exact h5
theorem PZn_w {F0 : FI} {n : Int} {p : Pz} {a i : Nat} {v : Int} (h : PZn F0 n p) (ha : a ≠ 97) : PZn (u2 F0 a i v) n p := ⟨by rw [u2_o (Ne.symm ha)]; exact h.1, h.2⟩
theorem pNb_ok {t : Nat → Int} {n lo hi : Int} {p : Pz} (h0 : 0 ≤ pSp t n p.1) (h : (pNb t n p lo hi).2.2.1 = -1) : p.2.1 = -1 ∧ lo ≤ (pNb t n p lo hi).1 ∧ (pNb t n p lo hi).1 ≤ hi := by
  by_cases b : p.2.1 = -1
  · refine ⟨b, ?_⟩
    unfold pNb at h ⊢
    rw [if_neg (fun r => r b)] at h ⊢
    by_cases d : 48 ≤ pBy t n (pSp t n p.1) ∧ pBy t n (pSp t n p.1) ≤ 57
    · rw [if_neg (fun r => r d)] at h ⊢
      by_cases g : (pDs t (n - pSp t n p.1).toNat (pSp t n p.1) 0).2 < lo ∨ hi < (pDs t (n - pSp t n p.1).toNat (pSp t n p.1) 0).2
      · rw [if_pos g] at h
        unfold pFl at h
        rw [if_pos (show (pAt p (pDs t (n - pSp t n p.1).toNat (pSp t n p.1) 0).1).2.1 = -1 from b)] at h
        have h : pSp t n p.1 = -1 := h
        omega
      · rw [if_neg g]
        exact ⟨by show lo ≤ (pDs t (n - pSp t n p.1).toNat (pSp t n p.1) 0).2; omega, by show (pDs t (n - pSp t n p.1).toNat (pSp t n p.1) 0).2 ≤ hi; omega⟩
    · rw [if_pos d] at h
      unfold pFl at h
      rw [if_pos (show (pAt p (pSp t n p.1)).2.1 = -1 from b)] at h
      have h : pSp t n p.1 = -1 := h
      omega
  · exfalso
    unfold pNb at h
    rw [if_pos b] at h
    exact b h
theorem pSp_0 {F0 : FI} {n : Int} {p : Pz} (t : Nat → Int) (h : PZn F0 n p) : 0 ≤ pSp t n p.1 := by
  have := (pSp_b (t := t) (n := n) (n - p.1).toNat p.1 (by have := h.2.2.2; omega)).1
  have := h.2.2.1
  omega
/-- a number below what is told already -/
theorem c_87 {k : Int → FS → FI → FJ → Prop} {F0 : FI} {n x1 : Int} {p : Pz} {S : FS} {F : FI} {G : FJ} (hn : PZn F0 n p) (h : PZs F0 F p) (h0 : 0 ≤ x1) (h1 : x1 < 708) (hb : 0 ≤ F0 101 x1.toNat ∧ F0 101 x1.toNat ≤ 1000) (hk : ∀ F', PZs F0 F' (pNb (F0 99) n p 0 (F0 101 x1.toNat - 1)).2 → PZn F0 n (pNb (F0 99) n p 0 (F0 101 x1.toNat - 1)).2 → k (pNb (F0 99) n p 0 (F0 101 x1.toNat - 1)).1 S F' G) : calI 2 87 [.inr (.inr (.inl 97)), .inl x1] (mm S F G) k nof := by
  refine sg_87_0 ?_
  rw [h.1 101 (by decide), wr_id (by omega) (by omega)]
  exact ck_i (jb_i h0 (by omega)) (c_81 hn h (fun F' a b => ⟨_, _, _, rfl, hk F' a b⟩))
/-- what a line tells of a wish: place and store of who -/
theorem c_91 {k : FS → FI → FJ → Prop} {F0 : FI} {n : Int} {p r1 r2 r3 : Pz} {v1 v2 v3 : Int} {S : FS} {F : FI} {G : FJ} (hn : PZn F0 n p) (h : PZs F0 F p) (hb : (0 ≤ F0 101 2 ∧ F0 101 2 ≤ 5) ∧ 0 ≤ F0 101 0 ∧ F0 101 0 ≤ 12)
    (e1 : (v1, r1) = pNb (F0 99) n p 0 (F0 101 2 - 1)) (e2 : (v2, r2) = pNb (F0 99) n r1 0 (F0 101 0 - 1)) (e3 : (v3, r3) = pNb (F0 99) n r2 0 99)
    (bad : r3.2.1 ≠ -1 → ∀ F', PZs F0 F' r3 → PZn F0 n r3 → k S F' G) (good : r3.2.1 = -1 → (0 ≤ v1 ∧ v1 < F0 101 2) ∧ (0 ≤ v2 ∧ v2 < F0 101 0) ∧ 0 ≤ v3 ∧ v3 ≤ 99 → ∀ F', PZs (u2 F0 101 (72 + 12 * v1 + v2).toNat v3) F' r3 → PZn F0 n r3 → k S F' G) : calV 3 91 [.inr (.inr (.inl 97))] (mm S F G) k nof := by
  refine sg_91_0 ?_
  refine c_87 hn h (by decide) (by decide) (by show 0 ≤ F0 101 2 ∧ F0 101 2 ≤ 1000; omega) (fun F1 s1 n1 => ?_)
  rw [show F0 101 ((2 : Int)).toNat = F0 101 2 from rfl, ← e1] at s1 n1 ⊢
  refine c_87 n1 s1 (by decide) (by decide) (by show 0 ≤ F0 101 0 ∧ F0 101 0 ≤ 1000; omega) (fun F2 s2 n2 => ?_)
  rw [show F0 101 ((0 : Int)).toNat = F0 101 0 from rfl, ← e2] at s2 n2 ⊢
  refine c_81 n2 s2 (fun F3 s3 n3 => ?_)
  rw [← e3] at s3 n3 ⊢
  refine c_73 s3 (fun b => cn_1 ?_) (fun b => cn_0 ⟨_, _, _, rfl, bad b F3 s3 n3⟩)
  have o3 := pNb_ok (lo := 0) (hi := 99) (pSp_0 (F0 99) n2) (by rw [← e3]; exact b)
  rw [← e3] at o3
  have o2 := pNb_ok (lo := 0) (hi := F0 101 0 - 1) (pSp_0 (F0 99) n1) (by rw [← e2]; exact o3.1)
  rw [← e2] at o2
  have o1 := pNb_ok (lo := 0) (hi := F0 101 2 - 1) (pSp_0 (F0 99) hn) (by rw [← e1]; exact o2.1)
  rw [← e1] at o1
  have a1 : 0 ≤ v1 ∧ v1 ≤ F0 101 2 - 1 := o1.2
  have a2 : 0 ≤ v2 ∧ v2 ≤ F0 101 0 - 1 := o2.2
  have a3 : 0 ≤ v3 ∧ v3 ≤ 99 := o3.2
  show chk (ib (wr (wr (72 + wr (12 * v1)) + v2)) 708) _
  rw [wr_id (a := 12 * v1) (by omega) (by omega), wr_id (a := 72 + 12 * v1) (by omega) (by omega), wr_id (by omega) (by omega)]
  exact ck_i (jb_i (by omega) (by omega)) ⟨_, _, _, rfl, good b ⟨by omega, by omega, a3⟩ _ (PZs_w s3 (by decide)) n3⟩
