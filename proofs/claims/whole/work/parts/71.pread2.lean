theorem PZn_at {F0 : FI} {n : Int} {p : Pz} {a : Int} (h : PZn F0 n p) (h0 : 0 ≤ a) (h1 : a ≤ n) : PZn F0 n (pAt p a) := ⟨h.1, h.2.1, h0, h1⟩
theorem pFl_1 {p : Pz} {x1 x2 : Int} : (pFl p x1 x2).1 = p.1 := by
  unfold pFl
  split <;> rfl
theorem PZn_fl {F0 : FI} {n : Int} {p : Pz} {x1 x2 : Int} (h : PZn F0 n p) : PZn F0 n (pFl p x1 x2) := ⟨h.1, h.2.1, by rw [pFl_1]; exact h.2.2.1, by rw [pFl_1]; exact h.2.2.2⟩
theorem c_80 {k : FS → FI → FJ → Prop} {F0 : FI} {n : Int} {p : Pz} {S : FS} {F : FI} {G : FJ} (hn : PZn F0 n p) (h : PZs F0 F p) (hk : ∀ F', PZs F0 F' (pAt p (pLe (F0 99) n p.1)) → PZn F0 n (pAt p (pLe (F0 99) n p.1)) → k S F' G) : calV 1 80 [.inr (.inr (.inl 97))] (mm S F G) k nof := by
  obtain ⟨h1, h2, h3, h4⟩ := id hn
  have b := pLe_b (t := F0 99) (n := n) (n - p.1).toNat p.1 (by omega)
  exact l_80_0 h1 h2 (n - p.1).toNat F p (by omega) h3 h (fun F' a => ⟨_, _, _, rfl, hk F' a (PZn_at hn (by omega) b.2)⟩)
/-- digits -/
def pDs (t : Nat → Int) : Nat → Int → Int → Int × Int
  | 0, a, v => (a, v)
  | K + 1, a, v => if 48 ≤ t a.toNat ∧ t a.toNat ≤ 57 then pDs t K (a + 1) (if 9999 < v then 10000 else 10 * v + t a.toNat - 48) else (a, v)
theorem pDs_b {t : Nat → Int} : ∀ (K : Nat) (a v : Int), 0 ≤ v → v ≤ 99999 → (a ≤ (pDs t K a v).1 ∧ (pDs t K a v).1 ≤ a + K) ∧ 0 ≤ (pDs t K a v).2 ∧ (pDs t K a v).2 ≤ 99999 := by
  intro K
  induction K with
  | zero => intro a v h1 h2; exact ⟨⟨Int.le_refl _, by show a ≤ a + ((0 : Nat) : Int); omega⟩, h1, h2⟩
  | succ K ih =>
    intro a v h1 h2
    unfold pDs
    split
    · rename_i g
      have i := ih (a + 1) (if 9999 < v then 10000 else 10 * v + t a.toNat - 48) (by split <;> omega) (by split <;> omega)
      exact ⟨⟨by omega, by omega⟩, i.2⟩
    · exact ⟨⟨Int.le_refl _, by show a ≤ _; omega⟩, h1, h2⟩
/-- a number between two: what it is and how the reader stands behind -/
def pNb (t : Nat → Int) (n : Int) (p : Pz) (lo hi : Int) : Int × Pz :=
  if p.2.1 ≠ -1 then (0, p)
  else if ¬ (48 ≤ pBy t n (pSp t n p.1) ∧ pBy t n (pSp t n p.1) ≤ 57) then (0, pFl (pAt p (pSp t n p.1)) 1 (pSp t n p.1))
  else if (pDs t (n - pSp t n p.1).toNat (pSp t n p.1) 0).2 < lo ∨ hi < (pDs t (n - pSp t n p.1).toNat (pSp t n p.1) 0).2 then (0, pFl (pAt p (pDs t (n - pSp t n p.1).toNat (pSp t n p.1) 0).1) 2 (pSp t n p.1))
  else ((pDs t (n - pSp t n p.1).toNat (pSp t n p.1) 0).2, pAt p (pDs t (n - pSp t n p.1).toNat (pSp t n p.1) 0).1)
set_option maxRecDepth 100000 in
theorem l_81_41 {Q : Rs → Mm → Prop} {F0 : FI} {n lo hi x4 : Int} {S : FS} {G : FJ} (h3 : F0 97 3 = n) (hn : n ≤ 600) : ∀ (K : Nat) (F : FI) (p : Pz) (v : Int), (K : Int) = n - p.1 → 0 ≤ p.1 → 0 ≤ v → v ≤ 99999 → PZs F0 F p →
    (∀ F', ((pDs (F0 99) K p.1 v).2 < lo ∨ hi < (pDs (F0 99) K p.1 v).2) → PZs F0 F' (pFl (pAt p (pDs (F0 99) K p.1 v).1) 2 x4) → Q (.inl (some (.inl 0))) (mm S F' G)) →
    (∀ F', ¬ ((pDs (F0 99) K p.1 v).2 < lo ∨ hi < (pDs (F0 99) K p.1 v).2) → PZs F0 F' (pAt p (pDs (F0 99) K p.1 v).1) → Q (.inl (some (.inl (pDs (F0 99) K p.1 v).2))) (mm S F' G)) →
    wph 1 81 41 [.inr (.inr (.inl 97)), .inl lo, .inl hi, jk, .inl x4, .inl v] [] (mm S F G) (0, 0) Q := by
  intro K
  induction K with
  | zero =>
    intro F p v hK h0 v0 v1 h hb hg
    have e3 : F 97 3 = n := (h.2.1 3 (by decide) (by decide) (by decide)).trans h3
    have e4 := h.2.2.1
    have hb : ∀ F', (v < lo ∨ hi < v) → PZs F0 F' (pFl p 2 x4) → Q (.inl (some (.inl 0))) (mm S F' G) := hb
    have hg : ∀ F', ¬ (v < lo ∨ hi < v) → PZs F0 F' p → Q (.inl (some (.inl v))) (mm S F' G) := hg
    refine sg_81_41 ?_
    rw [e3, e4]
    refine cn_i (fun g => absurd g (by omega)) (fun _ => ?_)
    refine cn_i (fun g => c_74 h (fun F' a => hb F' (Or.inl g) a)) (fun g => cn_i (fun g2 => c_74 h (fun F' a => hb F' (Or.inr g2) a)) (fun g2 => hg F (by omega) h))
  | succ K ih =>
    intro F p v hK h0 v0 v1 h hb hg
    have e3 : F 97 3 = n := (h.2.1 3 (by decide) (by decide) (by decide)).trans h3
    have e4 := h.2.2.1
    have e99 : F 99 = F0 99 := h.1 99 (by decide)
    unfold pDs at hb hg
    refine sg_81_41 ?_
    rw [e3, e4, e99]
    refine cn_i (fun _ => ?_) (fun g => absurd (show p.1 < n by omega) g)
    refine ck_i (jb_i (by omega) (by omega)) ?_
    refine c_77 (fun g => cn_1 ?_) (fun g => cn_0 ?_)
    · have g' : 48 ≤ F0 99 p.1.toNat ∧ F0 99 p.1.toNat ≤ 57 := g
      rw [if_pos g'] at hb hg
      rw [e4, e99]
      rw [wr_id (a := p.1 + 1) (by omega) (by omega)]
      refine cn_i (fun z => ?_) (fun z => ?_)
      · rw [if_pos z] at hb hg
        exact ih _ (pAt p (p.1 + 1)) 10000 (by show (K : Int) = n - (p.1 + 1); omega) (by show 0 ≤ p.1 + 1; omega) (by decide) (by decide) (PZs_4 h) hb hg
      · rw [if_neg z] at hb hg
        rw [wr_id (a := 10 * v) (by omega) (by omega), wr_id (a := 10 * v + F0 99 p.1.toNat) (by omega) (by omega), wr_id (by omega) (by omega)]
        exact ck_i (jb_i (by omega) (by omega)) (ih _ (pAt p (p.1 + 1)) _ (by show (K : Int) = n - (p.1 + 1); omega) (by show 0 ≤ p.1 + 1; omega) (by omega) (by omega) (PZs_4 h) hb hg)
    · have g' : ¬ (48 ≤ F0 99 p.1.toNat ∧ F0 99 p.1.toNat ≤ 57) := g
      rw [if_neg g'] at hb hg
      have hb : ∀ F', (v < lo ∨ hi < v) → PZs F0 F' (pFl p 2 x4) → Q (.inl (some (.inl 0))) (mm S F' G) := hb
      have hg : ∀ F', ¬ (v < lo ∨ hi < v) → PZs F0 F' p → Q (.inl (some (.inl v))) (mm S F' G) := hg
      refine cn_i (fun g => c_74 h (fun F' a => hb F' (Or.inl g) a)) (fun g => cn_i (fun g2 => c_74 h (fun F' a => hb F' (Or.inr g2) a)) (fun g2 => hg F (by omega) h))
/-- a sign that must stand there -/
def pEx (t : Nat → Int) (n : Int) (p : Pz) (c : Int) : Pz :=
  if p.2.1 ≠ -1 then p else if pBy t n (pSp t n p.1) = c then pAt p (pSp t n p.1 + 1) else pFl (pAt p (pSp t n p.1)) 1 (pSp t n p.1)
theorem pBy_n {t : Nat → Int} {n a c : Int} (h : pBy t n a = c) (hc : c ≠ 0) : a < n := by
  unfold pBy at h
  split at h <;> omega
theorem c_82 {k : FS → FI → FJ → Prop} {F0 : FI} {n c : Int} {p : Pz} {S : FS} {F : FI} {G : FJ} (hc : c ≠ 0) (hn : PZn F0 n p) (h : PZs F0 F p) (hk : ∀ F', PZs F0 F' (pEx (F0 99) n p c) → PZn F0 n (pEx (F0 99) n p c) → k S F' G) : calV 1 82 [.inr (.inr (.inl 97)), .inl c] (mm S F G) k nof := by
  obtain ⟨h1, h2, h3, h4⟩ := id hn
  unfold pEx at hk
  refine sg_82_0 ?_
  refine c_73 h (fun b => cn_1 ?_) (fun b => cn_0 ?_)
  · rw [if_neg (fun r => r b)] at hk
    refine c_75 hn h (fun F1 s1 n1 => ?_)
    refine cn_i (fun g => ?_) (fun g => ?_)
    · rw [if_pos g] at hk
      refine c_73 s1 (fun _ => cn_1 ?_) (fun b2 => absurd b b2)
      rw [s1.2.2.1]
      have lt := pBy_n g hc
      have e : (pAt p (pSp (F0 99) n p.1)).1 = pSp (F0 99) n p.1 := rfl
      have b0 : 0 ≤ pSp (F0 99) n p.1 := n1.2.2.1
      rw [e, wr_id (by omega) (by omega)]
      exact ⟨_, _, _, rfl, hk _ (PZs_4 (p := pAt p (pSp (F0 99) n p.1)) s1) (PZn_at hn (by omega) (by omega))⟩
    · rw [if_neg g] at hk
      rw [s1.2.2.1]
      refine c_74 s1 (fun F2 s2 => ?_)
      have b0 : 0 ≤ pSp (F0 99) n p.1 := n1.2.2.1
      refine c_73 s2 (fun b2 => ?_) (fun _ => cn_0 ⟨_, _, _, rfl, hk F2 s2 (PZn_fl n1)⟩)
      unfold pFl at b2
      rw [if_pos (show (pAt p (pSp (F0 99) n p.1)).2.1 = -1 from b)] at b2
      have b2 : pSp (F0 99) n p.1 = -1 := b2
      omega
  · rw [if_pos b] at hk
    exact c_73 h (fun b2 => absurd b2 b) (fun _ => cn_0 ⟨_, _, _, rfl, hk F h hn⟩)
theorem c_81 {k : Int → FS → FI → FJ → Prop} {F0 : FI} {n lo hi : Int} {p : Pz} {S : FS} {F : FI} {G : FJ} (hn : PZn F0 n p) (h : PZs F0 F p) (hk : ∀ F', PZs F0 F' (pNb (F0 99) n p lo hi).2 → PZn F0 n (pNb (F0 99) n p lo hi).2 → k (pNb (F0 99) n p lo hi).1 S F' G) : calI 1 81 [.inr (.inr (.inl 97)), .inl lo, .inl hi] (mm S F G) k nof := by
  obtain ⟨h1, h2, h3, h4⟩ := id hn
  unfold pNb at hk
  refine sg_81_0 ?_
  refine c_73 h (fun b => cn_1 ?_) (fun b => cn_0 ?_)
  · rw [if_neg (fun r => r b)] at hk
    refine c_75 hn h (fun F1 s1 n1 => ?_)
    have b0 : 0 ≤ pSp (F0 99) n p.1 := n1.2.2.1
    have b1 : pSp (F0 99) n p.1 ≤ n := n1.2.2.2
    rw [s1.2.2.1]
    refine c_77 (fun g => cn_1 ?_) (fun g => cn_0 ?_)
    · rw [if_neg (fun r => r g)] at hk
      have db := pDs_b (t := F0 99) (n - pSp (F0 99) n p.1).toNat (pSp (F0 99) n p.1) 0 (by decide) (by decide)
      refine l_81_41 (p := pAt p (pSp (F0 99) n p.1)) h1 h2 (n - pSp (F0 99) n p.1).toNat F1 0 (by show _ = n - pSp (F0 99) n p.1; omega) b0 (by decide) (by decide) s1 (fun F' c a => ?_) (fun F' c a => ?_)
      · have c' : (pDs (F0 99) (n - pSp (F0 99) n p.1).toNat (pSp (F0 99) n p.1) 0).2 < lo ∨ hi < (pDs (F0 99) (n - pSp (F0 99) n p.1).toNat (pSp (F0 99) n p.1) 0).2 := c
        rw [if_pos c'] at hk
        exact ⟨_, _, _, rfl, hk F' a (PZn_fl (PZn_at hn (by omega) (by omega)))⟩
      · have c' : ¬ ((pDs (F0 99) (n - pSp (F0 99) n p.1).toNat (pSp (F0 99) n p.1) 0).2 < lo ∨ hi < (pDs (F0 99) (n - pSp (F0 99) n p.1).toNat (pSp (F0 99) n p.1) 0).2) := c
        rw [if_neg c'] at hk
        exact ⟨_, _, _, rfl, hk F' a (PZn_at hn (by omega) (by omega))⟩
    · have g' : ¬ (48 ≤ pBy (F0 99) n (pSp (F0 99) n p.1) ∧ pBy (F0 99) n (pSp (F0 99) n p.1) ≤ 57) := g
      rw [if_pos g'] at hk
      have e4 : F1 97 4 = pSp (F0 99) n p.1 := s1.2.2.1
      rw [e4]
      exact c_74 s1 (fun F2 s2 => ⟨_, _, _, rfl, hk F2 s2 (PZn_fl n1)⟩)
  · rw [if_pos b] at hk
    exact ⟨_, _, _, rfl, hk F h hn⟩
