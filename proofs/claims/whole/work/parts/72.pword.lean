/-- a word's code, a letter five bits; six at the most -/
def pWs (t : Nat → Int) : Nat → Int → Int → Int → Int × Int
  | 0, _, c, m => (c, m)
  | K + 1, a, c, m => if 97 ≤ t a.toNat ∧ t a.toNat ≤ 122 then pWs t K (a + 1) (if m < 6 then orr (shl c 5) (wr (t a.toNat - 96)) else 0) (m + 1) else (c, m)
def pWd (t : Nat → Int) (n a : Int) : Int := if 6 < (pWs t (n - a).toNat a 0 0).2 then 0 else (pWs t (n - a).toNat a 0 0).1
theorem l_78_14 {Q : Rs → Mm → Prop} {F0 : FI} {n : Int} {p : Pz} {S : FS} {F : FI} {G : FJ} (h3 : F0 97 3 = n) (hn : n ≤ 600) (h : PZs F0 F p) : ∀ (K : Nat) (a c m : Int), (K : Int) = n - a → 0 ≤ a → 0 ≤ m → m ≤ a →
    Q (.inl (some (.inl (if 6 < (pWs (F0 99) K a c m).2 then 0 else (pWs (F0 99) K a c m).1)))) (mm S F G) → wph 1 78 14 [.inr (.inr (.inl 97)), .inl c, .inl m, .inl a] [] (mm S F G) (0, 0) Q := by
  have e3 : F 97 3 = n := (h.2.1 3 (by decide) (by decide) (by decide)).trans h3
  have e99 : F 99 = F0 99 := h.1 99 (by decide)
  intro K
  induction K with
  | zero =>
    intro a c m hK h0 m0 m1 hq
    have hq : Q (.inl (some (.inl (if 6 < m then 0 else c)))) (mm S F G) := hq
    refine sg_78_14 ?_
    rw [e3]
    refine cn_i (fun g => absurd g (by omega)) (fun _ => cn_i (fun g => ?_) (fun g => ?_))
    · rw [if_pos g] at hq; exact hq
    · rw [if_neg g] at hq; exact hq
  | succ K ih =>
    intro a c m hK h0 m0 m1 hq
    unfold pWs at hq
    refine sg_78_14 ?_
    rw [e3, e99]
    refine cn_i (fun _ => ?_) (fun g => absurd (show a < n by omega) g)
    refine ck_i (jb_i (by omega) (by omega)) ?_
    rw [wr_id (a := m + 1) (by omega) (by omega), wr_id (a := a + 1) (by omega) (by omega)]
    refine c_76 (fun g => cn_1 ?_) (fun g => cn_0 ?_)
    · rw [if_pos (show 97 ≤ F0 99 a.toNat ∧ F0 99 a.toNat ≤ 122 from g)] at hq
      refine cn_i (fun z => ?_) (fun z => ?_)
      · rw [if_pos z] at hq
        rw [e99]
        exact ck_i (jb_i (by omega) (by omega)) (ih (a + 1) _ (m + 1) (by omega) (by omega) (by omega) (by omega) hq)
      · rw [if_neg z] at hq
        exact ih (a + 1) _ (m + 1) (by omega) (by omega) (by omega) (by omega) hq
    · rw [if_neg (show ¬ (97 ≤ F0 99 a.toNat ∧ F0 99 a.toNat ≤ 122) from g)] at hq
      have hq : Q (.inl (some (.inl (if 6 < m then 0 else c)))) (mm S F G) := hq
      refine cn_i (fun g => ?_) (fun g => ?_)
      · rw [if_pos g] at hq; exact hq
      · rw [if_neg g] at hq; exact hq
theorem c_78 {k : Int → FS → FI → FJ → Prop} {F0 : FI} {n : Int} {p : Pz} {S : FS} {F : FI} {G : FJ} (hn : PZn F0 n p) (h : PZs F0 F p) (hk : ∀ F', PZs F0 F' (pAt p (pSp (F0 99) n p.1)) → PZn F0 n (pAt p (pSp (F0 99) n p.1)) → k (pWd (F0 99) n (pSp (F0 99) n p.1)) S F' G) : calI 1 78 [.inr (.inr (.inl 97))] (mm S F G) k nof := by
  refine sg_78_0 ?_
  refine c_75 hn h (fun F1 s1 n1 => ?_)
  have b0 : 0 ≤ pSp (F0 99) n p.1 := n1.2.2.1
  have b1 : pSp (F0 99) n p.1 ≤ n := n1.2.2.2
  have e4 : F1 97 4 = pSp (F0 99) n p.1 := s1.2.2.1
  rw [e4]
  exact l_78_14 hn.1 hn.2.1 s1 (n - pSp (F0 99) n p.1).toNat _ 0 0 (by omega) b0 (by decide) b0 ⟨_, _, _, rfl, hk F1 s1 n1⟩
/-- a text's code -/
def pTs (f : Nat → Int) : Nat → Nat → Int → Int
  | 0, _, c => c
  | K + 1, i, c => pTs f K (i + 1) (orr (shl c 5) (wr (f i - 96)))
theorem l_79_4 {Q : Rs → Mm → Prop} {r0 : Nat} {n : Nat} {S : FS} {F : FI} {G : FJ} (k1 : (kk r0).1 = 7) (k2 : (kk r0).2 = n) (hn : n ≤ 600) : ∀ (K i : Nat) (c : Int), K + i = n → Q (.inl (some (.inl (pTs (F r0) K i c)))) (mm S F G) → wph 0 79 4 [.inr (.inr (.inl r0)), .inl c, .inl (i : Int)] [] (mm S F G) (0, 0) Q := by
  intro K
  induction K with
  | zero =>
    intro i c hK hq
    refine sg_79_4 ?_
    rw [k1, k2]
    exact ck_i rfl (cn_i (fun g => absurd g (by omega)) (fun _ => hq))
  | succ K ih =>
    intro i c hK hq
    refine sg_79_4 ?_
    rw [k1, k2, wr_id (a := (i : Int) + 1) (by omega) (by omega), show ((i : Int)).toNat = i by omega]
    refine ck_i rfl (cn_i (fun _ => ck_i rfl (ck_i (jb_i (by omega) (by omega)) ?_)) (fun g => absurd (show (i : Int) < (n : Int) by omega) g))
    exact ih (i + 1) _ (by omega) hq
theorem c_79 {k : Int → FS → FI → FJ → Prop} {r0 : Nat} {n : Nat} {S : FS} {F : FI} {G : FJ} (k1 : (kk r0).1 = 7) (k2 : (kk r0).2 = n) (hn : n ≤ 600) (hk : k (pTs (F r0) n 0 0) S F G) : calI 0 79 [.inr (.inr (.inl r0))] (mm S F G) k nof := by
  refine sg_79_0 ?_
  exact l_79_4 k1 k2 hn n 0 0 (by omega) ⟨_, _, _, rfl, hk⟩
/-- reading begins -/
def pZ0 (F : FI) (n : Int) : FI := u2 (u2 (u2 (u2 (u2 (u2 F 97 2 0) 97 8 (-1)) 97 3 n) 97 4 0) 97 5 (-1)) 97 7 0
theorem c_84 {k : FS → FI → FJ → Prop} {n : Int} {S : FS} {F : FI} {G : FJ} (h0 : 0 ≤ n) (h1 : n ≤ 600) (hk : PZs (pZ0 F n) (pZ0 F n) (0, -1, F 97 6) → PZn (pZ0 F n) n (0, -1, F 97 6) → k S (pZ0 F n) G) : calV 0 84 [.inr (.inr (.inl 97)), .inl n] (mm S F G) k nof := by
  refine sg_84_0 ?_
  refine ⟨_, _, _, rfl, hk ⟨fun _ _ => rfl, fun _ _ _ _ => rfl, ?_, ?_, ?_⟩ ⟨?_, h1, Int.le_refl _, h0⟩⟩
  · unfold pZ0; rw [u2_n (by decide), u2_n (by decide), u2_s]
  · unfold pZ0; rw [u2_n (by decide), u2_s]
  · unfold pZ0; rw [u2_n (by decide), u2_n (by decide), u2_n (by decide), u2_n (by decide), u2_n (by decide), u2_n (by decide)]
  · unfold pZ0; rw [u2_n (by decide), u2_n (by decide), u2_n (by decide), u2_s]
