/-- what a line tells of a number of the land -/
theorem c_92 {k : FS → FI → FJ → Prop} {F0 : FI} {n x1 lo hi : Int} {p : Pz} {S : FS} {F : FI} {G : FJ} (hn : PZn F0 n p) (h : PZs F0 F p) (h0 : 0 ≤ x1) (h1 : x1 < 708)
    (bad : (pNb (F0 99) n p lo hi).2.2.1 ≠ -1 → ∀ F', PZs F0 F' (pNb (F0 99) n p lo hi).2 → PZn F0 n (pNb (F0 99) n p lo hi).2 → k S F' G)
    (good : (pNb (F0 99) n p lo hi).2.2.1 = -1 → lo ≤ (pNb (F0 99) n p lo hi).1 ∧ (pNb (F0 99) n p lo hi).1 ≤ hi → ∀ F', PZs (u2 F0 101 x1.toNat (pNb (F0 99) n p lo hi).1) F' (pNb (F0 99) n p lo hi).2 → PZn F0 n (pNb (F0 99) n p lo hi).2 → k S F' G) : calV 2 92 [.inr (.inr (.inl 97)), .inl x1, .inl lo, .inl hi] (mm S F G) k nof := by
  refine sg_92_0 ?_
  refine c_81 hn h (fun F1 s1 n1 => ?_)
  refine c_73 s1 (fun b => cn_1 ?_) (fun b => cn_0 ⟨_, _, _, rfl, bad b F1 s1 n1⟩)
  have o := pNb_ok (lo := lo) (hi := hi) (pSp_0 (F0 99) hn) b
  exact ck_i (jb_i h0 (by omega)) ⟨_, _, _, rfl, good b o.2 _ (PZs_w s1 (by decide)) n1⟩
/-- it snows in an hour, as far as it is told -/
def pSy (l : Nat → Int) (h : Int) : Prop := ∃ w : Int, 0 ≤ w ∧ w < 24 ∧ 0 < l (132 + 24 * w + h).toNat
theorem l_89_2 {Q : Rs → Mm → Prop} {h : Int} {S : FS} {F : FI} {G : FJ} (h0 : 0 ≤ h) (h1 : h < 24) (hy : pSy (F 101) h → Q (.inl (some (.inl 1))) (mm S F G)) (hn : ¬ pSy (F 101) h → Q (.inl (some (.inl 0))) (mm S F G)) :
    ∀ (K w : Nat), K + w = 24 → (∀ v : Int, 0 ≤ v → v < w → ¬ 0 < F 101 (132 + 24 * v + h).toNat) → wph 0 89 2 [.inr (.inr (.inl 97)), .inl h, .inl (w : Int)] [] (mm S F G) (0, 0) Q := by
  intro K
  induction K with
  | zero =>
    intro w hK hp
    have g0 : ¬ ((w : Int) < 24) := by omega
    refine sg_89_2 ?_
    rw [decide_eq_false g0]
    refine hn ?_
    rintro ⟨v, a, b, c⟩
    exact hp v a (by omega) c
  | succ K ih =>
    intro w hK hp
    have g0 : (w : Int) < 24 := by omega
    refine sg_89_2 ?_
    rw [decide_eq_true g0, wr_id (a := 24 * (w : Int)) (by omega) (by omega), wr_id (a := 132 + 24 * (w : Int)) (by omega) (by omega), wr_id (a := 132 + 24 * (w : Int) + h) (by omega) (by omega), wr_id (a := (w : Int) + 1) (by omega) (by omega)]
    show chk _ _
    refine ck_i (jb_i (by omega) (by omega)) (cn_i (fun g => hy ⟨w, by omega, g0, g⟩) (fun g => ?_))
    exact ih (w + 1) (by omega) (fun v a b => by
      by_cases e : v = w
      · rw [e]; exact g
      · exact hp v a (by omega))
theorem c_89 {k : Int → FS → FI → FJ → Prop} {h : Int} {S : FS} {F : FI} {G : FJ} (h0 : 0 ≤ h) (h1 : h < 24) (hy : pSy (F 101) h → k 1 S F G) (hn : ¬ pSy (F 101) h → k 0 S F G) : calI 0 89 [.inr (.inr (.inl 97)), .inl h] (mm S F G) k nof := by
  refine sg_89_0 ?_
  exact l_89_2 h0 h1 (fun r => ⟨_, _, _, rfl, hy r⟩) (fun r => ⟨_, _, _, rfl, hn r⟩) 24 0 (by omega) (fun v a b => by omega)
