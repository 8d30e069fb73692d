/-- what was at an hour of the last journey -/
def sWas (s : Nat → Int) (h w : Int) : Int := if s 79 = 0 then -1 else if s 80 < h then -1 else if w = 2 ∧ h = s 80 then -1 else s ((if w = 0 then 82 else if w = 1 then 107 else 132) + h).toNat
theorem q_157 {k : Int → FS → FI → FJ → Prop} {x1 x2 : Int} {S : FS} {F : FI} {G : FJ} (h80 : F 112 79 ≠ 0 → F 112 80 ≤ 24) (noA : ¬ ((0 ≤ x1 ∧ x1 ≤ 24) ∧ 0 ≤ x2 ∧ x2 ≤ 2) → k 0 S (rfs (zF F) 1 2) G) (ok : (0 ≤ x1 ∧ x1 ≤ 24) ∧ 0 ≤ x2 ∧ x2 ≤ 2 → k (sWas (F 112) x1 x2) S (zF F) G) : calI 1 157 [.inr (.inr (.inl 97)), .inl x1, .inl x2] (mm S F G) k nof := by
  have e1 : zF F 112 = F 112 := z_n (by decide)
  refine sg_157_0 ?_
  rw [show u2 F 97 0 0 = zF F from rfl]
  refine c_70 (fun ha => ?_) (fun ha => ?_)
  · refine cn_i (fun q => absurd q (by decide)) (fun _ => ?_)
    refine c_70 (fun hb => ?_) (fun hb => ?_)
    · refine cn_i (fun q => absurd q (by decide)) (fun _ => ?_)
      refine c_69 z_0 (by decide) (by decide) (by decide) (fun _ => cn_1 ?_) (fun q => absurd q (by decide))
      have ok := ok ⟨ha, hb⟩
      unfold sWas at ok
      try simp (disch := omega) only [wr_id]
      rw [e1]
      refine cn_i (fun g => ?_) (fun g => ?_)
      · rw [if_pos g] at ok; exact ⟨_, _, _, rfl, ok⟩
      rw [if_neg g] at ok
      have h80 := h80 g
      refine cn_i (fun g => ?_) (fun g => ?_)
      · rw [if_pos g] at ok; exact ⟨_, _, _, rfl, ok⟩
      rw [if_neg g] at ok
      refine cn_i (fun g2 => ?_) (fun g2 => ?_)
      · refine cn_i (fun g3 => ?_) (fun g3 => ?_)
        · rw [if_pos ⟨g2, g3⟩] at ok; exact ⟨_, _, _, rfl, ok⟩
        · rw [if_neg (fun r => g3 r.2), if_neg (by omega), if_neg (by omega)] at ok
          refine cn_i (fun q => by omega) (fun _ => cn_i (fun q => by omega) (fun _ => ?_))
          exact ck_i (by (first | exact jb_i (by (first | assumption | omega | (simp (disch := omega) only [wr_id]; omega))) (by (first | assumption | omega | (simp (disch := omega) only [wr_id]; omega))) | exact jo_i (by omega) | exact jz_i (by omega) | rfl | (simp only [*]; first | rfl | exact jb_i (by (first | assumption | omega | (simp (disch := omega) only [wr_id]; omega))) (by (first | assumption | omega | (simp (disch := omega) only [wr_id]; omega)))))) ⟨_, _, _, rfl, ok⟩
      · rw [if_neg (fun r => g2 r.1)] at ok
        refine cn_i (fun g3 => ?_) (fun g3 => ?_)
        · rw [if_pos g3] at ok
          exact ck_i (by (first | exact jb_i (by (first | assumption | omega | (simp (disch := omega) only [wr_id]; omega))) (by (first | assumption | omega | (simp (disch := omega) only [wr_id]; omega))) | exact jo_i (by omega) | exact jz_i (by omega) | rfl | (simp only [*]; first | rfl | exact jb_i (by (first | assumption | omega | (simp (disch := omega) only [wr_id]; omega))) (by (first | assumption | omega | (simp (disch := omega) only [wr_id]; omega)))))) ⟨_, _, _, rfl, ok⟩
        · rw [if_neg g3] at ok
          refine cn_i (fun g4 => ?_) (fun g4 => by omega)
          rw [if_pos g4] at ok
          exact ck_i (by (first | exact jb_i (by (first | assumption | omega | (simp (disch := omega) only [wr_id]; omega))) (by (first | assumption | omega | (simp (disch := omega) only [wr_id]; omega))) | exact jo_i (by omega) | exact jz_i (by omega) | rfl | (simp only [*]; first | rfl | exact jb_i (by (first | assumption | omega | (simp (disch := omega) only [wr_id]; omega))) (by (first | assumption | omega | (simp (disch := omega) only [wr_id]; omega)))))) ⟨_, _, _, rfl, ok⟩
    · refine cn_i (fun _ => ?_) (fun q => absurd rfl q)
      exact c_69 z_0 (by decide) (by decide) (by decide) (fun q => absurd rfl q) (fun _ => cn_0 ⟨_, _, _, rfl, noA (fun x => hb x.2)⟩)
  · refine cn_i (fun _ => ?_) (fun q => absurd rfl q)
    exact c_69 z_0 (by decide) (by decide) (by decide) (fun q => absurd rfl q) (fun _ => cn_0 ⟨_, _, _, rfl, noA (fun x => ha x.1)⟩)
/-- a byte that is fed -/
def sFb (x1 x2 x3 x4 x5 : Int) (i : Int) : Int := an (sar (if i < 4 then x1 else if i < 8 then x2 else if i < 12 then x3 else if i < 16 then x4 else x5) (wr (24 - (wr (8 * (Int.tmod i 4)))))) 255
def FD (F F1 : FI) (f : Int → Int) (n : Int) (i : Nat) : Prop := (∀ j : Nat, F1 99 j = if n ≤ j ∧ (j : Int) < n + i then f (j - n) else F 99 j) ∧ F1 97 2 = n + i ∧ (∀ j, j ≠ 2 → F1 97 j = F 97 j) ∧ (∀ a, a ≠ 97 → a ≠ 99 → F1 a = F a)
theorem FD_s {F F1 : FI} {f : Int → Int} {n v : Int} {i : Nat} (hn : 0 ≤ n) (h : FD F F1 f n i) (hv : v = f i) : FD F (u2 (u2 F1 99 (n + (i : Int)).toNat v) 97 2 (n + i + 1)) f n (i + 1) := by
  obtain ⟨a, b, c, d⟩ := h
  refine ⟨fun j => ?_, ?_, fun j q => ?_, fun k q1 q2 => ?_⟩
  · rw [u2_o (by decide), u2_k, a]
    by_cases q : j = (n + (i : Int)).toNat
    · rw [if_pos q, if_pos (by omega), hv, show (j : Int) - n = i by omega]
    · rw [if_neg q]
      by_cases r : n ≤ j ∧ (j : Int) < n + i
      · rw [if_pos r, if_pos (by omega)]
      · rw [if_neg r, if_neg (by omega)]
  · rw [u2_s]; omega
  · rw [u2_n q, u2_o (by decide)]; exact c j q
  · rw [u2_o q1, u2_o q2]; exact d k q1 q2
set_option maxRecDepth 100000 in
theorem l_72_23 {Q : Rs → Mm → Prop} {x1 x2 x3 x4 x5 n : Int} {S : FS} {F : FI} {G : FJ} (hn : 0 ≤ n) (hn2 : n ≤ 580) (hq : ∀ F', FD F F' (sFb x1 x2 x3 x4 x5) n 20 → Q (.inl (some (.inl (n + 20)))) (mm S F' G)) :
    ∀ (K i : Nat) (F1 : FI), (K : Int) = 20 - i → FD F F1 (sFb x1 x2 x3 x4 x5) n i → wph 0 72 23 [.inr (.inr (.inl 97)), .inl x1, .inl x2, .inl x3, .inl x4, .inl x5, .inl (i : Int)] [] (mm S F1 G) (0, 0) Q := by
  intro K
  induction K with
  | zero =>
    intro i F1 hK hd
    have e2 := hd.2.1
    have ei : i = 20 := by omega
    subst ei
    refine sg_72_23 ?_
    refine cn_i (fun g => by omega) (fun _ => ?_)
    rw [e2]
    exact hq F1 hd
  | succ K ih =>
    intro i F1 hK hd
    have e2 := hd.2.1
    have go : ∀ v, v = sFb x1 x2 x3 x4 x5 i → chk (ib (F1 97 2) 600) (wph 0 72 23 [.inr (.inr (.inl 97)), .inl x1, .inl x2, .inl x3, .inl x4, .inl x5, .inl (wr ((i : Int) + 1))] [] (mm S (u2 (u2 F1 99 (F1 97 2).toNat v) 97 2 (wr (F1 97 2 + 1))) G) (0, 0) Q) := by
      intro v ev
      rw [e2, wr_id (a := (i : Int) + 1) (by omega) (by omega), wr_id (by omega) (by omega)]
      exact ck_i (by (first | exact jb_i (by (first | assumption | omega | (simp (disch := omega) only [wr_id]; omega))) (by (first | assumption | omega | (simp (disch := omega) only [wr_id]; omega))) | exact jo_i (by omega) | exact jz_i (by omega) | rfl | (simp only [*]; first | rfl | exact jb_i (by (first | assumption | omega | (simp (disch := omega) only [wr_id]; omega))) (by (first | assumption | omega | (simp (disch := omega) only [wr_id]; omega)))))) (ih (i + 1) _ (by omega) (FD_s hn hd ev))
    refine sg_72_23 ?_
    refine cn_i (fun _ => ?_) (fun g => by omega)
    refine cn_i (fun g => go _ ?_) (fun g => cn_i (fun g1 => go _ ?_) (fun g1 => cn_i (fun g2 => go _ ?_) (fun g2 => cn_i (fun g3 => go _ ?_) (fun g3 => go _ ?_))))
    · unfold sFb; rw [if_pos g]
    · unfold sFb; rw [if_neg g, if_pos g1]
    · unfold sFb; rw [if_neg g, if_neg g1, if_pos g2]
    · unfold sFb; rw [if_neg g, if_neg g1, if_neg g2, if_pos g3]
    · unfold sFb; rw [if_neg g, if_neg g1, if_neg g2, if_neg g3]
theorem q_72 {k : Int → FS → FI → FJ → Prop} {x1 x2 x3 x4 x5 : Int} {S : FS} {F : FI} {G : FJ} (h2 : 0 ≤ F 97 2 ∧ F 97 2 ≤ 600) (full : 580 < F 97 2 → k (-1) S (zF F) G) (ok : F 97 2 ≤ 580 → ∀ F', FD (zF F) F' (sFb x1 x2 x3 x4 x5) (F 97 2) 20 → k (F 97 2 + 20) S F' G) : calI 0 72 [.inr (.inr (.inl 97)), .inl x1, .inl x2, .inl x3, .inl x4, .inl x5] (mm S F G) k nof := by
  refine sg_72_0 ?_
  rw [show u2 F 97 0 0 = zF F from rfl, wr_id (by omega) (by omega)]
  refine cn_i (fun g => ⟨_, _, _, rfl, full (by omega)⟩) (fun g => ?_)
  exact l_72_23 h2.1 (by omega) (fun F' hd => ⟨_, _, _, rfl, ok (by omega) F' hd⟩) 20 0 (zF F) (by omega) ⟨fun j => by rw [if_neg (by omega)], by rw [z_f (by decide)]; omega, fun _ _ => rfl, fun _ _ _ => rfl⟩
/-- cells copied: from b, shifted -/
def CP (F F1 : FI) (ax ay : Nat) (b d : Int) (i : Nat) : Prop := (∀ j : Nat, F1 ax j = if b ≤ j ∧ (j : Int) < b + i then F ay (j - b + d).toNat else F ax j) ∧ (∀ a, a ≠ ax → F1 a = F a)
theorem CP_s {F F1 : FI} {ax ay : Nat} {b d v : Int} {i : Nat} (hb : 0 ≤ b) (hd : 0 ≤ d) (h : CP F F1 ax ay b d i) (hv : v = F ay (d + i).toNat) : CP F (u2 F1 ax (b + (i : Int)).toNat v) ax ay b d (i + 1) := by
  obtain ⟨a, c⟩ := h
  refine ⟨fun j => ?_, fun k q => ?_⟩
  · rw [u2_k, a]
    by_cases q : j = (b + (i : Int)).toNat
    · rw [if_pos q, if_pos (by omega), hv, show (j : Int) - b + d = d + i by omega]
    · rw [if_neg q]
      by_cases r : b ≤ j ∧ (j : Int) < b + i
      · rw [if_pos r, if_pos (by omega)]
      · rw [if_neg r, if_neg (by omega)]
  · rw [u2_o q]; exact c k q
set_option maxRecDepth 100000 in
theorem l_197_17 {Q : Rs → Mm → Prop} {n : Int} {S : FS} {F : FI} {G : FJ} (hn : 0 ≤ n) (hn2 : n < 3) (e27 : F 97 27 = n) (hq : ∀ F', CP F F' 113 112 (156 * n) 0 156 → Q (.inl (some (.inl (n + 1)))) (mm S (u2 F' 97 27 (n + 1)) G)) :
    ∀ (K i : Nat) (F1 : FI), (K : Int) = 156 - i → CP F F1 113 112 (156 * n) 0 i → wph 0 197 17 [.inr (.inr (.inl 97)), .inl (i : Int)] [] (mm S F1 G) (0, 0) Q := by
  intro K
  induction K with
  | zero =>
    intro i F1 hK hd
    have f27 : F1 97 27 = n := by rw [hd.2 97 (by decide)]; exact e27
    have ei : i = 156 := by omega
    subst ei
    refine sg_197_17 ?_
    refine cn_i (fun g => by omega) (fun _ => ?_)
    rw [f27, wr_id (by omega) (by omega)]
    exact hq F1 hd
  | succ K ih =>
    intro i F1 hK hd
    have f27 : F1 97 27 = n := by rw [hd.2 97 (by decide)]; exact e27
    have f112 : F1 112 = F 112 := hd.2 112 (by decide)
    refine sg_197_17 ?_
    refine cn_i (fun _ => ?_) (fun g => by omega)
    rw [f27, f112]
    try simp (disch := omega) only [wr_id]
    exact ck_i (by (first | exact jb_i (by (first | assumption | omega | (simp (disch := omega) only [wr_id]; omega))) (by (first | assumption | omega | (simp (disch := omega) only [wr_id]; omega))) | exact jo_i (by omega) | exact jz_i (by omega) | rfl | (simp only [*]; first | rfl | exact jb_i (by (first | assumption | omega | (simp (disch := omega) only [wr_id]; omega))) (by (first | assumption | omega | (simp (disch := omega) only [wr_id]; omega)))))) (ck_i (by (first | exact jb_i (by (first | assumption | omega | (simp (disch := omega) only [wr_id]; omega))) (by (first | assumption | omega | (simp (disch := omega) only [wr_id]; omega))) | exact jo_i (by omega) | exact jz_i (by omega) | rfl | (simp only [*]; first | rfl | exact jb_i (by (first | assumption | omega | (simp (disch := omega) only [wr_id]; omega))) (by (first | assumption | omega | (simp (disch := omega) only [wr_id]; omega)))))) (ih (i + 1) _ (by omega) (CP_s (by omega) (by decide) hd (by rw [Int.zero_add]))))
theorem q_197 {k : Int → FS → FI → FJ → Prop} {S : FS} {F : FI} {G : FJ} (h27 : 0 ≤ F 97 27 ∧ F 97 27 ≤ 3) (full : F 97 27 = 3 → k (-1) S (zF F) G) (ok : F 97 27 < 3 → ∀ F', CP (zF F) F' 113 112 (156 * F 97 27) 0 156 → k (F 97 27 + 1) S (u2 F' 97 27 (F 97 27 + 1)) G) : calI 0 197 [.inr (.inr (.inl 97))] (mm S F G) k nof := by
  refine sg_197_0 ?_
  rw [show u2 F 97 0 0 = zF F from rfl]
  refine cn_i (fun g => ⟨_, _, _, rfl, full g⟩) (fun g => ?_)
  exact l_197_17 h27.1 (by omega) (z_f (by decide)) (fun F' h => ⟨_, _, _, rfl, ok (by omega) F' h⟩) 156 0 (zF F) (by omega) ⟨fun j => by rw [if_neg (by omega)], fun _ _ => rfl⟩
set_option maxRecDepth 100000 in
theorem l_198_26 {Q : Rs → Mm → Prop} {n : Int} {S : FS} {F : FI} {G : FJ} (hn : 0 ≤ n) (hn2 : n < 3) (e27 : F 97 27 = n) (hq : ∀ F', CP F F' 112 113 0 (156 * n) 156 → Q (.inl (some (.inl n))) (mm S F' G)) :
    ∀ (K i : Nat) (F1 : FI), (K : Int) = 156 - i → CP F F1 112 113 0 (156 * n) i → wph 0 198 26 [.inr (.inr (.inl 97)), .inl (i : Int)] [] (mm S F1 G) (0, 0) Q := by
  intro K
  induction K with
  | zero =>
    intro i F1 hK hd
    have f27 : F1 97 27 = n := by rw [hd.2 97 (by decide)]; exact e27
    have ei : i = 156 := by omega
    subst ei
    refine sg_198_26 ?_
    refine cn_i (fun g => by omega) (fun _ => ?_)
    rw [f27]
    exact hq F1 hd
  | succ K ih =>
    intro i F1 hK hd
    have f27 : F1 97 27 = n := by rw [hd.2 97 (by decide)]; exact e27
    have f113 : F1 113 = F 113 := hd.2 113 (by decide)
    refine sg_198_26 ?_
    refine cn_i (fun _ => ?_) (fun g => by omega)
    rw [f27, f113]
    try simp (disch := omega) only [wr_id]
    have z := ih (i + 1) _ (by omega) (CP_s (Int.le_refl _) (by omega) hd (v := F 113 (156 * n + i).toNat) rfl)
    rw [Int.zero_add] at z
    exact ck_i (by (first | exact jb_i (by (first | assumption | omega | (simp (disch := omega) only [wr_id]; omega))) (by (first | assumption | omega | (simp (disch := omega) only [wr_id]; omega))) | exact jo_i (by omega) | exact jz_i (by omega) | rfl | (simp only [*]; first | rfl | exact jb_i (by (first | assumption | omega | (simp (disch := omega) only [wr_id]; omega))) (by (first | assumption | omega | (simp (disch := omega) only [wr_id]; omega)))))) (ck_i (by (first | exact jb_i (by (first | assumption | omega | (simp (disch := omega) only [wr_id]; omega))) (by (first | assumption | omega | (simp (disch := omega) only [wr_id]; omega))) | exact jo_i (by omega) | exact jz_i (by omega) | rfl | (simp only [*]; first | rfl | exact jb_i (by (first | assumption | omega | (simp (disch := omega) only [wr_id]; omega))) (by (first | assumption | omega | (simp (disch := omega) only [wr_id]; omega)))))) z)
theorem q_198 {k : Int → FS → FI → FJ → Prop} {S : FS} {F : FI} {G : FJ} (h27 : 0 ≤ F 97 27 ∧ F 97 27 ≤ 3) (none : F 97 27 = 0 → k (-1) S (zF F) G) (ok : 0 < F 97 27 → ∀ F', CP (u2 (zF F) 97 27 (F 97 27 - 1)) F' 112 113 0 (156 * (F 97 27 - 1)) 156 → k (F 97 27 - 1) S F' G) : calI 0 198 [.inr (.inr (.inl 97))] (mm S F G) k nof := by
  refine sg_198_0 ?_
  rw [show u2 F 97 0 0 = zF F from rfl]
  refine cn_i (fun g => ⟨_, _, _, rfl, none g⟩) (fun g => ?_)
  rw [wr_id (by omega) (by omega)]
  exact l_198_26 (by omega) (by omega) u2_s (fun F' h => ⟨_, _, _, rfl, ok (by omega) F' h⟩) 156 0 _ (by omega) ⟨fun j => by rw [if_neg (by omega)], fun _ _ => rfl⟩
/-- how many hours are given to somebody -/
def sTn (s : Nat → Int) : Nat → Int := aS (fun h => if s (29 + h) = -1 then 0 else 1)
set_option maxRecDepth 100000 in
theorem l_200_60 {Q : Rs → Mm → Prop} {A : Int} {S : FS} {F : FI} {G : FJ} (hA : ∀ h : Nat, h = 24 → A = sTn (F 112) h) (hq : Q (.inl (some (.inl A))) (mm S F G)) :
    ∀ (K h : Nat) (x : Int), (K : Int) = 24 - h → x = sTn (F 112) h → 0 ≤ x ∧ x ≤ h → wph 0 200 60 [.inr (.inr (.inl 97)), jk, .inl x, .inl (h : Int)] [] (mm S F G) (0, 0) Q := by
  intro K
  induction K with
  | zero =>
    intro h x hK hx hb
    refine sg_200_60 ?_
    have eh : h = 24 := by clear hx hb hA hq; omega
    have g0 : ¬ ((h : Int) < 24) := by clear hx hb hA hq; omega
    rw [decide_eq_false g0]
    show Q (.inl (some (.inl x))) (mm S F G)
    rw [hx, ← hA h eh]
    exact hq
  | succ K ih =>
    intro h x hK hx hb
    have e1 : sTn (F 112) (h + 1) = sTn (F 112) h + (if F 112 (29 + h) = -1 then 0 else 1) := rfl
    have z : (29 + (h : Int)).toNat = 29 + h := by omega
    have hc : ((h + 1 : Nat) : Int) = (h : Int) + 1 := by omega
    refine sg_200_60 ?_
    rw [wr_id (a := 29 + (h : Int)) (by omega) (by omega), wr_id (a := x + 0) (by omega) (by omega), wr_id (a := x + 1) (by omega) (by omega), wr_id (a := (h : Int) + 1) (by omega) (by omega), z]
    refine cn_i (fun _ => ?_) (fun g => by omega)
    refine ck_i (jb_i (by omega) (by omega)) ?_
    refine cn_i (fun g => ?_) (fun g => ?_)
    · have ih := ih (h + 1) (x + 0) (by omega) (by rw [e1, if_pos g, hx]) (by omega)
      rw [hc] at ih; exact ih
    · have ih := ih (h + 1) (x + 1) (by omega) (by rw [e1, if_neg g, hx]) (by omega)
      rw [hc] at ih; exact ih
theorem q_200 {k : Int → FS → FI → FJ → Prop} {x1 : Int} {S : FS} {F : FI} {G : FJ} (ok : k (if x1 = 0 then F 112 54 else if x1 = 1 then F 97 27 else if x1 = 2 then F 97 2 else if x1 = 3 then sTn (F 112) 24 else -1) S (zF F) G) : calI 0 200 [.inr (.inr (.inl 97)), .inl x1] (mm S F G) k nof := by
  have e1 : zF F 112 = F 112 := z_n (by decide)
  refine sg_200_0 ?_
  rw [show u2 F 97 0 0 = zF F from rfl]
  refine cn_i (fun g => ?_) (fun g => ?_)
  · rw [if_pos g] at ok; exact ⟨_, _, _, rfl, ok⟩
  rw [if_neg g] at ok
  refine cn_i (fun g => ?_) (fun g => ?_)
  · rw [if_pos g] at ok; exact ⟨_, _, _, rfl, ok⟩
  rw [if_neg g] at ok
  refine cn_i (fun g => ?_) (fun g => ?_)
  · rw [if_pos g] at ok; exact ⟨_, _, _, rfl, ok⟩
  rw [if_neg g] at ok
  refine cn_i (fun g => ?_) (fun g => ?_)
  · rw [if_pos g, ← e1] at ok
    exact l_200_60 (fun h e => by rw [e]) ⟨_, _, _, rfl, ok⟩ 24 0 0 (by omega) rfl ⟨Int.le_refl _, Int.le_refl _⟩
  rw [if_neg g] at ok
  exact ⟨_, _, _, rfl, ok⟩
