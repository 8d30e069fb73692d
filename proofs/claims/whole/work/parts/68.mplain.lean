/-! ===== the reference answers: the plain calls ===== -/
theorem q_68 {k : Int → FS → FI → FJ → Prop} {S : FS} {F : FI} {G : FJ} (ok : k (F 97 0) S F G) : calI 0 68 [.inr (.inr (.inl 97))] (mm S F G) k nof := by
  refine sg_68_0 ?_
  exact ⟨_, _, _, rfl, ok⟩
theorem q_85 {k : Int → FS → FI → FJ → Prop} {S : FS} {F : FI} {G : FJ} (ok : k (F 97 8) S (zF F) G) : calI 0 85 [.inr (.inr (.inl 97))] (mm S F G) k nof := by
  refine sg_85_0 ?_
  exact ⟨_, _, _, rfl, ok⟩
theorem q_158 {k : Int → FS → FI → FJ → Prop} {S : FS} {F : FI} {G : FJ} (ok : k (if F 112 79 = 0 then -1 else F 112 81) S (zF F) G) : calI 0 158 [.inr (.inr (.inl 97))] (mm S F G) k nof := by
  refine sg_158_0 ?_
  refine cn_i (fun g => ?_) (fun g => ?_)
  · rw [if_pos g] at ok; exact ⟨_, _, _, rfl, ok⟩
  · rw [if_neg g] at ok; exact ⟨_, _, _, rfl, ok⟩
theorem q_160 {k : Int → FS → FI → FJ → Prop} {S : FS} {F : FI} {G : FJ} (ok : k (F 112 54) S (u2 (zF F) 112 54 0) G) : calI 0 160 [.inr (.inr (.inl 97))] (mm S F G) k nof := by
  refine sg_160_0 ?_
  exact ⟨_, _, _, rfl, ok⟩
theorem q_120 {k : Int → FS → FI → FJ → Prop} {x1 : Int} {S : FS} {F : FI} {G : FJ} (noA : ¬ (1 ≤ x1 ∧ x1 ≤ 12) → k 0 S (rfs (zF F) 1 2) G) (ok : 1 ≤ x1 ∧ x1 ≤ 12 → k (F 112 53) S (u2 (zF F) 112 53 x1) G) : calI 1 120 [.inr (.inr (.inl 97)), .inl x1] (mm S F G) k nof := by
  refine sg_120_0 ?_
  rw [show u2 F 97 0 0 = zF F from rfl]
  refine c_70 (fun ha => ?_) (fun ha => ?_)
  · refine c_69 z_0 (by decide) (by decide) (by decide) (fun _ => cn_1 ?_) (fun q => absurd q (by decide))
    exact ⟨_, _, _, rfl, ok ha⟩
  · exact c_69 z_0 (by decide) (by decide) (by decide) (fun q => absurd rfl q) (fun _ => cn_0 ⟨_, _, _, rfl, noA ha⟩)
theorem q_115 {k : Int → FS → FI → FJ → Prop} {x1 x2 : Int} {S : FS} {F : FI} {G : FJ} (hb : 0 ≤ F 100 1 ∧ F 100 1 ≤ 24) (noW : ¬ (0 ≤ x1 ∧ x1 < F 100 1) → k 0 S (rfs (zF F) 1 1) G) (noA : 0 ≤ x1 ∧ x1 < F 100 1 → ¬ (0 ≤ x2 ∧ x2 < 24) → k 0 S (rfs (zF F) 2 2) G)
    (ok : 0 ≤ x1 ∧ x1 < F 100 1 → 0 ≤ x2 ∧ x2 < 24 → k (sSn (F 100) x1 x2) S (zF F) G) : calI 2 115 [.inr (.inr (.inl 97)), .inl x1, .inl x2] (mm S F G) k nof := by
  have e0 : zF F 100 = F 100 := z_n (by decide)
  refine sg_115_0 ?_
  rw [show u2 F 97 0 0 = zF F from rfl, wr_id (a := F 100 1 - 1) (by omega) (by omega)]
  refine c_70 (fun ha => ?_) (fun ha => ?_)
  · refine c_69 z_0 (by decide) (by decide) (by decide) (fun _ => cn_1 ?_) (fun q => absurd q (by decide))
    refine c_112 (fun b1 b2 => ?_) (fun hb => ?_)
    · refine c_69 z_0 (by decide) (by decide) (by decide) (fun _ => cn_1 ?_) (fun q => absurd q (by decide))
      try simp (disch := omega) only [wr_id]
      rw [e0]
      exact ck_i (by (first | exact jb_i (by (first | assumption | omega | (simp (disch := omega) only [wr_id]; omega))) (by (first | assumption | omega | (simp (disch := omega) only [wr_id]; omega))) | exact jo_i (by omega) | exact jz_i (by omega) | rfl | (simp only [*]; first | rfl | exact jb_i (by (first | assumption | omega | (simp (disch := omega) only [wr_id]; omega))) (by (first | assumption | omega | (simp (disch := omega) only [wr_id]; omega)))))) ⟨_, _, _, rfl, ok (by omega) ⟨b1, b2⟩⟩
    · exact c_69 z_0 (by decide) (by decide) (by decide) (fun q => absurd rfl q) (fun _ => cn_0 ⟨_, _, _, rfl, noA (by omega) hb⟩)
  · exact c_69 z_0 (by decide) (by decide) (by decide) (fun q => absurd rfl q) (fun _ => cn_0 ⟨_, _, _, rfl, noW (fun x => ha (by omega))⟩)
theorem q_116 {k : Int → FS → FI → FJ → Prop} {x1 x2 : Int} {S : FS} {F : FI} {G : FJ} (hb : (0 ≤ F 100 0 ∧ F 100 0 ≤ 12) ∧ 0 ≤ F 100 2 ∧ F 100 2 ≤ 5) (noP : ¬ (0 ≤ x1 ∧ x1 < F 100 2) → k 0 S (rfs (zF F) 1 0) G) (noA : 0 ≤ x1 ∧ x1 < F 100 2 → ¬ (-1 ≤ x2 ∧ x2 < F 100 0) → k 0 S (rfs (zF F) 2 2) G)
    (ok : 0 ≤ x1 ∧ x1 < F 100 2 → -1 ≤ x2 ∧ x2 < F 100 0 → k (if x2 = -1 then F 100 (67 + x1).toNat else F 100 (72 + 12 * x1 + x2).toNat) S (zF F) G) : calI 2 116 [.inr (.inr (.inl 97)), .inl x1, .inl x2] (mm S F G) k nof := by
  have e0 : zF F 100 = F 100 := z_n (by decide)
  refine sg_116_0 ?_
  rw [show u2 F 97 0 0 = zF F from rfl]
  refine c_110 z_0 (by decide) (by rw [e0]; omega) (by rw [e0]; omega) (fun p1 p2 => cn_1 ?_) (fun q => cn_0 ⟨_, _, _, rfl, noP (by rw [e0] at q; exact q)⟩)
  rw [e0] at p2 ⊢
  rw [wr_id (a := F 100 0 - 1) (by omega) (by omega)]
  refine c_70 (fun ha => ?_) (fun ha => ?_)
  · refine c_69 z_0 (by decide) (by decide) (by decide) (fun _ => cn_1 ?_) (fun q => absurd q (by decide))
    have ok := ok ⟨p1, p2⟩ (by omega)
    try simp (disch := omega) only [wr_id]
    rw [e0]
    refine cn_i (fun g => ?_) (fun g => ?_)
    · rw [if_pos g] at ok
      exact ck_i (by (first | exact jb_i (by (first | assumption | omega | (simp (disch := omega) only [wr_id]; omega))) (by (first | assumption | omega | (simp (disch := omega) only [wr_id]; omega))) | exact jo_i (by omega) | exact jz_i (by omega) | rfl | (simp only [*]; first | rfl | exact jb_i (by (first | assumption | omega | (simp (disch := omega) only [wr_id]; omega))) (by (first | assumption | omega | (simp (disch := omega) only [wr_id]; omega)))))) ⟨_, _, _, rfl, ok⟩
    · rw [if_neg g] at ok
      exact ck_i (by (first | exact jb_i (by (first | assumption | omega | (simp (disch := omega) only [wr_id]; omega))) (by (first | assumption | omega | (simp (disch := omega) only [wr_id]; omega))) | exact jo_i (by omega) | exact jz_i (by omega) | rfl | (simp only [*]; first | rfl | exact jb_i (by (first | assumption | omega | (simp (disch := omega) only [wr_id]; omega))) (by (first | assumption | omega | (simp (disch := omega) only [wr_id]; omega)))))) ⟨_, _, _, rfl, ok⟩
  · exact c_69 z_0 (by decide) (by decide) (by decide) (fun q => absurd rfl q) (fun _ => cn_0 ⟨_, _, _, rfl, noA ⟨p1, p2⟩ (fun x => ha (by omega))⟩)
theorem q_117 {k : Int → FS → FI → FJ → Prop} {x1 x2 : Int} {S : FS} {F : FI} {G : FJ} (hb : 0 ≤ F 100 2 ∧ F 100 2 ≤ 5) (noP : ¬ (0 ≤ x1 ∧ x1 < F 100 2) → k 0 S (rfs (zF F) 1 0) G) (noA : 0 ≤ x1 ∧ x1 < F 100 2 → ¬ (0 ≤ x2 ∧ x2 ≤ 5) → k 0 S (rfs (zF F) 2 2) G)
    (ok : 0 ≤ x1 ∧ x1 < F 100 2 → 0 ≤ x2 ∧ x2 ≤ 5 → k (F 112 x1.toNat) S (u2 (zF F) 112 x1.toNat x2) G) : calI 2 117 [.inr (.inr (.inl 97)), .inl x1, .inl x2] (mm S F G) k nof := by
  have e0 : zF F 100 = F 100 := z_n (by decide)
  have e1 : zF F 112 = F 112 := z_n (by decide)
  refine sg_117_0 ?_
  rw [show u2 F 97 0 0 = zF F from rfl]
  refine c_110 z_0 (by decide) (by rw [e0]; omega) (by rw [e0]; omega) (fun p1 p2 => cn_1 ?_) (fun q => cn_0 ⟨_, _, _, rfl, noP (by rw [e0] at q; exact q)⟩)
  rw [e0] at p2
  refine c_70 (fun ha => ?_) (fun ha => ?_)
  · refine c_69 z_0 (by decide) (by decide) (by decide) (fun _ => cn_1 ?_) (fun q => absurd q (by decide))
    try simp (disch := omega) only [wr_id]
    rw [e1, Int.zero_add]
    exact ck_i (by (first | exact jb_i (by (first | assumption | omega | (simp (disch := omega) only [wr_id]; omega))) (by (first | assumption | omega | (simp (disch := omega) only [wr_id]; omega))) | exact jo_i (by omega) | exact jz_i (by omega) | rfl | (simp only [*]; first | rfl | exact jb_i (by (first | assumption | omega | (simp (disch := omega) only [wr_id]; omega))) (by (first | assumption | omega | (simp (disch := omega) only [wr_id]; omega)))))) (ck_i (by (first | exact jb_i (by (first | assumption | omega | (simp (disch := omega) only [wr_id]; omega))) (by (first | assumption | omega | (simp (disch := omega) only [wr_id]; omega))) | exact jo_i (by omega) | exact jz_i (by omega) | rfl | (simp only [*]; first | rfl | exact jb_i (by (first | assumption | omega | (simp (disch := omega) only [wr_id]; omega))) (by (first | assumption | omega | (simp (disch := omega) only [wr_id]; omega)))))) ⟨_, _, _, rfl, ok ⟨p1, p2⟩ ha⟩)
  · exact c_69 z_0 (by decide) (by decide) (by decide) (fun q => absurd rfl q) (fun _ => cn_0 ⟨_, _, _, rfl, noA ⟨p1, p2⟩ ha⟩)
theorem q_118 {k : Int → FS → FI → FJ → Prop} {x1 x2 : Int} {S : FS} {F : FI} {G : FJ} (noA : ¬ ((0 ≤ x1 ∧ x1 < 24) ∧ 0 ≤ x2 ∧ x2 ≤ F 100 1) → k 0 S (rfs (zF F) 1 2) G)
    (ok : (0 ≤ x1 ∧ x1 < 24) ∧ 0 ≤ x2 ∧ x2 ≤ F 100 1 → k (F 112 (5 + x1).toNat) S (u2 (zF F) 112 (5 + x1).toNat x2) G) : calI 2 118 [.inr (.inr (.inl 97)), .inl x1, .inl x2] (mm S F G) k nof := by
  have e0 : zF F 100 = F 100 := z_n (by decide)
  have e1 : zF F 112 = F 112 := z_n (by decide)
  refine sg_118_0 ?_
  rw [show u2 F 97 0 0 = zF F from rfl]
  refine c_112 (fun b1 b2 => ?_) (fun hb => ?_)
  · refine cn_i (fun q => absurd q (by decide)) (fun _ => ?_)
    rw [e0]
    refine c_70 (fun ha => ?_) (fun ha => ?_)
    · refine cn_i (fun q => absurd q (by decide)) (fun _ => ?_)
      refine c_69 z_0 (by decide) (by decide) (by decide) (fun _ => cn_1 ?_) (fun q => absurd q (by decide))
      try simp (disch := omega) only [wr_id]
      rw [e1]
      exact ck_i (by (first | exact jb_i (by (first | assumption | omega | (simp (disch := omega) only [wr_id]; omega))) (by (first | assumption | omega | (simp (disch := omega) only [wr_id]; omega))) | exact jo_i (by omega) | exact jz_i (by omega) | rfl | (simp only [*]; first | rfl | exact jb_i (by (first | assumption | omega | (simp (disch := omega) only [wr_id]; omega))) (by (first | assumption | omega | (simp (disch := omega) only [wr_id]; omega)))))) (ck_i (by (first | exact jb_i (by (first | assumption | omega | (simp (disch := omega) only [wr_id]; omega))) (by (first | assumption | omega | (simp (disch := omega) only [wr_id]; omega))) | exact jo_i (by omega) | exact jz_i (by omega) | rfl | (simp only [*]; first | rfl | exact jb_i (by (first | assumption | omega | (simp (disch := omega) only [wr_id]; omega))) (by (first | assumption | omega | (simp (disch := omega) only [wr_id]; omega)))))) ⟨_, _, _, rfl, ok ⟨⟨b1, b2⟩, ha⟩⟩)
    · refine cn_i (fun _ => ?_) (fun q => absurd rfl q)
      exact c_69 z_0 (by decide) (by decide) (by decide) (fun q => absurd rfl q) (fun _ => cn_0 ⟨_, _, _, rfl, noA (fun x => ha x.2)⟩)
  · refine cn_i (fun _ => ?_) (fun q => absurd rfl q)
    exact c_69 z_0 (by decide) (by decide) (by decide) (fun q => absurd rfl q) (fun _ => cn_0 ⟨_, _, _, rfl, noA (fun x => hb x.1)⟩)
theorem q_119 {k : Int → FS → FI → FJ → Prop} {x1 x2 : Int} {S : FS} {F : FI} {G : FJ} (hb : 0 ≤ F 100 2 ∧ F 100 2 ≤ 5) (noP : ¬ (-1 ≤ x2 ∧ x2 < F 100 2) → k 0 S (rfs (zF F) 1 0) G) (noA : -1 ≤ x2 ∧ x2 < F 100 2 → ¬ (0 ≤ x1 ∧ x1 < 24) → k 0 S (rfs (zF F) 2 2) G)
    (ok : -1 ≤ x2 ∧ x2 < F 100 2 → 0 ≤ x1 ∧ x1 < 24 → k (F 112 (29 + x1).toNat) S (u2 (zF F) 112 (29 + x1).toNat x2) G) : calI 3 119 [.inr (.inr (.inl 97)), .inl x1, .inl x2] (mm S F G) k nof := by
  have e0 : zF F 100 = F 100 := z_n (by decide)
  have e1 : zF F 112 = F 112 := z_n (by decide)
  refine sg_119_0 ?_
  rw [show u2 F 97 0 0 = zF F from rfl]
  refine c_111 z_0 (by decide) (by rw [e0]; omega) (by rw [e0]; omega) (fun p1 p2 => cn_1 ?_) (fun q => cn_0 ⟨_, _, _, rfl, noP (by rw [e0] at q; exact q)⟩)
  rw [e0] at p2
  refine c_112 (fun b1 b2 => ?_) (fun hb => ?_)
  · refine c_69 z_0 (by decide) (by decide) (by decide) (fun _ => cn_1 ?_) (fun q => absurd q (by decide))
    try simp (disch := omega) only [wr_id]
    rw [e1]
    exact ck_i (by (first | exact jb_i (by (first | assumption | omega | (simp (disch := omega) only [wr_id]; omega))) (by (first | assumption | omega | (simp (disch := omega) only [wr_id]; omega))) | exact jo_i (by omega) | exact jz_i (by omega) | rfl | (simp only [*]; first | rfl | exact jb_i (by (first | assumption | omega | (simp (disch := omega) only [wr_id]; omega))) (by (first | assumption | omega | (simp (disch := omega) only [wr_id]; omega)))))) (ck_i (by (first | exact jb_i (by (first | assumption | omega | (simp (disch := omega) only [wr_id]; omega))) (by (first | assumption | omega | (simp (disch := omega) only [wr_id]; omega))) | exact jo_i (by omega) | exact jz_i (by omega) | rfl | (simp only [*]; first | rfl | exact jb_i (by (first | assumption | omega | (simp (disch := omega) only [wr_id]; omega))) (by (first | assumption | omega | (simp (disch := omega) only [wr_id]; omega)))))) ⟨_, _, _, rfl, ok ⟨p1, p2⟩ ⟨b1, b2⟩⟩)
  · exact c_69 z_0 (by decide) (by decide) (by decide) (fun q => absurd rfl q) (fun _ => cn_0 ⟨_, _, _, rfl, noA ⟨p1, p2⟩ hb⟩)
theorem q_122 {k : Int → FS → FI → FJ → Prop} {x1 : Int} {S : FS} {F : FI} {G : FJ} (hM : F 97 12 ≠ 0 → MV F G) (noL : F 97 12 = 0 → k 0 S (rfs (zF F) 2 3) G) (noA : F 97 12 ≠ 0 → ¬ (0 ≤ x1 ∧ x1 < 24) → k 0 S (rfs (zF F) 1 2) G)
    (ok : F 97 12 ≠ 0 → 0 ≤ x1 ∧ x1 < 24 → k (sLd (F 100) (F 112) x1) S (zF F) G) : calI 2 122 [.inr (.inr (.inl 97)), .inl x1] (mm S F G) k nof := by
  refine sg_122_0 ?_
  rw [show u2 F 97 0 0 = zF F from rfl]
  refine c_109 z_0 (by decide) (fun hl => cn_1 ?_) (fun hl => cn_0 ⟨_, _, _, rfl, noL (here_z hl)⟩)
  have hl := here_n hl
  have hz := MV_z (hM hl)
  have e0 : zF F 100 = F 100 := z_n (by decide)
  have e1 : zF F 112 = F 112 := z_n (by decide)
  refine c_112 (fun b1 b2 => ?_) (fun hb => ?_)
  · refine c_69 z_0 (by decide) (by decide) (by decide) (fun _ => cn_1 ?_) (fun q => absurd q (by decide))
    refine c_121 hz.1 hz.2.1 b1 b2 (fun v e => ⟨_, _, _, rfl, ?_⟩)
    rw [e, e0, e1]
    exact ok hl ⟨b1, b2⟩
  · exact c_69 z_0 (by decide) (by decide) (by decide) (fun q => absurd rfl q) (fun _ => cn_0 ⟨_, _, _, rfl, noA hl hb⟩)
theorem q_199 {k : Int → FS → FI → FJ → Prop} {x1 : Int} {S : FS} {F : FI} {G : FJ} (noA : ¬ (0 ≤ x1 ∧ x1 ≤ 3) → k (-1) S (zF F) G) (ok : 0 ≤ x1 ∧ x1 ≤ 3 → k (F 98 x1.toNat) S (zF F) G) : calI 1 199 [.inr (.inr (.inl 97)), .inl x1] (mm S F G) k nof := by
  have e0 : zF F 98 = F 98 := z_n (by decide)
  refine sg_199_0 ?_
  rw [show u2 F 97 0 0 = zF F from rfl]
  refine c_70 (fun ha => cn_1 ?_) (fun ha => cn_0 ⟨_, _, _, rfl, noA ha⟩)
  rw [e0]
  exact ck_i (by (first | exact jb_i (by (first | assumption | omega | (simp (disch := omega) only [wr_id]; omega))) (by (first | assumption | omega | (simp (disch := omega) only [wr_id]; omega))) | exact jo_i (by omega) | exact jz_i (by omega) | rfl | (simp only [*]; first | rfl | exact jb_i (by (first | assumption | omega | (simp (disch := omega) only [wr_id]; omega))) (by (first | assumption | omega | (simp (disch := omega) only [wr_id]; omega)))))) ⟨_, _, _, rfl, ok ha⟩
theorem q_159 {k : Int → FS → FI → FJ → Prop} {x1 : Int} {S : FS} {F : FI} {G : FJ} (h54 : 0 ≤ F 112 54 ∧ F 112 54 ≤ 24) (noA : ¬ (0 ≤ x1 ∧ x1 ≤ F 100 1) → k 0 S (rfs (zF F) 1 2) G) (full : 0 ≤ x1 ∧ x1 ≤ F 100 1 → F 112 54 = 24 → k (-1) S (zF F) G)
    (ok : 0 ≤ x1 ∧ x1 ≤ F 100 1 → F 112 54 ≠ 24 → k (F 112 54 + 1) S (u2 (u2 (zF F) 112 (55 + F 112 54).toNat x1) 112 54 (F 112 54 + 1)) G) : calI 1 159 [.inr (.inr (.inl 97)), .inl x1] (mm S F G) k nof := by
  have e1 : zF F 112 = F 112 := z_n (by decide)
  refine sg_159_0 ?_
  rw [show u2 F 97 0 0 = zF F from rfl]
  refine c_70 (fun ha => ?_) (fun ha => ?_)
  · refine c_69 z_0 (by decide) (by decide) (by decide) (fun _ => cn_1 ?_) (fun q => absurd q (by decide))
    rw [e1]
    refine cn_i (fun g => ⟨_, _, _, rfl, full ha g⟩) (fun g => ?_)
    rw [wr_id (a := 55 + F 112 54) (by omega) (by omega), u2_n (by omega), e1, wr_id (by omega) (by omega)]
    exact ck_i (by (first | exact jb_i (by (first | assumption | omega | (simp (disch := omega) only [wr_id]; omega))) (by (first | assumption | omega | (simp (disch := omega) only [wr_id]; omega))) | exact jo_i (by omega) | exact jz_i (by omega) | rfl | (simp only [*]; first | rfl | exact jb_i (by (first | assumption | omega | (simp (disch := omega) only [wr_id]; omega))) (by (first | assumption | omega | (simp (disch := omega) only [wr_id]; omega)))))) ⟨_, _, _, rfl, ok ha g⟩
  · exact c_69 z_0 (by decide) (by decide) (by decide) (fun q => absurd rfl q) (fun _ => cn_0 ⟨_, _, _, rfl, noA ha⟩)
/-- what is told of the land -/
noncomputable def sTold (F : FI) (w : Int) : Int := if w = 8 then F 97 13 else if F 97 12 = 0 then 0 else if w < 7 then F 100 w.toNat else aS (fun h => sSy (F 100) h) (F 100 3).toNat
theorem l_113_60 {Q : Rs → Mm → Prop} {S : FS} {F : FI} {G : FJ} (hv : LV (F 100)) (hq : Q (.inl (some (.inl (aS (fun h => sSy (F 100) h) (F 100 3).toNat)))) (mm S F G)) :
    ∀ (K h : Nat), (K : Int) = F 100 3 - h → (0 ≤ aS (fun h => sSy (F 100) h) h ∧ aS (fun h => sSy (F 100) h) h ≤ h) → wph 1 113 60 [.inr (.inr (.inl 97)), jk, .inl (aS (fun h => sSy (F 100) h) h), .inl (h : Int)] [] (mm S F G) (0, 0) Q := by
  obtain ⟨⟨hv1, hv2⟩, ⟨hv3, hv4⟩, ⟨hv5, hv6⟩, ⟨hv7, hv8⟩, ⟨hv9, hv10⟩, ⟨hv11, hv12⟩, ⟨hv13, hv14⟩, hvw, hvs, hvk, hvc, hvx⟩ := id hv
  intro K
  induction K with
  | zero =>
    intro h hK hb
    refine sg_113_60 ?_
    refine cn_i (fun g => by omega) (fun _ => ?_)
    rw [show (F 100 3).toNat = h by omega] at hq
    exact hq
  | succ K ih =>
    intro h hK hb
    have e1 : aS (fun h => sSy (F 100) h) (h + 1) = aS (fun h => sSy (F 100) h) h + sSy (F 100) h := rfl
    have s1 := sSy_01 (F 100) h
    have ih := ih (h + 1) (by omega) (by omega)
    rw [e1, show ((h + 1 : Nat) : Int) = (h : Int) + 1 by omega] at ih
    refine sg_113_60 ?_
    try simp (disch := omega) only [wr_id]
    refine cn_i (fun _ => ?_) (fun g => by omega)
    refine c_114 hv (by omega) (by omega) (fun v e => ?_)
    refine cn_i (fun g => ?_) (fun g => ?_)
    · rw [← e, g] at ih; exact ih
    · rw [show sSy (F 100) h = 1 by omega] at ih; exact ih
theorem q_113 {k : Int → FS → FI → FJ → Prop} {x1 : Int} {S : FS} {F : FI} {G : FJ} (hM : F 97 12 ≠ 0 → LV (F 100)) (noA : ¬ (0 ≤ x1 ∧ x1 ≤ 8) → k 0 S (rfs (zF F) 1 2) G) (ok : 0 ≤ x1 ∧ x1 ≤ 8 → k (sTold F x1) S (zF F) G) : calI 1 113 [.inr (.inr (.inl 97)), .inl x1] (mm S F G) k nof := by
  have e0 : zF F 100 = F 100 := z_n (by decide)
  refine sg_113_0 ?_
  rw [show u2 F 97 0 0 = zF F from rfl]
  refine c_70 (fun ha => ?_) (fun ha => ?_)
  · refine c_69 z_0 (by decide) (by decide) (by decide) (fun _ => cn_1 ?_) (fun q => absurd q (by decide))
    have ok := ok ha
    unfold sTold at ok
    rw [z_f (by decide), z_f (by decide)]
    refine cn_i (fun g => ?_) (fun g => ?_)
    · rw [if_pos g] at ok; exact ⟨_, _, _, rfl, ok⟩
    · rw [if_neg g] at ok
      refine cn_i (fun g => ?_) (fun g => ?_)
      · rw [if_pos g] at ok; exact ⟨_, _, _, rfl, ok⟩
      · rw [if_neg g] at ok
        refine cn_i (fun g2 => ?_) (fun g2 => ?_)
        · rw [if_pos g2] at ok
          rw [e0]
          exact ck_i (by (first | exact jb_i (by (first | assumption | omega | (simp (disch := omega) only [wr_id]; omega))) (by (first | assumption | omega | (simp (disch := omega) only [wr_id]; omega))) | exact jo_i (by omega) | exact jz_i (by omega) | rfl | (simp only [*]; first | rfl | exact jb_i (by (first | assumption | omega | (simp (disch := omega) only [wr_id]; omega))) (by (first | assumption | omega | (simp (disch := omega) only [wr_id]; omega)))))) ⟨_, _, _, rfl, ok⟩
        · rw [if_neg g2] at ok
          have hv := hM g
          obtain ⟨⟨hv1, hv2⟩, ⟨hv3, hv4⟩, ⟨hv5, hv6⟩, ⟨hv7, hv8⟩, ⟨hv9, hv10⟩, ⟨hv11, hv12⟩, ⟨hv13, hv14⟩, hvw, hvs, hvk, hvc, hvx⟩ := id hv
          rw [← e0] at hv ok
          exact l_113_60 hv ⟨_, _, _, rfl, ok⟩ (F 100 3).toNat 0 (by rw [e0]; omega) ⟨Int.le_refl _, Int.le_refl _⟩
  · exact c_69 z_0 (by decide) (by decide) (by decide) (fun q => absurd rfl q) (fun _ => cn_0 ⟨_, _, _, rfl, noA ha⟩)
