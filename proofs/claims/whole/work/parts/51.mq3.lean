/-! ===== the reference answers: kinds, pacts, votes, trades ===== -/
/-- by which kind one has most -/
noncomputable def sAsk (F : FI) (k : Int) : Nat → Int
  | 0 => 0
  | d + 1 => if sNow (F 100) (cKnd (cBs F) k (sAsk F k d)) (F 100 4) k < sNow (F 100) (cKnd (cBs F) k ((d : Int) + 1)) (F 100 4) k then (d : Int) + 1 else sAsk F k d
theorem l_188_40 {Q : Rs → Mm → Prop} {x1 x2 y3 x5 : Int} {S : FS} {F F1 : FI} {G G1 : FJ} {c : Cf} (hm : MV F G) (hc : CV (F 100) (F 100 4) (cBs F)) (p1 : 0 ≤ x1) (p2 : x1 < F 100 2) (h0 : 1 ≤ x5) (h1 : x5 ≤ 6) (hd : RD F F1 G G1 (cKnd (cBs F) x1 (x5 - 1)))
    (e2 : x2 = sAsk F x1 (x5 - 1).toNat) (e3 : y3 = sNow (F 100) (cKnd (cBs F) x1 x2) (F 100 4) x1)
    (hq : ∀ F2 G2, RD F F2 G G2 (cKnd (cBs F) x1 5) → Q (.inl (some (.inl (sAsk F x1 5)))) (mm S F2 G2)) : wph 8 188 40 [.inr (.inr (.inl 97)), .inl x1, .inl x2, .inr (.inl y3), jk, .inl x5] [] (mm S F1 G1) (0, 0) Q := by
  refine sg_188_40 ?_
  refine cn_i (fun h => ?_) (fun h => ?_)
  · refine c_186 hm (cKnd_v hc) hd p1 p2 (fun F2 G2 hd2 => ?_)
    rw [cKnd_2] at hd2 ⊢
    obtain ⟨n, rfl⟩ : ∃ n : Nat, x5 = (n : Int) + 1 := ⟨(x5 - 1).toNat, by omega⟩
    have en : ((n : Int) + 1 - 1).toNat = n := by omega
    have en2 : ((n : Int) + 1 + 1 - 1).toNat = n + 1 := by omega
    have en3 : (n : Int) + 1 + 1 - 1 = (n : Int) + 1 := by omega
    rw [en] at e2
    have st : sAsk F x1 (n + 1) = if y3 < sNow (F 100) (cKnd (cBs F) x1 ((n : Int) + 1)) (F 100 4) x1 then (n : Int) + 1 else x2 := by
      rw [e3, e2]
      rfl
    try simp (disch := omega) only [wr_id]
    refine cn_i (fun g => ?_) (fun g => ?_)
    · refine l_188_40 (c := c) hm hc p1 p2 (by omega) (by omega) (by rw [en3]; exact hd2) ?_ rfl hq
      rw [en2, st, if_pos (lc_p.mp g)]
    · refine l_188_40 (c := c) hm hc p1 p2 (by omega) (by omega) (by rw [en3]; exact hd2) ?_ e3 hq
      rw [en2, st, if_neg (fun q => g (lc_p.mpr q))]
  · have : x5 = 6 := by omega
    subst this
    rw [e2]
    exact hq F1 G1 hd
termination_by (6 - x5).toNat
decreasing_by all_goals omega
theorem q_188 {k : Int → FS → FI → FJ → Prop} {x1 : Int} {S : FS} {F : FI} {G : FJ} (hM : F 97 12 ≠ 0 → MV F G) (noL : F 97 12 = 0 → k 0 S (rfs (zF F) 2 3) G) (noP : F 97 12 ≠ 0 → ¬ (0 ≤ x1 ∧ x1 < F 100 2) → k 0 S (rfs (zF F) 1 0) G)
    (ok : F 97 12 ≠ 0 → 0 ≤ x1 ∧ x1 < F 100 2 → ∀ F' G', QP F F' G G' → k (sAsk (zF F) x1 5) S F' G') : calI 8 188 [.inr (.inr (.inl 97)), .inl x1] (mm S F G) k nof := by
  refine sg_188_0 ?_
  rw [show u2 F 97 0 0 = zF F from rfl]
  refine c_109 z_0 (by decide) (fun hl => cn_1 ?_) (fun hl => cn_0 ⟨_, _, _, rfl, noL (here_z hl)⟩)
  have hl := here_n hl
  have hm := hM hl
  have hv := hm.1
  have hz := MV_z hm
  obtain ⟨⟨hv1, hv2⟩, ⟨hv3, hv4⟩, ⟨hv5, hv6⟩, ⟨hv7, hv8⟩, ⟨hv9, hv10⟩, ⟨hv11, hv12⟩, ⟨hv13, hv14⟩, hvw, hvs, hvk, hvc, hvx⟩ := id hv
  have e0 : zF F 100 = F 100 := z_n (by decide)
  have cv : CV (zF F 100) (zF F 100 4) (cBs (zF F)) := sCf_v _ hz.1 hz.2.1
  refine c_110 z_0 (by decide) (by rw [e0]; omega) (by rw [e0]; omega) (fun p1 p2 => cn_1 ?_) (fun q => cn_0 ⟨_, _, _, rfl, noP hl (by rw [e0] at q; exact q)⟩)
  refine c_143 hz (fun F1 G1 hd => ?_)
  have hd : RD (zF F) F1 G G1 (cBs (zF F)) := hd
  refine c_186 hz cv hd p1 p2 (fun F2 G2 hd2 => ?_)
  refine l_188_40 (F := zF F) (c := cBs F) hz cv p1 p2 (by omega) (by omega) hd2 rfl rfl (fun F3 G3 hd3 => ⟨_, _, _, rfl, ?_⟩)
  rw [e0] at p2
  exact ok hl ⟨p1, p2⟩ F3 G3 (QP_d hd3 rfl)
theorem cPct_2 {c : Cf} (a b : Int) (h : c.2.2.2.2 = (-1, -1, 0)) : cPct (cPct c a b) (-1) (-1) = c := by
  obtain ⟨c1, c2, c3, c4, c5⟩ := c
  have h : c5 = (-1, -1, 0) := h
  subst h
  rfl
theorem c_190 {k : FS → FI → FJ → Prop} {x1 x2 : Int} {S : FS} {F F1 : FI} {G G1 : FJ} {c : Cf} (hm : MV F G) (hc : CV (F 100) (F 100 4) c) (hc0 : c.2.2.2.2 = (-1, -1, 0)) (hd : RD F F1 G G1 c) (h0 : 0 ≤ x1)
    (hk : ∀ F' G', RD F F' G G' c → TN (F 100) (cPct c x1 x2) (F 100 4) F' G' → G' 124 = G1 124 → k S F' G') : calV 7 190 [.inr (.inr (.inl 97)), .inl x1, .inl x2] (mm S F1 G1) k nof := by
  refine sg_190_0 ?_
  refine c_play hm (RD_pct hd) (cPct_v hc (fun q => by omega)) (fun F2 G2 a b _ d => ⟨_, _, _, rfl, hk _ G2 ?_ ?_ (d 124 (by decide) (by decide))⟩)
  · have := RD_pct (a := -1) (b := -1) a
    rw [cPct_2 _ _ hc0] at this
    exact this
  · have := TN_of a b
    exact ⟨by rw [u2_o (by decide), u2_o (by decide)]; exact this.1, by rw [u2_n (by decide), u2_n (by decide)]; exact this.2.1, this.2.2⟩
theorem q_191 {k : Int → FS → FI → FJ → Prop} {x1 x2 x3 : Int} {S : FS} {F : FI} {G : FJ} (hM : F 97 12 ≠ 0 → MV F G) (noL : F 97 12 = 0 → k 0 S (rfs (zF F) 3 3) G) (noP : F 97 12 ≠ 0 → ¬ ((0 ≤ x1 ∧ x1 < F 100 2) ∧ 0 ≤ x2 ∧ x2 < F 100 2) → k 0 S (rfs (zF F) 1 0) G)
    (noA : F 97 12 ≠ 0 → 0 ≤ x1 ∧ x1 < F 100 2 → 0 ≤ x2 ∧ x2 < F 100 2 → ¬ (x1 ≠ x2 ∧ 0 ≤ x3 ∧ x3 ≤ 1) → k 0 S (rfs (zF F) 2 2) G)
    (ok : F 97 12 ≠ 0 → 0 ≤ x1 ∧ x1 < F 100 2 → 0 ≤ x2 ∧ x2 < F 100 2 → x1 ≠ x2 ∧ 0 ≤ x3 ∧ x3 ≤ 1 → ∀ F' G', QP F F' G G' → k (sGn F (cPct (cBs F) x1 x2) (if x3 = 0 then x1 else x2)) S F' G') : calL 9 191 [.inr (.inr (.inl 97)), .inl x1, .inl x2, .inl x3] (mm S F G) k nof := by
  refine sg_191_0 ?_
  rw [show u2 F 97 0 0 = zF F from rfl]
  refine c_109 z_0 (by decide) (fun hl => cn_1 ?_) (fun hl => cn_0 ⟨_, _, _, rfl, noL (here_z hl)⟩)
  have hl := here_n hl
  have hm := hM hl
  have hv := hm.1
  have hz := MV_z hm
  obtain ⟨⟨hv1, hv2⟩, ⟨hv3, hv4⟩, ⟨hv5, hv6⟩, ⟨hv7, hv8⟩, ⟨hv9, hv10⟩, ⟨hv11, hv12⟩, ⟨hv13, hv14⟩, hvw, hvs, hvk, hvc, hvx⟩ := id hv
  have e0 : zF F 100 = F 100 := z_n (by decide)
  have cv : CV (F 100) (F 100 4) (cBs F) := sCf_v (w := mL F) (F 100 4) hv hm.2.1
  refine c_110 z_0 (by decide) (by rw [e0]; omega) (by rw [e0]; omega) (fun p1 p2 => cn_1 ?_) (fun q => cn_0 ⟨_, _, _, rfl, noP hl (by rw [e0] at q; exact fun r => q r.1)⟩)
  refine c_110 z_0 (by decide) (by rw [e0]; omega) (by rw [e0]; omega) (fun p3 p4 => cn_1 ?_) (fun q => cn_0 ⟨_, _, _, rfl, noP hl (by rw [e0] at q; exact fun r => q r.2)⟩)
  rw [e0] at p2 p4
  refine cn_i (fun g => ?_) (fun g => ?_)
  · exact c_69 z_0 (by decide) (by decide) (by decide) (fun q => absurd rfl q) (fun _ => cn_0 ⟨_, _, _, rfl, noA hl ⟨p1, p2⟩ ⟨p3, p4⟩ (fun r => r.1 g)⟩)
  · refine c_70 (fun ha => cn_1 ?_) (fun ha => cn_0 ?_)
    · refine c_69 z_0 (by decide) (by decide) (by decide) (fun _ => cn_1 ?_) (fun q => absurd q (by decide))
      refine c_166 hz (fun F1 G1 hd ht hb => ?_)
      rw [z_B] at hd hb
      rw [e0] at hb
      refine c_190 hz (by rw [e0]; exact cv) rfl hd p1 (fun F2 G2 hd2 tn h124 => ?_)
      rw [e0] at tn
      have ok' := ok hl ⟨p1, p2⟩ ⟨p3, p4⟩ ⟨g, ha.1, ha.2⟩ F2 G2 (QP_d hd2 rfl)
      have cp : CV (F 100) (F 100 4) (cPct (cBs F) x1 x2) := cPct_v cv (fun q => by omega)
      refine cn_i (fun w => ?_) (fun w => ?_)
      · rw [if_pos w] at ok'
        refine c_146 hv (by omega) (by omega) tn p1 p2 (fun v e => ck_i (by (first | exact jb_i (by (first | assumption | omega | (simp (disch := omega) only [wr_id]; omega))) (by (first | assumption | omega | (simp (disch := omega) only [wr_id]; omega))) | exact jo_i (by omega) | exact jz_i (by omega) | rfl | (simp only [*]; first | rfl | exact jb_i (by (first | assumption | omega | (simp (disch := omega) only [wr_id]; omega))) (by (first | assumption | omega | (simp (disch := omega) only [wr_id]; omega)))))) ⟨_, _, _, rfl, ?_⟩)
        rw [h124, hb x1 p1 p2, e, (sub_5 (sNow_b hv (by omega) (by omega) cp p1 p2) (sNow_b hv (by omega) (by omega) cv p1 p2)).1]
        exact ok'
      · rw [if_neg w] at ok'
        refine c_146 hv (by omega) (by omega) tn p3 p4 (fun v e => ck_i (by (first | exact jb_i (by (first | assumption | omega | (simp (disch := omega) only [wr_id]; omega))) (by (first | assumption | omega | (simp (disch := omega) only [wr_id]; omega))) | exact jo_i (by omega) | exact jz_i (by omega) | rfl | (simp only [*]; first | rfl | exact jb_i (by (first | assumption | omega | (simp (disch := omega) only [wr_id]; omega))) (by (first | assumption | omega | (simp (disch := omega) only [wr_id]; omega)))))) ⟨_, _, _, rfl, ?_⟩)
        rw [h124, hb x2 p3 p4, e, (sub_5 (sNow_b hv (by omega) (by omega) cp p3 p4) (sNow_b hv (by omega) (by omega) cv p3 p4)).1]
        exact ok'
    · exact c_69 z_0 (by decide) (by decide) (by decide) (fun q => absurd rfl q) (fun _ => cn_0 ⟨_, _, _, rfl, noA hl ⟨p1, p2⟩ ⟨p3, p4⟩ (fun r => ha ⟨r.2.1, r.2.2⟩)⟩)
/-- the first pact that holds: from a, and of a from b on -/
noncomputable def sHlB (F : FI) (a : Int) : Nat → Int → Int
  | 0, _ => -1
  | n + 1, b => @ite _ (0 < sGn F (cPct (cBs F) a b) a ∧ 0 < sGn F (cPct (cBs F) a b) b) (Classical.propDecidable _) (10 * a + b) (sHlB F a n (b + 1))
noncomputable def sHlA (F : FI) : Nat → Int → Int
  | 0, _ => -1
  | n + 1, a => if sHlB F a (F 100 2 - (a + 1)).toNat (a + 1) = -1 then sHlA F n (a + 1) else sHlB F a (F 100 2 - (a + 1)).toNat (a + 1)
theorem gn_i {a b : Int} (ha : B5 a) (hb : B5 b) : (0 < lc a b) ↔ 0 < a - b := by
  rw [lc_p]
  omega
theorem sHlB_r (F : FI) (a : Int) (ha : 0 ≤ a) : ∀ (n : Nat) (b : Int), 0 ≤ b → sHlB F a n b = -1 ∨ 0 ≤ sHlB F a n b := by
  intro n
  induction n with
  | zero => intro b _; exact Or.inl rfl
  | succ m ih =>
    intro b hb
    unfold sHlB
    split
    · exact Or.inr (by omega)
    · exact ih (b + 1) (by omega)
theorem l_192_35 {Q : Rs → Mm → Prop} {x1 x2 : Int} {S : FS} {F F1 : FI} {G G1 : FJ} (hm : MV F G) (h0 : 0 ≤ x1) (h1 : x1 < F 100 2) (h2 : 0 ≤ x2) (h3 : x2 ≤ F 100 2) (hd : RD F F1 G G1 (cBs F)) (hb : BF (F 100) (cBs F) (F 100 4) G1)
    (hq : ∀ F2 G2, RD F F2 G G2 (cBs F) → 0 ≤ sHlB F x1 (F 100 2 - x2).toNat x2 → Q (.inl (some (.inl (sHlB F x1 (F 100 2 - x2).toNat x2)))) (mm S F2 G2))
    (hk : ∀ F2 G2, RD F F2 G G2 (cBs F) → BF (F 100) (cBs F) (F 100 4) G2 → sHlB F x1 (F 100 2 - x2).toNat x2 = -1 → wph 9 192 21 [.inr (.inr (.inl 97)), .inl (x1 + 1)] [] (mm S F2 G2) (0, 0) Q) : wph 9 192 35 [.inr (.inr (.inl 97)), .inl x1, .inl x2] [] (mm S F1 G1) (0, 0) Q := by
  have hv := hm.1
  obtain ⟨⟨hv1, hv2⟩, ⟨hv3, hv4⟩, ⟨hv5, hv6⟩, ⟨hv7, hv8⟩, ⟨hv9, hv10⟩, ⟨hv11, hv12⟩, ⟨hv13, hv14⟩, hvw, hvs, hvk, hvc, hvx⟩ := id hv
  have cv : CV (F 100) (F 100 4) (cBs F) := sCf_v (w := mL F) (F 100 4) hv hm.2.1
  refine sg_192_35 ?_
  rw [hd.1.1 100 kp100]
  refine cn_i (fun h => ?_) (fun h => ?_)
  · have cp : CV (F 100) (F 100 4) (cPct (cBs F) x1 x2) := cPct_v cv (fun q => by omega)
    have en : (F 100 2 - x2).toNat = (F 100 2 - (x2 + 1)).toNat + 1 := by omega
    have eH : sHlB F x1 (F 100 2 - x2).toNat x2 = @ite _ (0 < sGn F (cPct (cBs F) x1 x2) x1 ∧ 0 < sGn F (cPct (cBs F) x1 x2) x2) (Classical.propDecidable _) (10 * x1 + x2) (sHlB F x1 (F 100 2 - (x2 + 1)).toNat (x2 + 1)) := by rw [en]; rfl
    try simp (disch := omega) only [wr_id]
    refine c_190 hm cv rfl hd h0 (fun F2 G2 hd2 tn h124 => ?_)
    have hb2 : BF (F 100) (cBs F) (F 100 4) G2 := fun k a b => by rw [h124]; exact hb k a b
    have nxt : ¬ (0 < sGn F (cPct (cBs F) x1 x2) x1 ∧ 0 < sGn F (cPct (cBs F) x1 x2) x2) → wph 9 192 35 [.inr (.inr (.inl 97)), .inl x1, .inl (x2 + 1)] [] (mm S F2 G2) (0, 0) Q := by
      intro hn
      rw [if_neg hn] at eH
      rw [eH] at hq hk
      exact l_192_35 hm h0 h1 (by omega) (by omega) hd2 hb2 hq hk
    refine c_146 hv (by omega) (by omega) tn h0 h1 (fun v e => ck_i (by (first | exact jb_i (by (first | assumption | omega | (simp (disch := omega) only [wr_id]; omega))) (by (first | assumption | omega | (simp (disch := omega) only [wr_id]; omega))) | exact jo_i (by omega) | exact jz_i (by omega) | rfl | (simp only [*]; first | rfl | exact jb_i (by (first | assumption | omega | (simp (disch := omega) only [wr_id]; omega))) (by (first | assumption | omega | (simp (disch := omega) only [wr_id]; omega)))))) ?_)
    have g1 := gn_i (sNow_b hv (by omega) (by omega) cp h0 h1) (sNow_b hv (by omega) (by omega) cv h0 h1)
    rw [hb2 x1 h0 h1, e]
    refine cn_i (fun g => ?_) (fun g => ?_)
    · refine c_146 hv (by omega) (by omega) tn h2 h (fun v2 e2 => ck_i (by (first | exact jb_i (by (first | assumption | omega | (simp (disch := omega) only [wr_id]; omega))) (by (first | assumption | omega | (simp (disch := omega) only [wr_id]; omega))) | exact jo_i (by omega) | exact jz_i (by omega) | rfl | (simp only [*]; first | rfl | exact jb_i (by (first | assumption | omega | (simp (disch := omega) only [wr_id]; omega))) (by (first | assumption | omega | (simp (disch := omega) only [wr_id]; omega)))))) ?_)
      have g2 := gn_i (sNow_b hv (by omega) (by omega) cp h2 h) (sNow_b hv (by omega) (by omega) cv h2 h)
      rw [hb2 x2 h2 h, e2]
      refine cn_i (fun gg => ?_) (fun gg => ?_)
      · rw [if_pos ⟨g1.mp g, g2.mp gg⟩] at eH
        have := hq F2 G2 hd2 (by rw [eH]; omega)
        rw [eH] at this
        exact this
      · exact nxt (fun r => gg (g2.mpr r.2))
    · exact nxt (fun r => g (g1.mpr r.1))
  · have e : (F 100 2 - x2).toNat = 0 := by omega
    try simp (disch := omega) only [wr_id]
    exact hk F1 G1 hd hb (by rw [e]; rfl)
termination_by (F 100 2 - x2).toNat
decreasing_by omega
theorem l_192_21 {Q : Rs → Mm → Prop} {x1 : Int} {S : FS} {F F1 : FI} {G G1 : FJ} (hm : MV F G) (h0 : 0 ≤ x1) (h1 : x1 ≤ F 100 2) (hd : RD F F1 G G1 (cBs F)) (hb : BF (F 100) (cBs F) (F 100 4) G1)
    (hq : ∀ F2 G2, RD F F2 G G2 (cBs F) → Q (.inl (some (.inl (sHlA F (F 100 2 - x1).toNat x1)))) (mm S F2 G2)) : wph 9 192 21 [.inr (.inr (.inl 97)), .inl x1] [] (mm S F1 G1) (0, 0) Q := by
  have hv := hm.1
  obtain ⟨⟨hv1, hv2⟩, ⟨hv3, hv4⟩, ⟨hv5, hv6⟩, ⟨hv7, hv8⟩, ⟨hv9, hv10⟩, ⟨hv11, hv12⟩, ⟨hv13, hv14⟩, hvw, hvs, hvk, hvc, hvx⟩ := id hv
  refine sg_192_21 ?_
  rw [hd.1.1 100 kp100]
  refine cn_i (fun h => ?_) (fun h => ?_)
  · have en : (F 100 2 - x1).toNat = (F 100 2 - (x1 + 1)).toNat + 1 := by omega
    have eH : sHlA F (F 100 2 - x1).toNat x1 = if sHlB F x1 (F 100 2 - (x1 + 1)).toNat (x1 + 1) = -1 then sHlA F (F 100 2 - (x1 + 1)).toNat (x1 + 1) else sHlB F x1 (F 100 2 - (x1 + 1)).toNat (x1 + 1) := by rw [en]; rfl
    try simp (disch := omega) only [wr_id]
    refine l_192_35 hm h0 h (by omega) (by omega) hd hb (fun F2 G2 hd2 hp => ?_) (fun F2 G2 hd2 hb2 hp => ?_)
    · have := hq F2 G2 hd2
      rw [eH, if_neg (by omega)] at this
      exact this
    · rw [eH, if_pos hp] at hq
      exact l_192_21 hm (by omega) (by omega) hd2 hb2 hq
  · have e : (F 100 2 - x1).toNat = 0 := by omega
    have := hq F1 G1 hd
    rw [e] at this
    exact this
termination_by (F 100 2 - x1).toNat
decreasing_by omega
theorem q_192 {k : Int → FS → FI → FJ → Prop} {S : FS} {F : FI} {G : FJ} (hM : F 97 12 ≠ 0 → MV F G) (noL : F 97 12 = 0 → k 0 S (rfs (zF F) 1 3) G) (ok : F 97 12 ≠ 0 → ∀ F' G', QP F F' G G' → k (sHlA (zF F) (F 100 2).toNat 0) S F' G') : calI 9 192 [.inr (.inr (.inl 97))] (mm S F G) k nof := by
  refine sg_192_0 ?_
  rw [show u2 F 97 0 0 = zF F from rfl]
  refine c_109 z_0 (by decide) (fun hl => cn_1 ?_) (fun hl => cn_0 ⟨_, _, _, rfl, noL (here_z hl)⟩)
  have hl := here_n hl
  have hm := hM hl
  have hv := hm.1
  have hz := MV_z hm
  obtain ⟨⟨hv1, hv2⟩, ⟨hv3, hv4⟩, ⟨hv5, hv6⟩, ⟨hv7, hv8⟩, ⟨hv9, hv10⟩, ⟨hv11, hv12⟩, ⟨hv13, hv14⟩, hvw, hvs, hvk, hvc, hvx⟩ := id hv
  have e0 : zF F 100 = F 100 := z_n (by decide)
  refine c_166 hz (fun F1 G1 hd ht hb => ?_)
  refine l_192_21 (F := zF F) hz (by omega) (by rw [e0]; omega) hd hb (fun F2 G2 hd2 => ⟨_, _, _, rfl, ?_⟩)
  rw [e0, show (F 100 2 - 0).toNat = (F 100 2).toNat by omega]
  exact ok hl F2 G2 (QP_d hd2 rfl)
theorem q_193 {k : Int → FS → FI → FJ → Prop} {S : FS} {F : FI} {G : FJ} (hM : F 97 12 ≠ 0 → MV F G) (noL : F 97 12 = 0 → k 0 S (rfs (zF F) 1 3) G) (ok : F 97 12 ≠ 0 → ∀ F' G', QP F F' G G' → k (sAll (F 100) (cVot (cBs F) 1) (F 100 4)) S F' G') : calL 7 193 [.inr (.inr (.inl 97))] (mm S F G) k nof := by
  refine sg_193_0 ?_
  rw [show u2 F 97 0 0 = zF F from rfl]
  refine c_109 z_0 (by decide) (fun hl => cn_1 ?_) (fun hl => cn_0 ⟨_, _, _, rfl, noL (here_z hl)⟩)
  have hl := here_n hl
  have hm := hM hl
  have hv := hm.1
  have hz := MV_z hm
  obtain ⟨⟨hv1, hv2⟩, ⟨hv3, hv4⟩, ⟨hv5, hv6⟩, ⟨hv7, hv8⟩, ⟨hv9, hv10⟩, ⟨hv11, hv12⟩, ⟨hv13, hv14⟩, hvw, hvs, hvk, hvc, hvx⟩ := id hv
  have e0 : zF F 100 = F 100 := z_n (by decide)
  have cv : CV (F 100) (F 100 4) (cBs F) := sCf_v (w := mL F) (F 100 4) hv hm.2.1
  refine c_143 hz (fun F1 G1 hd => ?_)
  rw [show sCf (zF F 100) (zF F 112) (mL (zF F)) = cBs F from z_B F] at hd
  refine c_play hz (RD_vot hd) (by rw [e0]; exact cVot_v cv) (fun F2 G2 hd2 ht2 _ _ => ?_)
  have tn := TN_of hd2 ht2
  rw [e0] at tn
  refine c_147 hv (by omega) (by omega) (cVot_v cv) ⟨by rw [u2_o (by decide)]; exact tn.1, by rw [u2_n (by decide)]; exact tn.2.1, tn.2.2⟩ (fun v e => ⟨_, _, _, rfl, ?_⟩)
  rw [e]
  have := RD_vot (v := 0) hd2
  exact ok hl _ G2 (QP_d this rfl)
