/-! ===== the reference answers: what would be gained ===== -/
theorem RD_j {F F' : FI} {G G' : FJ} {c : Cf} {i : Nat} {v : Int} (h : RD F F' G G' c) : RD F F' G (u2 G' 124 i v) c := by
  obtain ⟨d1, d2, d3, d4, d5, d6, d7⟩ := h
  exact ⟨PM_j d1 (Or.inr (by decide)), d2, d3, d4, d5, RDY_c d6 rfl rfl (u2_o (by decide)) (u2_o (by decide)), ⟨by rw [u2_o (by decide)]; exact d7.1, by rw [u2_o (by decide)]; exact d7.2.1, by rw [u2_o (by decide)]; exact d7.2.2⟩⟩
theorem TB_j {l : Nat → Int} {c : Cf} {st : Int} {F : FI} {G : FJ} {i : Nat} {v : Int} (h : TB l c st F G) : TB l c st F (u2 G 124 i v) := ⟨h.1, by rw [u2_o (by decide)]; exact h.2⟩
/-- what each had before -/
def BF (l : Nat → Int) (c : Cf) (st : Int) (G : FJ) : Prop := ∀ k, 0 ≤ k → k < l 2 → G 124 k.toNat = sNow l c st k
theorem l_166_6 {Q : Rs → Mm → Prop} {x1 : Int} {S : FS} {F F1 : FI} {G G1 : FJ} {c : Cf} (hm : MV F G) (hc : CV (F 100) (F 100 4) c) (hd : RD F F1 G G1 c) (ht : TB (F 100) c (F 100 4) F1 G1) (h0 : 0 ≤ x1) (h1 : x1 ≤ F 100 2) (hb : ∀ k, 0 ≤ k → k < x1 → G1 124 k.toNat = sNow (F 100) c (F 100 4) k)
    (hq : ∀ G2, RD F F1 G G2 c → TB (F 100) c (F 100 4) F1 G2 → BF (F 100) c (F 100 4) G2 → Q (.inl none) (mm S F1 G2)) : wph 8 166 6 [.inr (.inr (.inl 97)), .inl x1] [] (mm S F1 G1) (0, 0) Q := by
  have hv := hm.1
  obtain ⟨⟨hv1, hv2⟩, ⟨hv3, hv4⟩, ⟨hv5, hv6⟩, ⟨hv7, hv8⟩, ⟨hv9, hv10⟩, ⟨hv11, hv12⟩, ⟨hv13, hv14⟩, hvw, hvs, hvk, hvc, hvx⟩ := id hv
  refine sg_166_6 ?_
  rw [hd.1.1 100 kp100]
  refine cn_i (fun h => ?_) (fun h => ?_)
  · refine c_146 hv (by omega) (by omega) (TN_of hd ht) h0 h (fun v e => ?_)
    try simp (disch := omega) only [wr_id]
    refine ck_i (by (first | exact jb_i (by (first | assumption | omega | (simp (disch := omega) only [wr_id]; omega))) (by (first | assumption | omega | (simp (disch := omega) only [wr_id]; omega))) | exact jo_i (by omega) | exact jz_i (by omega) | rfl | (simp only [*]; first | rfl | exact jb_i (by (first | assumption | omega | (simp (disch := omega) only [wr_id]; omega))) (by (first | assumption | omega | (simp (disch := omega) only [wr_id]; omega)))))) ?_
    refine l_166_6 hm hc (RD_j hd) (TB_j ht) (by omega) (by omega) (fun k a b => ?_) hq
    rw [u2_k]
    by_cases q : k = x1
    · rw [q, if_pos rfl, e]
    · rw [if_neg (by omega)]
      exact hb k a (by omega)
  · exact hq G1 hd ht (fun k a b => hb k a (by omega))
termination_by (F 100 2 - x1).toNat
decreasing_by omega
theorem c_166 {k : FS → FI → FJ → Prop} {S : FS} {F : FI} {G : FJ} (hm : MV F G) (hk : ∀ F' G', RD F F' G G' (cBs F) → TB (F 100) (cBs F) (F 100 4) F' G' → BF (F 100) (cBs F) (F 100 4) G' → k S F' G') : calV 8 166 [.inr (.inr (.inl 97))] (mm S F G) k nof := by
  have hv := hm.1
  obtain ⟨⟨hv1, hv2⟩, ⟨hv3, hv4⟩, ⟨hv5, hv6⟩, ⟨hv7, hv8⟩, ⟨hv9, hv10⟩, ⟨hv11, hv12⟩, ⟨hv13, hv14⟩, hvw, hvs, hvk, hvc, hvx⟩ := id hv
  refine sg_166_0 ?_
  refine c_144 hm (fun F1 G1 hd ht => ?_)
  exact l_166_6 hm (sCf_v _ hv hm.2.1) hd ht (by omega) (by omega) (fun k a b => by omega) (fun G2 h1 h2 h3 => ⟨_, _, _, rfl, hk F1 G2 h1 h2 h3⟩)
theorem cLed_v {l : Nat → Int} {st h k : Int} {c : Cf} (hc : CV l st c) (h0 : 0 ≤ k) (h1 : k < l 2) : CV l st (cLed c h k) := by
  obtain ⟨c1, c2⟩ := hc
  refine ⟨fun x a b => ?_, c2⟩
  show 0 ≤ (if x = h then k else c.1 x) ∧ (if x = h then k else c.1 x) < l 2
  split
  · exact ⟨h0, h1⟩
  · exact c1 x a b
theorem cKnd_v {l : Nat → Int} {st k d : Int} {c : Cf} (hc : CV l st c) : CV l st (cKnd c k d) := hc
theorem cPct_v {l : Nat → Int} {st a b : Int} {c : Cf} (hc : CV l st c) (h : a = -1 → b = -1) : CV l st (cPct c a b) := ⟨hc.1, hc.2.1, hc.2.2.1, hc.2.2.2.1, h⟩
theorem cVot_v {l : Nat → Int} {st : Int} {c : Cf} (hc : CV l st c) : CV l st (cVot c 1) := ⟨hc.1, hc.2.1, hc.2.2.1, Or.inr rfl, hc.2.2.2.2⟩
theorem c_167 {k : FS → FI → FJ → Prop} {x1 x2 : Int} {S : FS} {F F1 : FI} {G G1 : FJ} {c : Cf} (hm : MV F G) (hc : CV (F 100) (F 100 4) c) (hd : RD F F1 G G1 c) (h0 : 0 ≤ x1) (h1 : x1 < F 100 3) (h2 : 0 ≤ x2) (h3 : x2 < F 100 2)
    (hk : ∀ F' G', RD F F' G G' (cLed c x1 x2) → TB (F 100) (cLed c x1 x2) (F 100 4) F' G' → G' 124 = G1 124 → k S F' G') : calV 7 167 [.inr (.inr (.inl 97)), .inl x1, .inl x2] (mm S F1 G1) k nof := by
  have hv := hm.1
  obtain ⟨⟨hv1, hv2⟩, ⟨hv3, hv4⟩, ⟨hv5, hv6⟩, ⟨hv7, hv8⟩, ⟨hv9, hv10⟩, ⟨hv11, hv12⟩, ⟨hv13, hv14⟩, hvw, hvs, hvk, hvc, hvx⟩ := id hv
  refine sg_167_0 ?_
  refine ck_i (by (first | exact jb_i (by (first | assumption | omega | (simp (disch := omega) only [wr_id]; omega))) (by (first | assumption | omega | (simp (disch := omega) only [wr_id]; omega))) | exact jo_i (by omega) | exact jz_i (by omega) | rfl | (simp only [*]; first | rfl | exact jb_i (by (first | assumption | omega | (simp (disch := omega) only [wr_id]; omega))) (by (first | assumption | omega | (simp (disch := omega) only [wr_id]; omega)))))) ?_
  exact c_play hm (RD_led hd h0) (cLed_v hc h2 h3) (fun F2 G2 a b _ d => ⟨_, _, _, rfl, hk F2 G2 a b (d 124 (by decide) (by decide))⟩)
/-- what one gains, if it were as c says -/
noncomputable def sGn (F : FI) (c : Cf) (k : Int) : Int := sNow (F 100) c (F 100 4) k - sNow (F 100) (cBs F) (F 100 4) k
theorem sub_5 {a b : Int} (h1 : B5 a) (h2 : B5 b) : wl (a - b) = a - b ∧ -2251799813685248 ≤ a - b ∧ a - b ≤ 2251799813685248 := by
  unfold B5 at h1 h2
  exact ⟨wl_id (by omega) (by omega), by omega, by omega⟩
theorem q_168 {k : Int → FS → FI → FJ → Prop} {x1 x2 : Int} {S : FS} {F : FI} {G : FJ} (hM : F 97 12 ≠ 0 → MV F G) (noL : F 97 12 = 0 → k 0 S (rfs (zF F) 3 3) G) (noP : F 97 12 ≠ 0 → ¬ (0 ≤ x1 ∧ x1 < F 100 2) → k 0 S (rfs (zF F) 1 0) G)
    (noA : F 97 12 ≠ 0 → 0 ≤ x1 ∧ x1 < F 100 2 → ¬ (0 ≤ x2 ∧ x2 < F 100 3) → k 0 S (rfs (zF F) 2 2) G)
    (ok : F 97 12 ≠ 0 → 0 ≤ x1 ∧ x1 < F 100 2 → 0 ≤ x2 ∧ x2 < F 100 3 → ∀ F' G', QP F F' G G' → k (sGn F (cLed (cBs F) x2 x1) x1) S F' G') : calL 9 168 [.inr (.inr (.inl 97)), .inl x1, .inl x2] (mm S F G) k nof := by
  refine sg_168_0 ?_
  rw [show u2 F 97 0 0 = zF F from rfl]
  refine c_109 z_0 (by decide) (fun hl => cn_1 ?_) (fun hl => cn_0 ⟨_, _, _, rfl, noL (here_z hl)⟩)
  have hl := here_n hl
  have hm := hM hl
  have hv := hm.1
  have hz := MV_z hm
  obtain ⟨⟨hv1, hv2⟩, ⟨hv3, hv4⟩, ⟨hv5, hv6⟩, ⟨hv7, hv8⟩, ⟨hv9, hv10⟩, ⟨hv11, hv12⟩, ⟨hv13, hv14⟩, hvw, hvs, hvk, hvc, hvx⟩ := id hv
  have e0 : zF F 100 = F 100 := z_n (by decide)
  have cv : CV (F 100) (F 100 4) (cBs F) := sCf_v (w := mL F) (F 100 4) hv hm.2.1
  refine c_110 z_0 (by decide) (by rw [e0]; omega) (by rw [e0]; omega) (fun p1 p2 => cn_1 ?_) (fun q => cn_0 ⟨_, _, _, rfl, noP hl (by rw [e0] at q; exact q)⟩)
  rw [e0] at p2
  refine c_165 (by rw [e0]; omega) (by rw [e0]; omega) (fun a1 a2 => ?_) (fun ha => ?_)
  · rw [e0] at a2
    refine c_69 z_0 (by decide) (by decide) (by decide) (fun _ => cn_1 ?_) (fun q => absurd q (by decide))
    refine c_166 hz (fun F1 G1 hd ht hb => ?_)
    rw [z_B] at hd ht hb
    rw [e0] at ht hb
    refine c_167 hz (by rw [e0]; exact cv) hd a1 (by rw [e0]; exact a2) p1 (by rw [e0]; exact p2) (fun F2 G2 hd2 ht2 h124 => ?_)
    have tn := TN_of hd2 ht2
    rw [e0] at tn
    refine c_146 hv (by omega) (by omega) tn p1 p2 (fun v e => ?_)
    refine ck_i (by (first | exact jb_i (by (first | assumption | omega | (simp (disch := omega) only [wr_id]; omega))) (by (first | assumption | omega | (simp (disch := omega) only [wr_id]; omega))) | exact jo_i (by omega) | exact jz_i (by omega) | rfl | (simp only [*]; first | rfl | exact jb_i (by (first | assumption | omega | (simp (disch := omega) only [wr_id]; omega))) (by (first | assumption | omega | (simp (disch := omega) only [wr_id]; omega)))))) ⟨_, _, _, rfl, ?_⟩
    rw [h124, hb x1 p1 p2, e, (sub_5 (sNow_b hv (by omega) (by omega) (cLed_v cv p1 p2) p1 p2) (sNow_b hv (by omega) (by omega) cv p1 p2)).1]
    exact ok hl ⟨p1, p2⟩ ⟨a1, a2⟩ F2 G2 (QP_d hd2 rfl)
  · rw [e0] at ha
    exact c_69 z_0 (by decide) (by decide) (by decide) (fun q => absurd rfl q) (fun _ => cn_0 ⟨_, _, _, rfl, noA hl ⟨p1, p2⟩ ha⟩)
theorem q_170 {k : Int → FS → FI → FJ → Prop} {x1 x2 : Int} {S : FS} {F : FI} {G : FJ} (hM : F 97 12 ≠ 0 → MV F G) (noL : F 97 12 = 0 → k 0 S (rfs (zF F) 3 3) G) (noP : F 97 12 ≠ 0 → ¬ (0 ≤ x2 ∧ x2 < F 100 2) → k 0 S (rfs (zF F) 1 0) G)
    (noA : F 97 12 ≠ 0 → 0 ≤ x2 ∧ x2 < F 100 2 → ¬ (0 ≤ x1 ∧ x1 < F 100 3) → k 0 S (rfs (zF F) 2 2) G)
    (ok : F 97 12 ≠ 0 → 0 ≤ x2 ∧ x2 < F 100 2 → 0 ≤ x1 ∧ x1 < F 100 3 → ∀ F' G', QP F F' G G' → k (sGn F (cLed (cBs F) x1 x2) x2 + sGn F (cLed (cBs F) x1 x2) (sLd (F 100) (F 112) x1)) S F' G') : calL 9 170 [.inr (.inr (.inl 97)), .inl x1, .inl x2] (mm S F G) k nof := by
  refine sg_170_0 ?_
  rw [show u2 F 97 0 0 = zF F from rfl]
  refine c_109 z_0 (by decide) (fun hl => cn_1 ?_) (fun hl => cn_0 ⟨_, _, _, rfl, noL (here_z hl)⟩)
  have hl := here_n hl
  have hm := hM hl
  have hv := hm.1
  have hz := MV_z hm
  obtain ⟨⟨hv1, hv2⟩, ⟨hv3, hv4⟩, ⟨hv5, hv6⟩, ⟨hv7, hv8⟩, ⟨hv9, hv10⟩, ⟨hv11, hv12⟩, ⟨hv13, hv14⟩, hvw, hvs, hvk, hvc, hvx⟩ := id hv
  have e0 : zF F 100 = F 100 := z_n (by decide)
  have cv := sCf_v (w := mL F) (F 100 4) hv hm.2.1
  refine c_110 z_0 (by decide) (by rw [e0]; omega) (by rw [e0]; omega) (fun p1 p2 => cn_1 ?_) (fun q => cn_0 ⟨_, _, _, rfl, noP hl (by rw [e0] at q; exact q)⟩)
  rw [e0] at p2
  refine c_165 (by rw [e0]; omega) (by rw [e0]; omega) (fun a1 a2 => ?_) (fun ha => ?_)
  · rw [e0] at a2
    have lb := sLd_b hv hm.2.1 a1 (by omega)
    refine c_69 z_0 (by decide) (by decide) (by decide) (fun _ => cn_1 ?_) (fun q => absurd q (by decide))
    refine c_166 hz (fun F1 G1 hd ht hb => ?_)
    rw [z_B] at hd ht hb
    rw [e0] at ht hb
    have e114 : F1 114 x1.toNat = sLd (F 100) (F 112) x1 := hd.2.2.2.2.1.1 x1 a1 (by rw [e0]; exact a2)
    refine ck_i (by (first | exact jb_i (by (first | assumption | omega | (simp (disch := omega) only [wr_id]; omega))) (by (first | assumption | omega | (simp (disch := omega) only [wr_id]; omega))) | exact jo_i (by omega) | exact jz_i (by omega) | rfl | (simp only [*]; first | rfl | exact jb_i (by (first | assumption | omega | (simp (disch := omega) only [wr_id]; omega))) (by (first | assumption | omega | (simp (disch := omega) only [wr_id]; omega)))))) ?_
    rw [e114]
    refine c_167 hz (by rw [e0]; exact cv) hd a1 (by rw [e0]; exact a2) p1 (by rw [e0]; exact p2) (fun F2 G2 hd2 ht2 h124 => ?_)
    have tn := TN_of hd2 ht2
    rw [e0] at tn
    refine c_146 hv (by omega) (by omega) tn p1 p2 (fun v e => ?_)
    refine ck_i (by (first | exact jb_i (by (first | assumption | omega | (simp (disch := omega) only [wr_id]; omega))) (by (first | assumption | omega | (simp (disch := omega) only [wr_id]; omega))) | exact jo_i (by omega) | exact jz_i (by omega) | rfl | (simp only [*]; first | rfl | exact jb_i (by (first | assumption | omega | (simp (disch := omega) only [wr_id]; omega))) (by (first | assumption | omega | (simp (disch := omega) only [wr_id]; omega)))))) (ck_i (by (first | exact jb_i (by (first | assumption | omega | (simp (disch := omega) only [wr_id]; omega))) (by (first | assumption | omega | (simp (disch := omega) only [wr_id]; omega))) | exact jo_i (by omega) | exact jz_i (by omega) | rfl | (simp only [*]; first | rfl | exact jb_i (by (first | assumption | omega | (simp (disch := omega) only [wr_id]; omega))) (by (first | assumption | omega | (simp (disch := omega) only [wr_id]; omega)))))) ?_)
    refine c_146 hv (by omega) (by omega) tn lb.1 lb.2 (fun v2 e2 => ⟨_, _, _, rfl, ?_⟩)
    have s1 := sub_5 (sNow_b hv (by omega) (by omega) (cLed_v (h := x1) cv p1 p2) p1 p2) (sNow_b hv (by omega) (by omega) cv p1 p2)
    have s2 := sub_5 (sNow_b hv (by omega) (by omega) cv lb.1 lb.2) (sNow_b hv (by omega) (by omega) (cLed_v (h := x1) cv p1 p2) lb.1 lb.2)
    have ok' := ok hl ⟨p1, p2⟩ ⟨a1, a2⟩ F2 G2 (QP_d hd2 rfl)
    rw [h124, hb x2 p1 p2, hb _ lb.1 lb.2, e, e2]
    unfold cBs at ok' ⊢
    rw [s1.1, s2.1, wl_id (by omega) (by omega)]
    unfold sGn at ok'
    unfold cBs at ok'
    rw [show ∀ a b c d : Int, a - b - (c - d) = a - b + (d - c) from fun a b c d => by omega]
    exact ok'
  · rw [e0] at ha
    exact c_69 z_0 (by decide) (by decide) (by decide) (fun q => absurd rfl q) (fun _ => cn_0 ⟨_, _, _, rfl, noA hl ⟨p1, p2⟩ ha⟩)
theorem c_186 {k : Int → FS → FI → FJ → Prop} {x1 x2 : Int} {S : FS} {F F1 : FI} {G G1 : FJ} {c : Cf} (hm : MV F G) (hc : CV (F 100) (F 100 4) c) (hd : RD F F1 G G1 c) (h0 : 0 ≤ x1) (h1 : x1 < F 100 2)
    (hk : ∀ F' G', RD F F' G G' (cKnd c x1 x2) → k (sNow (F 100) (cKnd c x1 x2) (F 100 4) x1) S F' G') : calL 7 186 [.inr (.inr (.inl 97)), .inl x1, .inl x2] (mm S F1 G1) k nof := by
  have hv := hm.1
  obtain ⟨⟨hv1, hv2⟩, ⟨hv3, hv4⟩, ⟨hv5, hv6⟩, ⟨hv7, hv8⟩, ⟨hv9, hv10⟩, ⟨hv11, hv12⟩, ⟨hv13, hv14⟩, hvw, hvs, hvk, hvc, hvx⟩ := id hv
  refine sg_186_0 ?_
  refine ck_i (by (first | exact jb_i (by (first | assumption | omega | (simp (disch := omega) only [wr_id]; omega))) (by (first | assumption | omega | (simp (disch := omega) only [wr_id]; omega))) | exact jo_i (by omega) | exact jz_i (by omega) | rfl | (simp only [*]; first | rfl | exact jb_i (by (first | assumption | omega | (simp (disch := omega) only [wr_id]; omega))) (by (first | assumption | omega | (simp (disch := omega) only [wr_id]; omega)))))) ?_
  refine c_play hm (RD_knd hd h0) (cKnd_v hc) (fun F2 G2 a b _ _ => ?_)
  exact c_146 hv (by omega) (by omega) (TN_of a b) h0 h1 (fun v e => ⟨_, _, _, rfl, by rw [e]; exact hk F2 G2 a⟩)
theorem cKnd_2 (c : Cf) (k a b : Int) : cKnd (cKnd c k a) k b = cKnd c k b := by
  unfold cKnd
  congr 2
  funext x
  by_cases q : x = k
  · simp [q]
  · simp [q]
theorem q_187 {k : Int → FS → FI → FJ → Prop} {x1 : Int} {S : FS} {F : FI} {G : FJ} (hM : F 97 12 ≠ 0 → MV F G) (noL : F 97 12 = 0 → k 0 S (rfs (zF F) 2 3) G) (noP : F 97 12 ≠ 0 → ¬ (0 ≤ x1 ∧ x1 < F 100 2) → k 0 S (rfs (zF F) 1 0) G)
    (ok : F 97 12 ≠ 0 → 0 ≤ x1 ∧ x1 < F 100 2 → ∀ F' G', QP F F' G G' → k (sNow (F 100) (cKnd (cBs F) x1 0) (F 100 4) x1 - sNow (F 100) (cKnd (cBs F) x1 4) (F 100 4) x1) S F' G') : calL 8 187 [.inr (.inr (.inl 97)), .inl x1] (mm S F G) k nof := by
  refine sg_187_0 ?_
  rw [show u2 F 97 0 0 = zF F from rfl]
  refine c_109 z_0 (by decide) (fun hl => cn_1 ?_) (fun hl => cn_0 ⟨_, _, _, rfl, noL (here_z hl)⟩)
  have hl := here_n hl
  have hm := hM hl
  have hv := hm.1
  have hz := MV_z hm
  obtain ⟨⟨hv1, hv2⟩, ⟨hv3, hv4⟩, ⟨hv5, hv6⟩, ⟨hv7, hv8⟩, ⟨hv9, hv10⟩, ⟨hv11, hv12⟩, ⟨hv13, hv14⟩, hvw, hvs, hvk, hvc, hvx⟩ := id hv
  have e0 : zF F 100 = F 100 := z_n (by decide)
  have cv : CV (F 100) (F 100 4) (cBs F) := sCf_v (w := mL F) (F 100 4) hv hm.2.1
  refine c_110 z_0 (by decide) (by rw [e0]; omega) (by rw [e0]; omega) (fun p1 p2 => cn_1 ?_) (fun q => cn_0 ⟨_, _, _, rfl, noP hl (by rw [e0] at q; exact q)⟩)
  rw [e0] at p2
  refine c_143 hz (fun F1 G1 hd => ?_)
  rw [show sCf (zF F 100) (zF F 112) (mL (zF F)) = cBs F from z_B F] at hd
  refine c_186 hz (by rw [e0]; exact cv) hd p1 (by rw [e0]; exact p2) (fun F2 G2 hd2 => ?_)
  refine c_186 hz (by rw [e0]; exact cKnd_v cv) hd2 p1 (by rw [e0]; exact p2) (fun F3 G3 hd3 => ⟨_, _, _, rfl, ?_⟩)
  rw [e0, cKnd_2, (sub_5 (sNow_b hv (by omega) (by omega) (cKnd_v cv) p1 p2) (sNow_b hv (by omega) (by omega) (cKnd_v cv) p1 p2)).1]
  exact ok hl ⟨p1, p2⟩ F3 G3 (QP_d hd3 rfl)
theorem q_189 {k : Int → FS → FI → FJ → Prop} {x1 : Int} {S : FS} {F : FI} {G : FJ} (hM : F 97 12 ≠ 0 → MV F G) (noL : F 97 12 = 0 → k 0 S (rfs (zF F) 2 3) G) (noP : F 97 12 ≠ 0 → ¬ (0 ≤ x1 ∧ x1 < F 100 2) → k 0 S (rfs (zF F) 1 0) G)
    (ok : F 97 12 ≠ 0 → 0 ≤ x1 ∧ x1 < F 100 2 → ∀ F' G', QP F F' G G' → k (sAlone F x1 - sNow (F 100) (cBs F) (F 100 4) x1) S F' G') : calL 8 189 [.inr (.inr (.inl 97)), .inl x1] (mm S F G) k nof := by
  refine sg_189_0 ?_
  rw [show u2 F 97 0 0 = zF F from rfl]
  refine c_109 z_0 (by decide) (fun hl => cn_1 ?_) (fun hl => cn_0 ⟨_, _, _, rfl, noL (here_z hl)⟩)
  have hl := here_n hl
  have hm := hM hl
  have hv := hm.1
  have hz := MV_z hm
  obtain ⟨⟨hv1, hv2⟩, ⟨hv3, hv4⟩, ⟨hv5, hv6⟩, ⟨hv7, hv8⟩, ⟨hv9, hv10⟩, ⟨hv11, hv12⟩, ⟨hv13, hv14⟩, hvw, hvs, hvk, hvc, hvx⟩ := id hv
  have e0 : zF F 100 = F 100 := z_n (by decide)
  have cv : CV (F 100) (F 100 4) (cBs F) := sCf_v (w := mL F) (F 100 4) hv hm.2.1
  refine c_110 z_0 (by decide) (by rw [e0]; omega) (by rw [e0]; omega) (fun p1 p2 => cn_1 ?_) (fun q => cn_0 ⟨_, _, _, rfl, noP hl (by rw [e0] at q; exact q)⟩)
  rw [e0] at p2
  refine c_144 hz (fun F1 G1 hd ht => ?_)
  rw [show sCf (zF F 100) (zF F 112) (mL (zF F)) = cBs F from z_B F] at hd ht
  have tn := TN_of hd ht
  rw [e0] at tn
  have e31 : F1 97 31 = F 100 4 := tn.2.1
  have hw0 : vs (F 100) (F 100 4) 0 (F 100 6) (F 100 4) := ⟨by omega, by omega, hv13, hv14, by omega, Int.le_refl _⟩
  have al := hd.2.2.2.2.2.1.2.2.2.1 x1 0 (F 100 6) (F 100 4) p1 (by rw [e0]; exact p2) (by rw [e0]; exact hw0)
  rw [e0, z_M, show (F 100 3 - 0).toNat = (F 100 3).toNat by omega] at al
  have ab : B5 (sAlone F x1) := WB_5 hv (t := (F 100 3).toNat) (by omega) (sDr_b hv (by omega) (by omega) (MK_mask hv _ _ _) p1 p2 (fun _ _ _ => ⟨p1, p2⟩) _ (by omega) _ _ hv13 hv14 (by omega) (Int.le_refl _))
  refine c_145 (by rw [tn.1]; exact hv) (by omega) (by omega) (fun v e => ?_)
  rw [tn.1, e31] at e
  subst e
  try simp (disch := omega) only [wr_id]
  refine ck_i (by (first | exact jb_i (by (first | assumption | omega | (simp (disch := omega) only [wr_id]; omega))) (by (first | assumption | omega | (simp (disch := omega) only [wr_id]; omega))) | exact jo_i (by omega) | exact jz_i (by omega) | rfl | (simp only [*]; first | rfl | exact jb_i (by (first | assumption | omega | (simp (disch := omega) only [wr_id]; omega))) (by (first | assumption | omega | (simp (disch := omega) only [wr_id]; omega)))))) ?_
  refine c_146 hv (by omega) (by omega) tn p1 p2 (fun v2 e2 => ⟨_, _, _, rfl, ?_⟩)
  have ok' := ok hl ⟨p1, p2⟩ F1 G1 (QP_d hd rfl)
  rw [al, e2]
  have s1 := sub_5 ab (sNow_b hv (by omega) (by omega) cv p1 p2)
  unfold sAlone at s1 ok'
  rw [s1.1]
  exact ok'
