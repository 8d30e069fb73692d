/-! ===== the reference answers ===== -/
def zF (F : FI) : FI := u2 F 97 0 0
theorem z_0 {F : FI} : zF F 97 0 = 0 := u2_s
noncomputable def cBs (F : FI) : Cf := sCf (F 100) (F 112) (mL F)
theorem z_n {F : FI} {a : Nat} (h : a ≠ 97) : zF F a = F a := u2_o h
theorem z_f {F : FI} {i : Nat} (h : i ≠ 0) : zF F 97 i = F 97 i := u2_n h
theorem z_L (F : FI) : mL (zF F) = mL F := mL_c (z_f (by decide)) (z_n (by decide)) (z_n (by decide)) (z_n (by decide)) (z_n (by decide))
theorem z_B (F : FI) : cBs (zF F) = cBs F := by
  unfold cBs
  rw [z_n (by decide), z_n (by decide), z_L]
theorem z_M (F : FI) : mk0 (zF F) = mk0 F := by
  unfold mk0
  rw [z_n (by decide), z_L]
theorem MV_z {F : FI} {G : FJ} (h : MV F G) : MV (zF F) G := by
  obtain ⟨h1, h2, h3, ⟨⟨o1, o2, o3, o4⟩, k1, k2⟩, h5⟩ := h
  refine ⟨by rw [z_n (by decide)]; exact h1, by rw [z_n (by decide), z_n (by decide)]; exact h2, by rw [z_L]; exact h3, ⟨⟨by rw [z_f (by decide)]; exact o1, by rw [z_f (by decide)]; exact o2, by rw [z_f (by decide)]; exact o3, by rw [z_f (by decide)]; exact o4⟩, by rw [z_f (by decide)]; exact k1, fun q => ?_⟩, h5⟩
  rw [z_f (by decide)] at q
  rw [z_n (by decide), z_L]
  exact RDY_c (k2 q) (z_n (by decide)) (z_n (by decide)) rfl rfl
/-- a question leaves it so -/
def QP (F F' : FI) (G G' : FJ) : Prop := PM (zF F) F' G G' ∧ KNO F' G' ∧ GB G'
theorem QP_d {F F' : FI} {G G' : FJ} {c : Cf} (hd : RD (zF F) F' G G' c) (hc : c.2.2.2.2 = (-1, -1, 0)) : QP F F' G G' := ⟨hd.1, RD_K hd hc, hd.2.2.2.2.2.2⟩
theorem here_n {F : FI} (h : zF F 97 12 ≠ 0) : F 97 12 ≠ 0 := by rw [z_f (by decide)] at h; exact h
theorem here_z {F : FI} (h : zF F 97 12 = 0) : F 97 12 = 0 := by rw [z_f (by decide)] at h; exact h
theorem vs_of {l : Nat → Int} {p h n : Int} (h1 : isSt l p h n) : vs l (l 4) h p n := ⟨h1.2.2.1, h1.2.2.2.1, h1.1, h1.2.1, h1.2.2.2.2.1, h1.2.2.2.2.2⟩
/-- lawful moves as they are told -/
noncomputable def sNext (F : FI) (p h n : Int) : Int := if sEnd (F 100) h p n = 0 then mk0 F (sLd (F 100) (F 112) h) h p n else 0
theorem q_150 {k : Int → FS → FI → FJ → Prop} {x1 x2 x3 : Int} {S : FS} {F : FI} {G : FJ} (hM : F 97 12 ≠ 0 → MV F G) (noL : F 97 12 = 0 → k 0 S (rfs (zF F) 2 3) G) (noA : F 97 12 ≠ 0 → ¬ isSt (F 100) x1 x2 x3 → k 0 S (rfs (zF F) 1 2) G)
    (ok : F 97 12 ≠ 0 → isSt (F 100) x1 x2 x3 → ∀ F' G', QP F F' G G' → k (sNext F x1 x2 x3) S F' G') : calI 7 150 [.inr (.inr (.inl 97)), .inl x1, .inl x2, .inl x3] (mm S F G) k nof := by
  refine sg_150_0 ?_
  rw [show u2 F 97 0 0 = zF F from rfl]
  refine c_109 z_0 (by decide) (fun hl => cn_1 ?_) (fun hl => cn_0 ⟨_, _, _, rfl, noL (here_z hl)⟩)
  have hl := here_n hl
  have hm := hM hl
  have hv := hm.1
  have hz := MV_z hm
  obtain ⟨⟨hv1, hv2⟩, ⟨hv3, hv4⟩, ⟨hv5, hv6⟩, ⟨hv7, hv8⟩, ⟨hv9, hv10⟩, ⟨hv11, hv12⟩, ⟨hv13, hv14⟩, hvw, hvs, hvk, hvc, hvx⟩ := id hv
  have e0 : zF F 100 = F 100 := z_n (by decide)
  refine c_149 (by rw [e0]; omega) (by rw [e0]; omega) (fun ha => ?_) (fun ha => ?_)
  · rw [e0] at ha
    have hw := vs_of ha
    refine c_69 z_0 (by decide) (by decide) (by decide) (fun _ => cn_1 ?_) (fun q => absurd q (by decide))
    refine c_143 hz (fun F1 G1 hd => ?_)
    have hf := QP_d hd rfl
    obtain ⟨d1, d2, d3, d4, d5, d6, d7⟩ := hd
    have e100 : F1 100 = F 100 := (d1.1 100 kp100).trans e0
    have ok' := ok hl ha F1 G1 hf
    unfold vs at hw
    refine c_124 (by omega) (by omega) (fun v5 e5 => ?_)
    rw [e100] at e5
    refine cn_i (fun g => ?_) (fun g => ?_)
    · have he : sEnd (F 100) x2 x1 x3 = 0 := by omega
      have c2 := (sEnd_n he).2
      have e114 : F1 114 x2.toNat = sLd (F 100) (F 112) x2 := by
        have := d5.1 x2 hw.1 (by rw [e0]; omega)
        rw [show (mC F1 (mk0 (zF F))).1 x2 = F1 114 x2.toNat from rfl, e0, z_n (by decide)] at this
        exact this
      have lb := sLd_b hv hm.2.1 hw.1 (by omega)
      refine ck_i (by (first | exact jb_i (by (first | assumption | omega | (simp (disch := omega) only [wr_id]; omega))) (by (first | assumption | omega | (simp (disch := omega) only [wr_id]; omega))) | exact jo_i (by omega) | exact jz_i (by omega) | rfl | (simp only [*]; first | rfl | exact jb_i (by (first | assumption | omega | (simp (disch := omega) only [wr_id]; omega))) (by (first | assumption | omega | (simp (disch := omega) only [wr_id]; omega)))))) ?_
      refine c_123 (by omega) (by omega) (by omega) (by omega) (by omega) (by omega) (fun _ e => ?_)
      subst e
      rw [e114]
      refine c_130 (by omega) (by omega) (by omega) (by omega) (fun v7 e7 => ⟨_, _, _, rfl, ?_⟩)
      have := d6.1 (sLd (F 100) (F 112) x2) x2 x1 x3 lb.1 (by rw [e0]; exact lb.2) (by rw [e0]; exact hw) (by rw [e0]; exact he)
      rw [← e7, z_M] at this
      unfold sNext at ok'
      rw [if_pos he, ← this] at ok'
      exact ok'
    · unfold sNext at ok'
      rw [if_neg (by omega)] at ok'
      exact ⟨_, _, _, rfl, ok'⟩
  · rw [e0] at ha
    exact c_69 z_0 (by decide) (by decide) (by decide) (fun q => absurd rfl q) (fun _ => cn_0 ⟨_, _, _, rfl, noA hl ha⟩)
theorem q_151 {k : Int → FS → FI → FJ → Prop} {x1 x2 x3 : Int} {S : FS} {F : FI} {G : FJ} (hM : F 97 12 ≠ 0 → MV F G) (noL : F 97 12 = 0 → k 0 S (rfs (zF F) 2 3) G) (noA : F 97 12 ≠ 0 → ¬ isSt (F 100) x1 x2 x3 → k 0 S (rfs (zF F) 1 2) G)
    (ok : F 97 12 ≠ 0 → isSt (F 100) x1 x2 x3 → ∀ F' G', QP F F' G G' → k (sTk (F 100) (cBs F) (F 100 4) x2 x1 x3) S F' G') : calI 8 151 [.inr (.inr (.inl 97)), .inl x1, .inl x2, .inl x3] (mm S F G) k nof := by
  refine sg_151_0 ?_
  rw [show u2 F 97 0 0 = zF F from rfl]
  refine c_109 z_0 (by decide) (fun hl => cn_1 ?_) (fun hl => cn_0 ⟨_, _, _, rfl, noL (here_z hl)⟩)
  have hl := here_n hl
  have hm := hM hl
  have hv := hm.1
  have hz := MV_z hm
  obtain ⟨⟨hv1, hv2⟩, ⟨hv3, hv4⟩, ⟨hv5, hv6⟩, ⟨hv7, hv8⟩, ⟨hv9, hv10⟩, ⟨hv11, hv12⟩, ⟨hv13, hv14⟩, hvw, hvs, hvk, hvc, hvx⟩ := id hv
  have e0 : zF F 100 = F 100 := z_n (by decide)
  refine c_149 (by rw [e0]; omega) (by rw [e0]; omega) (fun ha => ?_) (fun ha => ?_)
  · rw [e0] at ha
    have hw := vs_of ha
    refine c_69 z_0 (by decide) (by decide) (by decide) (fun _ => cn_1 ?_) (fun q => absurd q (by decide))
    refine c_144 hz (fun F1 G1 hd ht => ?_)
    have ok' := ok hl ha F1 G1 (QP_d hd rfl)
    have t1 := ht.1 x2 x1 x3 (by rw [e0]; exact hw)
    rw [show sCf (zF F 100) (zF F 112) (mL (zF F)) = cBs F from z_B F, e0] at t1
    unfold vs at hw
    refine c_123 (by omega) (by omega) (by omega) (by omega) (by omega) (by omega) (fun _ e => ?_)
    subst e
    rw [← t1] at ok'
    exact ck_i (by (first | exact jb_i (by (first | assumption | omega | (simp (disch := omega) only [wr_id]; omega))) (by (first | assumption | omega | (simp (disch := omega) only [wr_id]; omega))) | exact jo_i (by omega) | exact jz_i (by omega) | rfl | (simp only [*]; first | rfl | exact jb_i (by (first | assumption | omega | (simp (disch := omega) only [wr_id]; omega))) (by (first | assumption | omega | (simp (disch := omega) only [wr_id]; omega)))))) ⟨_, _, _, rfl, ok'⟩
  · rw [e0] at ha
    exact c_69 z_0 (by decide) (by decide) (by decide) (fun q => absurd rfl q) (fun _ => cn_0 ⟨_, _, _, rfl, noA hl ha⟩)
theorem q_152 {k : Int → FS → FI → FJ → Prop} {x1 x2 x3 x4 : Int} {S : FS} {F : FI} {G : FJ} (hM : F 97 12 ≠ 0 → MV F G) (noL : F 97 12 = 0 → k 0 S (rfs (zF F) 3 3) G) (noP : F 97 12 ≠ 0 → ¬ (0 ≤ x1 ∧ x1 < F 100 2) → k 0 S (rfs (zF F) 1 0) G) (noA : F 97 12 ≠ 0 → 0 ≤ x1 ∧ x1 < F 100 2 → ¬ isSt (F 100) x2 x3 x4 → k 0 S (rfs (zF F) 2 2) G)
    (ok : F 97 12 ≠ 0 → 0 ≤ x1 ∧ x1 < F 100 2 → isSt (F 100) x2 x3 x4 → ∀ F' G', QP F F' G G' → k (sW (F 100) (cBs F) (F 100 4) (F 100 3 - x3).toNat x1 x2 x4) S F' G') : calL 8 152 [.inr (.inr (.inl 97)), .inl x1, .inl x2, .inl x3, .inl x4] (mm S F G) k nof := by
  refine sg_152_0 ?_
  rw [show u2 F 97 0 0 = zF F from rfl]
  refine c_109 z_0 (by decide) (fun hl => cn_1 ?_) (fun hl => cn_0 ⟨_, _, _, rfl, noL (here_z hl)⟩)
  have hl := here_n hl
  have hm := hM hl
  have hv := hm.1
  have hz := MV_z hm
  obtain ⟨⟨hv1, hv2⟩, ⟨hv3, hv4⟩, ⟨hv5, hv6⟩, ⟨hv7, hv8⟩, ⟨hv9, hv10⟩, ⟨hv11, hv12⟩, ⟨hv13, hv14⟩, hvw, hvs, hvk, hvc, hvx⟩ := id hv
  have e0 : zF F 100 = F 100 := z_n (by decide)
  refine c_110 z_0 (by decide) (by rw [e0]; omega) (by rw [e0]; omega) (fun p1 p2 => cn_1 ?_) (fun q => cn_0 ⟨_, _, _, rfl, noP hl (by rw [e0] at q; exact q)⟩)
  rw [e0] at p2
  refine c_149 (by rw [e0]; omega) (by rw [e0]; omega) (fun ha => ?_) (fun ha => ?_)
  · rw [e0] at ha
    have hw := vs_of ha
    refine c_69 z_0 (by decide) (by decide) (by decide) (fun _ => cn_1 ?_) (fun q => absurd q (by decide))
    refine c_144 hz (fun F1 G1 hd ht => ?_)
    have ok' := ok hl ⟨p1, p2⟩ ha F1 G1 (QP_d hd rfl)
    have t1 := ht.2 x1 x3 x2 x4 p1 (by rw [e0]; exact p2) (by rw [e0]; exact hw)
    rw [show sCf (zF F 100) (zF F 112) (mL (zF F)) = cBs F from z_B F, e0] at t1
    unfold vs at hw
    refine c_123 (by omega) (by omega) (by omega) (by omega) (by omega) (by omega) (fun _ e => ?_)
    subst e
    try simp (disch := omega) only [wr_id]
    rw [← t1] at ok'
    exact ck_i (by (first | exact jb_i (by (first | assumption | omega | (simp (disch := omega) only [wr_id]; omega))) (by (first | assumption | omega | (simp (disch := omega) only [wr_id]; omega))) | exact jo_i (by omega) | exact jz_i (by omega) | rfl | (simp only [*]; first | rfl | exact jb_i (by (first | assumption | omega | (simp (disch := omega) only [wr_id]; omega))) (by (first | assumption | omega | (simp (disch := omega) only [wr_id]; omega)))))) ⟨_, _, _, rfl, ok'⟩
  · rw [e0] at ha
    exact c_69 z_0 (by decide) (by decide) (by decide) (fun q => absurd rfl q) (fun _ => cn_0 ⟨_, _, _, rfl, noA hl ⟨p1, p2⟩ ha⟩)
theorem q_153 {k : Int → FS → FI → FJ → Prop} {x1 : Int} {S : FS} {F : FI} {G : FJ} (hM : F 97 12 ≠ 0 → MV F G) (noL : F 97 12 = 0 → k 0 S (rfs (zF F) 2 3) G) (noA : F 97 12 ≠ 0 → ¬ (0 ≤ x1 ∧ x1 ≤ F 100 3) → k 0 S (rfs (zF F) 1 2) G)
    (ok : F 97 12 ≠ 0 → 0 ≤ x1 ∧ x1 ≤ F 100 3 → ∀ F' G', QP F F' G G' → k (sScH (F 100) x1) S F' G') : calL 7 153 [.inr (.inr (.inl 97)), .inl x1] (mm S F G) k nof := by
  refine sg_153_0 ?_
  rw [show u2 F 97 0 0 = zF F from rfl]
  refine c_109 z_0 (by decide) (fun hl => cn_1 ?_) (fun hl => cn_0 ⟨_, _, _, rfl, noL (here_z hl)⟩)
  have hl := here_n hl
  have hm := hM hl
  have hv := hm.1
  have hz := MV_z hm
  obtain ⟨⟨hv1, hv2⟩, ⟨hv3, hv4⟩, ⟨hv5, hv6⟩, ⟨hv7, hv8⟩, ⟨hv9, hv10⟩, ⟨hv11, hv12⟩, ⟨hv13, hv14⟩, hvw, hvs, hvk, hvc, hvx⟩ := id hv
  have e0 : zF F 100 = F 100 := z_n (by decide)
  rw [e0]
  refine c_70 (fun ha => ?_) (fun ha => ?_)
  · refine c_69 z_0 (by decide) (by decide) (by decide) (fun _ => cn_1 ?_) (fun q => absurd q (by decide))
    refine c_143 hz (fun F1 G1 hd => ?_)
    have ok' := ok hl ha F1 G1 (QP_d hd rfl)
    have s1 := hd.2.2.2.2.2.1.2.2.1 x1 ha.1 (by rw [e0]; exact ha.2)
    rw [e0] at s1
    rw [← s1] at ok'
    exact ck_i (by (first | exact jb_i (by (first | assumption | omega | (simp (disch := omega) only [wr_id]; omega))) (by (first | assumption | omega | (simp (disch := omega) only [wr_id]; omega))) | exact jo_i (by omega) | exact jz_i (by omega) | rfl | (simp only [*]; first | rfl | exact jb_i (by (first | assumption | omega | (simp (disch := omega) only [wr_id]; omega))) (by (first | assumption | omega | (simp (disch := omega) only [wr_id]; omega)))))) ⟨_, _, _, rfl, ok'⟩
  · exact c_69 z_0 (by decide) (by decide) (by decide) (fun q => absurd rfl q) (fun _ => cn_0 ⟨_, _, _, rfl, noA hl ha⟩)
theorem q_154 {k : Int → FS → FI → FJ → Prop} {S : FS} {F : FI} {G : FJ} (hM : F 97 12 ≠ 0 → MV F G) (noL : F 97 12 = 0 → k 0 S (rfs (zF F) 1 3) G) (ok : F 97 12 ≠ 0 → ∀ F' G', QP F F' G G' → k (sAll (F 100) (cBs F) (F 100 4)) S F' G') : calL 8 154 [.inr (.inr (.inl 97))] (mm S F G) k nof := by
  refine sg_154_0 ?_
  rw [show u2 F 97 0 0 = zF F from rfl]
  refine c_109 z_0 (by decide) (fun hl => cn_1 ?_) (fun hl => cn_0 ⟨_, _, _, rfl, noL (here_z hl)⟩)
  have hl := here_n hl
  have hm := hM hl
  have hv := hm.1
  have hz := MV_z hm
  obtain ⟨⟨hv1, hv2⟩, ⟨hv3, hv4⟩, ⟨hv5, hv6⟩, ⟨hv7, hv8⟩, ⟨hv9, hv10⟩, ⟨hv11, hv12⟩, ⟨hv13, hv14⟩, hvw, hvs, hvk, hvc, hvx⟩ := id hv
  have e0 : zF F 100 = F 100 := z_n (by decide)
  refine c_144 hz (fun F1 G1 hd ht => ?_)
  have tn := TN_of hd ht
  rw [show sCf (zF F 100) (zF F 112) (mL (zF F)) = cBs F from z_B F, e0] at tn
  exact c_147 hv (by omega) (by omega) (sCf_v _ hv hm.2.1) tn (fun v e => ⟨_, _, _, rfl, by rw [e]; exact ok hl F1 G1 (QP_d hd rfl)⟩)
/-- what one alone would come to -/
noncomputable def sAlone (F : FI) (k : Int) : Int := sDr (F 100) (F 100 4) (mk0 F) (fun _ => k) k (F 100 3).toNat (F 100 6) (F 100 4)
theorem q_155 {k : Int → FS → FI → FJ → Prop} {x1 : Int} {S : FS} {F : FI} {G : FJ} (hM : F 97 12 ≠ 0 → MV F G) (noL : F 97 12 = 0 → k 0 S (rfs (zF F) 2 3) G) (noP : F 97 12 ≠ 0 → ¬ (0 ≤ x1 ∧ x1 < F 100 2) → k 0 S (rfs (zF F) 1 0) G)
    (ok : F 97 12 ≠ 0 → 0 ≤ x1 ∧ x1 < F 100 2 → ∀ F' G', QP F F' G G' → k (sAlone F x1) S F' G') : calL 7 155 [.inr (.inr (.inl 97)), .inl x1] (mm S F G) k nof := by
  refine sg_155_0 ?_
  rw [show u2 F 97 0 0 = zF F from rfl]
  refine c_109 z_0 (by decide) (fun hl => cn_1 ?_) (fun hl => cn_0 ⟨_, _, _, rfl, noL (here_z hl)⟩)
  have hl := here_n hl
  have hm := hM hl
  have hv := hm.1
  have hz := MV_z hm
  obtain ⟨⟨hv1, hv2⟩, ⟨hv3, hv4⟩, ⟨hv5, hv6⟩, ⟨hv7, hv8⟩, ⟨hv9, hv10⟩, ⟨hv11, hv12⟩, ⟨hv13, hv14⟩, hvw, hvs, hvk, hvc, hvx⟩ := id hv
  have e0 : zF F 100 = F 100 := z_n (by decide)
  refine c_110 z_0 (by decide) (by rw [e0]; omega) (by rw [e0]; omega) (fun p1 p2 => cn_1 ?_) (fun q => cn_0 ⟨_, _, _, rfl, noP hl (by rw [e0] at q; exact q)⟩)
  rw [e0] at p2
  refine c_143 hz (fun F1 G1 hd => ?_)
  have ok' := ok hl ⟨p1, p2⟩ F1 G1 (QP_d hd rfl)
  have e100 : F1 100 = F 100 := (hd.1.1 100 kp100).trans e0
  have e31 : F1 97 31 = F 100 4 := by rw [hd.2.2.2.1, e0]
  have al := hd.2.2.2.2.2.1.2.2.2.1 x1 0 (F 100 6) (F 100 4) p1 (by rw [e0]; exact p2) (by rw [e0]; exact ⟨by omega, by omega, hv13, hv14, by omega, Int.le_refl _⟩)
  rw [e0, z_M, show (F 100 3 - 0).toNat = (F 100 3).toNat by omega] at al
  unfold sAlone at ok'
  refine c_145 (by rw [e100]; exact hv) (by omega) (by omega) (fun v e => ?_)
  rw [e100, e31] at e
  subst e
  try simp (disch := omega) only [wr_id]
  rw [← al] at ok'
  exact ck_i (by (first | exact jb_i (by (first | assumption | omega | (simp (disch := omega) only [wr_id]; omega))) (by (first | assumption | omega | (simp (disch := omega) only [wr_id]; omega))) | exact jo_i (by omega) | exact jz_i (by omega) | rfl | (simp only [*]; first | rfl | exact jb_i (by (first | assumption | omega | (simp (disch := omega) only [wr_id]; omega))) (by (first | assumption | omega | (simp (disch := omega) only [wr_id]; omega)))))) ⟨_, _, _, rfl, ok'⟩
