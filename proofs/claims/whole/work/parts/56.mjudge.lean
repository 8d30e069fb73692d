/-! ===== the reference answers: rows judged, proved ===== -/
/-- where it stands on its way: a place, an hour, stores -/
def AT (F : FI) (p h n : Int) : Prop := F 97 44 = p ∧ F 97 45 = h ∧ F 97 46 = n
theorem c_162 {k : FS → FI → FJ → Prop} {x1 p h n : Int} {S : FS} {F F1 : FI} {G G1 : FJ} {c : Cf} (hm : MV F G) (hd : RD F F1 G G1 c) (ha : AT F1 p h n) (h0 : 0 ≤ x1) (h1 : x1 ≤ F 100 1) (p0 : 0 ≤ p) (p1 : p < F 100 0) (q0 : 0 ≤ h) (q1 : h < 24) (n0 : 1 ≤ n) (n1 : n ≤ 12)
    (hk : ∀ F2, RD F F2 G G1 c → AT F2 (sTo1 (F 100) p x1) (h + 1) (sAf (F 100) (F 100 4) (sTo1 (F 100) p x1) n) → k S F2 G1) : calV 1 162 [.inr (.inr (.inl 97)), .inl x1] (mm S F1 G1) k nof := by
  have hv := hm.1
  obtain ⟨⟨hv1, hv2⟩, ⟨hv3, hv4⟩, ⟨hv5, hv6⟩, ⟨hv7, hv8⟩, ⟨hv9, hv10⟩, ⟨hv11, hv12⟩, ⟨hv13, hv14⟩, hvw, hvs, hvk, hvc, hvx⟩ := id hv
  obtain ⟨a1, a2, a3⟩ := ha
  have e100 := hd.1.1 100 kp100
  have e31 := hd.2.2.2.1
  refine sg_162_0 ?_
  rw [e100, e31, a1, a2, a3]
  refine cn_i (fun g => ?_) (fun g => ?_)
  · try simp (disch := omega) only [wr_id]
    have ob := sOth_b (p := p) (w := x1 - 1) hv (by omega) (by omega)
    have et : sTo1 (F 100) p x1 = sOth (F 100) (x1 - 1) p := by unfold sTo1; rw [if_neg (by omega)]
    refine c_125 (by omega) (by omega) (fun v e => ?_)
    rw [e100] at e
    rw [e100, e31, a2, a3]
    try simp (disch := omega) only [wr_id]
    rw [et, ← e] at hk
    refine ck_i (by (first | exact jb_i (by (first | assumption | omega | (simp (disch := omega) only [wr_id]; omega))) (by (first | assumption | omega | (simp (disch := omega) only [wr_id]; omega))) | exact jo_i (by omega) | exact jz_i (by omega) | rfl | (simp only [*]; first | rfl | exact jb_i (by (first | assumption | omega | (simp (disch := omega) only [wr_id]; omega))) (by (first | assumption | omega | (simp (disch := omega) only [wr_id]; omega)))))) (cn_i (fun w => ?_) (fun w => ?_))
    · refine ⟨_, _, _, rfl, hk _ (RD_v (RD_v (RD_v hd (by unfold kpF; omega) (by decide)) (by unfold kpF; omega) (by decide)) (by unfold kpF; omega) (by decide)) ⟨?_, ?_, ?_⟩⟩
      · rw [u2_n (by decide), u2_n (by decide), u2_s]
      · rw [u2_s]
      · rw [u2_n (by decide), u2_s]
        unfold sAf
        rw [if_pos w]
    · refine ⟨_, _, _, rfl, hk _ (RD_v (RD_v (RD_v hd (by unfold kpF; omega) (by decide)) (by unfold kpF; omega) (by decide)) (by unfold kpF; omega) (by decide)) ⟨?_, ?_, ?_⟩⟩
      · rw [u2_n (by decide), u2_n (by decide), u2_s]
      · rw [u2_s]
      · rw [u2_n (by decide), u2_s]
        unfold sAf
        rw [if_neg w]
  · try simp (disch := omega) only [wr_id]
    have et : sTo1 (F 100) p x1 = p := by unfold sTo1; rw [if_pos (by omega)]
    rw [et] at hk
    refine ck_i (by (first | exact jb_i (by (first | assumption | omega | (simp (disch := omega) only [wr_id]; omega))) (by (first | assumption | omega | (simp (disch := omega) only [wr_id]; omega))) | exact jo_i (by omega) | exact jz_i (by omega) | rfl | (simp only [*]; first | rfl | exact jb_i (by (first | assumption | omega | (simp (disch := omega) only [wr_id]; omega))) (by (first | assumption | omega | (simp (disch := omega) only [wr_id]; omega)))))) (cn_i (fun w => ?_) (fun w => ?_))
    · refine ⟨_, _, _, rfl, hk _ (RD_v (RD_v hd (by unfold kpF; omega) (by decide)) (by unfold kpF; omega) (by decide)) ⟨?_, ?_, ?_⟩⟩
      · rw [u2_n (by decide), u2_n (by decide)]; exact a1
      · rw [u2_s]
      · rw [u2_n (by decide), u2_s]
        unfold sAf
        rw [if_pos w]
    · refine ⟨_, _, _, rfl, hk _ (RD_v (RD_v hd (by unfold kpF; omega) (by decide)) (by unfold kpF; omega) (by decide)) ⟨?_, ?_, ?_⟩⟩
      · rw [u2_n (by decide), u2_n (by decide)]; exact a1
      · rw [u2_s]
      · rw [u2_n (by decide), u2_s]
        unfold sAf
        rw [if_neg w]
theorem c_161 {k : FS → FI → FJ → Prop} {S : FS} {F F1 : FI} {G G1 : FJ} {c : Cf} (hd : RD F F1 G G1 c) (hk : ∀ F2, RD F F2 G G1 c → AT F2 (F 100 6) 0 (F 100 4) → k S F2 G1) : calV 0 161 [.inr (.inr (.inl 97))] (mm S F1 G1) k nof := by
  refine sg_161_0 ?_
  rw [hd.1.1 100 kp100, hd.2.2.2.1]
  refine ⟨_, _, _, rfl, hk _ (RD_v (RD_v (RD_v hd (by unfold kpF; omega) (by decide)) (by unfold kpF; omega) (by decide)) (by unfold kpF; omega) (by decide)) ⟨?_, ?_, ?_⟩⟩
  · rw [u2_n (by decide), u2_n (by decide), u2_s]
  · rw [u2_n (by decide), u2_s]
  · rw [u2_s]
/-- rows judged, from row k on -/
noncomputable def sJg (F : FI) : Nat → Int → Int → Int → Int
  | 0, _, _, _ => -1
  | c + 1, k, p, n => if sEnd (F 100) k p n ≠ 0 then 10 * k + 2
    else @ite _ (bit (mk0 F (sLd (F 100) (F 112) k) k p n) (F 112 (55 + k).toNat)) (Classical.propDecidable _) (sJg F c (k + 1) (sTo1 (F 100) p (F 112 (55 + k).toNat)) (sAf (F 100) (F 100 4) (sTo1 (F 100) p (F 112 (55 + k).toNat)) n)) (10 * k + 1)
theorem sTo1_b {l : Nat → Int} {p m : Int} (hv : LV l) (h0 : 0 ≤ p) (h1 : p < l 0) (h2 : 0 ≤ m) (h3 : m ≤ l 1) : 0 ≤ sTo1 l p m ∧ sTo1 l p m < l 0 := by
  unfold sTo1
  split
  · exact ⟨h0, h1⟩
  · exact sOth_b hv (by omega) (by omega)
theorem mk0_b {F : FI} {G : FJ} {h p n : Int} (hm : MV F G) {k : Int} (k0 : 0 ≤ k) (k1 : k < F 100 2) (hw : vs (F 100) (F 100 4) h p n) (he : sEnd (F 100) h p n = 0) : 0 ≤ mk0 F k h p n ∧ mk0 F k h p n < 33554432 ∧ ∃ m, 0 ≤ m ∧ m ≤ F 100 1 ∧ bit (mk0 F k h p n) m := by
  have c2 := (sEnd_n he).2
  unfold vs at hw
  exact MK_mask hm.1 (F 100 4) (mL F) (-1) k h p n k0 k1 hw.1 (by omega) hw.2.2.1 hw.2.2.2.1 hw.2.2.2.2.1 hw.2.2.2.2.2 he
theorem l_163_25 {Q : Rs → Mm → Prop} {x1 p n : Int} {S : FS} {F F1 : FI} {G G1 : FJ} (hm : MV F G) (hd : RD F F1 G G1 (cBs F)) (ha : AT F1 p x1 n) (hw : vs (F 100) (F 100 4) x1 p n) (h1 : x1 ≤ F 112 54)
    (hq : ∀ F2, RD F F2 G G1 (cBs F) → Q (.inl (some (.inl (sJg F (F 112 54 - x1).toNat x1 p n)))) (mm S F2 G1)) : wph 7 163 25 [.inr (.inr (.inl 97)), .inl x1] [] (mm S F1 G1) (0, 0) Q := by
  have hv := hm.1
  obtain ⟨⟨hv1, hv2⟩, ⟨hv3, hv4⟩, ⟨hv5, hv6⟩, ⟨hv7, hv8⟩, ⟨hv9, hv10⟩, ⟨hv11, hv12⟩, ⟨hv13, hv14⟩, hvw, hvs, hvk, hvc, hvx⟩ := id hv
  obtain ⟨s1, s2, s3, s4, s5, s6⟩ := id hm.2.1
  have hw' := hw
  unfold vs at hw'
  obtain ⟨a1, a2, a3⟩ := id ha
  have e100 := hd.1.1 100 kp100
  have e112 := hd.1.1 112 kp112
  refine sg_163_25 ?_
  rw [a1, a2, a3, e112]
  refine cn_i (fun h => ?_) (fun h => ?_)
  · have en : (F 112 54 - x1).toNat = (F 112 54 - (x1 + 1)).toNat + 1 := by omega
    have r6 := s6 x1 hw'.1 h
    rw [en] at hq
    have hq' : ∀ F2, RD F F2 G G1 (cBs F) → Q (.inl (some (.inl (if sEnd (F 100) x1 p n ≠ 0 then 10 * x1 + 2
        else @ite _ (bit (mk0 F (sLd (F 100) (F 112) x1) x1 p n) (F 112 (55 + x1).toNat)) (Classical.propDecidable _) (sJg F (F 112 54 - (x1 + 1)).toNat (x1 + 1) (sTo1 (F 100) p (F 112 (55 + x1).toNat)) (sAf (F 100) (F 100 4) (sTo1 (F 100) p (F 112 (55 + x1).toNat)) n)) (10 * x1 + 1))))) (mm S F2 G1) := hq
    refine c_124 (by omega) (by omega) (fun v e => ?_)
    rw [e100] at e
    simp only [a1, a2, a3]
    try simp (disch := omega) only [wr_id]
    refine cn_i (fun g => ?_) (fun g => ?_)
    · have he : sEnd (F 100) x1 p n = 0 := by omega
      have ce := sEnd_n he
      have lb := sLd_b hv hm.2.1 hw'.1 (by omega)
      have mb := mk0_b hm lb.1 lb.2 hw he
      have e114 : F1 114 x1.toNat = sLd (F 100) (F 112) x1 := hd.2.2.2.2.1.1 x1 hw'.1 (by omega)
      have mf := hd.2.2.2.2.2.1.1 _ x1 p n lb.1 lb.2 hw he
      rw [if_neg (by rw [he]; decide)] at hq'
      refine ck_i (by (first | exact jb_i (by (first | assumption | omega | (simp (disch := omega) only [wr_id]; omega))) (by (first | assumption | omega | (simp (disch := omega) only [wr_id]; omega))) | exact jo_i (by omega) | exact jz_i (by omega) | rfl | (simp only [*]; first | rfl | exact jb_i (by (first | assumption | omega | (simp (disch := omega) only [wr_id]; omega))) (by (first | assumption | omega | (simp (disch := omega) only [wr_id]; omega)))))) (ck_i (by (first | exact jb_i (by (first | assumption | omega | (simp (disch := omega) only [wr_id]; omega))) (by (first | assumption | omega | (simp (disch := omega) only [wr_id]; omega))) | exact jo_i (by omega) | exact jz_i (by omega) | rfl | (simp only [*]; first | rfl | exact jb_i (by (first | assumption | omega | (simp (disch := omega) only [wr_id]; omega))) (by (first | assumption | omega | (simp (disch := omega) only [wr_id]; omega)))))) ?_)
      refine c_123 (by omega) (by omega) (by omega) (by omega) (by omega) (by omega) (fun _ e => ?_)
      subst e
      rw [e114]
      refine c_130 (by omega) (by omega) (by omega) (by omega) (fun v3 e3 => ?_)
      rw [mf] at e3
      rw [e112]
      have mb3 : 0 ≤ v3 ∧ v3 < 33554432 := by rw [e3]; exact ⟨mb.1, mb.2.1⟩
      refine cn_i (fun z => ?_) (fun z => ?_)
      · rw [bit_z mb3.1 (by omega) r6.1 (by omega), e3] at z
        rw [if_neg z] at hq'
        exact hq' F1 hd
      · rw [bit_z mb3.1 (by omega) r6.1 (by omega), Classical.not_not, e3] at z
        rw [if_pos z] at hq'
        have tb := sTo1_b hv hw'.2.2.1 hw'.2.2.2.1 r6.1 r6.2
        have ab := sAf_b (l := F 100) (q := sTo1 (F 100) p (F 112 (55 + x1).toNat)) (by omega) (by omega) (show 1 ≤ n by omega) hw'.2.2.2.2.2
        refine c_162 hm hd ha r6.1 r6.2 hw'.2.2.1 hw'.2.2.2.1 hw'.1 (by omega) (by omega) (by omega) (fun F2 hd2 ha2 => ?_)
        exact l_163_25 hm hd2 ha2 ⟨by omega, by omega, tb.1, tb.2, ab.1, ab.2⟩ (by omega) hq'
    · rw [if_pos (by omega)] at hq'
      exact hq' F1 hd
  · rw [show (F 112 54 - x1).toNat = 0 by omega] at hq
    exact hq F1 hd
termination_by (F 112 54 - x1).toNat
decreasing_by omega
theorem q_163 {k : Int → FS → FI → FJ → Prop} {S : FS} {F : FI} {G : FJ} (hM : F 97 12 ≠ 0 → MV F G) (noL : F 97 12 = 0 → k 0 S (rfs (zF F) 1 3) G) (ok : F 97 12 ≠ 0 → ∀ F' G', QP F F' G G' → k (sJg (zF F) (F 112 54).toNat 0 (F 100 6) (F 100 4)) S F' G') : calI 7 163 [.inr (.inr (.inl 97))] (mm S F G) k nof := by
  refine sg_163_0 ?_
  rw [show u2 F 97 0 0 = zF F from rfl]
  refine c_109 z_0 (by decide) (fun hl => cn_1 ?_) (fun hl => cn_0 ⟨_, _, _, rfl, noL (here_z hl)⟩)
  have hl := here_n hl
  have hm := hM hl
  have hv := hm.1
  have hz := MV_z hm
  obtain ⟨⟨hv1, hv2⟩, ⟨hv3, hv4⟩, ⟨hv5, hv6⟩, ⟨hv7, hv8⟩, ⟨hv9, hv10⟩, ⟨hv11, hv12⟩, ⟨hv13, hv14⟩, hvw, hvs, hvk, hvc, hvx⟩ := id hv
  have e0 : zF F 100 = F 100 := z_n (by decide)
  have e1 : zF F 112 = F 112 := z_n (by decide)
  refine c_143 hz (fun F1 G1 hd => ?_)
  refine c_161 hd (fun F2 hd2 ha => ?_)
  rw [e0] at ha
  refine l_163_25 (F := zF F) hz hd2 ha (by rw [e0]; exact ⟨by omega, by omega, hv13, hv14, by omega, Int.le_refl _⟩) (by rw [e1]; exact hm.2.1.2.2.2.2.1.1) (fun F3 hd3 => ⟨_, _, _, rfl, ?_⟩)
  rw [e1, show (F 112 54 - 0).toNat = (F 112 54).toNat by omega]
  exact ok hl F3 G1 (QP_d hd3 rfl)
/-- the row's move as it is for one, where it is lawful to him; else rest -/
noncomputable def sRw (F : FI) (k h p n : Int) : Int := @ite _ (h < F 112 54 ∧ bit (mk0 F k h p n) (F 112 (55 + h).toNat)) (Classical.propDecidable _) (F 112 (55 + h).toNat) 0
/-- what a move would be worth to one, alone from then on -/
noncomputable def sPv (F : FI) (k h p n m : Int) : Int := sBr (F 100) (F 100 4) h p n m (sDr (F 100) (F 100 4) (mk0 F) (fun _ => k) k (F 100 3 - (h + 1)).toNat)
noncomputable def sPb (F : FI) (k h p n : Int) : Int := bst (fun m => sPv F k h p n m) (mk0 F k h p n) (F 100 1 + 1).toNat
noncomputable def sPr (F : FI) (k : Int) : Nat → Int → Int → Int → Int
  | 0, _, _, _ => -1
  | c + 1, h, p, n => if sEnd (F 100) h p n ≠ 0 then -1
    else if sPv F k h p n (sRw F k h p n) < sPv F k h p n (sPb F k h p n) then h
    else sPr F k c (h + 1) (sTo1 (F 100) p (sRw F k h p n)) (sAf (F 100) (F 100 4) (sTo1 (F 100) p (sRw F k h p n)) n)
theorem l_164_38 {Q : Rs → Mm → Prop} {x1 x2 h p n : Int} {S : FS} {F F1 : FI} {G G1 : FJ} (hm : MV F G) (k0 : 0 ≤ x1) (k1 : x1 < F 100 2) (e2 : x2 = x1 * 3900) (hd : RD F F1 G G1 (cBs F)) (ha : AT F1 p h n) (hw : vs (F 100) (F 100 4) h p n)
    (hq : ∀ F2, RD F F2 G G1 (cBs F) → Q (.inl (some (.inl (sPr F x1 (F 100 3 + 1 - h).toNat h p n)))) (mm S F2 G1)) : wph 7 164 38 [.inr (.inr (.inl 97)), .inl x1, .inl x2] [] (mm S F1 G1) (0, 0) Q := by
  have hv := hm.1
  obtain ⟨⟨hv1, hv2⟩, ⟨hv3, hv4⟩, ⟨hv5, hv6⟩, ⟨hv7, hv8⟩, ⟨hv9, hv10⟩, ⟨hv11, hv12⟩, ⟨hv13, hv14⟩, hvw, hvs, hvk, hvc, hvx⟩ := id hv
  obtain ⟨s1, s2, s3, s4, s5, s6⟩ := id hm.2.1
  have hw' := hw
  unfold vs at hw'
  obtain ⟨a1, a2, a3⟩ := id ha
  have e100 := hd.1.1 100 kp100
  have e112 := hd.1.1 112 kp112
  have e31 := hd.2.2.2.1
  have en : (F 100 3 + 1 - h).toNat = (F 100 3 + 1 - (h + 1)).toNat + 1 := by omega
  rw [en] at hq
  have hq' : ∀ F2, RD F F2 G G1 (cBs F) → Q (.inl (some (.inl (if sEnd (F 100) h p n ≠ 0 then -1
    else if sPv F x1 h p n (sRw F x1 h p n) < sPv F x1 h p n (sPb F x1 h p n) then h
    else sPr F x1 (F 100 3 + 1 - (h + 1)).toNat (h + 1) (sTo1 (F 100) p (sRw F x1 h p n)) (sAf (F 100) (F 100 4) (sTo1 (F 100) p (sRw F x1 h p n)) n))))) (mm S F2 G1) := hq
  refine sg_164_38 ?_
  rw [a1, a2, a3]
  refine c_124 (by omega) (by omega) (fun v e => ?_)
  rw [e100] at e
  simp only [a1, a2, a3]
  refine cn_i (fun g => ?_) (fun g => ?_)
  · have he : sEnd (F 100) h p n = 0 := by omega
    have ce := sEnd_n he
    have mb := mk0_b hm k0 k1 hw he
    have mf := hd.2.2.2.2.2.1.1 x1 h p n k0 k1 hw he
    rw [if_neg (by rw [he]; decide)] at hq'
    refine c_123 (by omega) (by omega) (by omega) (by omega) (by omega) (by omega) (fun _ e => ?_)
    subst e
    refine c_130 (by omega) (by omega) (by omega) (by omega) (fun v3 e3 => ?_)
    rw [mf] at e3
    have mb3 : 0 ≤ v3 ∧ v3 < 33554432 := by rw [e3]; exact ⟨mb.1, mb.2.1⟩
    have cong : ∀ q s, 0 ≤ q → q < F 100 0 → 0 ≤ s → s ≤ F 100 4 → sF (G1 120) x2 h q s = sDr (F 100) (F 100 4) (mk0 F) (fun _ => x1) x1 (F 100 3 - (h + 1)).toNat q s := by
      intro q s b1 b2 b3 b4
      rw [e2]
      exact hd.2.2.2.2.2.1.2.2.2.1 x1 (h + 1) q s k0 k1 ⟨by omega, by omega, b1, b2, b3, b4⟩
    -- what is left once the move is known
    have fin : ∀ m, m = sRw F x1 h p n → 0 ≤ m → m ≤ F 100 1 → calL 2 132 [.inr (.inr (.inl 97)), .inr (.inr (.inl 120)), .inl x2, .inl h, .inl p, .inl n, .inl m] (mm S F1 G1) (fun v14 S14 F14 G14 => calI 3 134 [.inr (.inr (.inl 97)), .inr (.inr (.inl 120)), .inl x2, .inl v3, .inl (F14 97 45), .inl (F14 97 44), .inl (F14 97 46), .inl 0] (mm S14 F14 G14) (fun v15 S15 F15 G15 => cnd (decide (v15 = m)) (calV 1 162 [.inr (.inr (.inl 97)), .inl m] (mm S15 F15 G15) (fun S16 F16 G16 => wph 7 164 38 [.inr (.inr (.inl 97)), .inl x1, .inl x2] [] (mm S16 F16 G16) (0, 0) Q) nof) (calL 2 132 [.inr (.inr (.inl 97)), .inr (.inr (.inl 120)), .inl x2, .inl (F15 97 45), .inl (F15 97 44), .inl (F15 97 46), .inl v15] (mm S15 F15 G15) (fun v17 S17 F17 G17 => cnd (decide (0 < (lc v17 v14))) (Q (.inl (some (.inl (F17 97 45)))) (mm S17 F17 G17)) (calV 1 162 [.inr (.inr (.inl 97)), .inl m] (mm S17 F17 G17) (fun S18 F18 G18 => wph 7 164 38 [.inr (.inr (.inl 97)), .inl x1, .inl x2] [] (mm S18 F18 G18) (0, 0) Q) nof)) nof)) nof) nof := by
      intro m em m0 m1
      rw [← em] at hq'
      have tb := sTo1_b hv hw'.2.2.1 hw'.2.2.2.1 m0 m1
      have ab := sAf_b (l := F 100) (q := sTo1 (F 100) p m) (by omega) (by omega) (show 1 ≤ n by omega) hw'.2.2.2.2.2
      have go : ¬ (sPv F x1 h p n m < sPv F x1 h p n (sPb F x1 h p n)) → calV 1 162 [.inr (.inr (.inl 97)), .inl m] (mm S F1 G1) (fun S18 F18 G18 => wph 7 164 38 [.inr (.inr (.inl 97)), .inl x1, .inl x2] [] (mm S18 F18 G18) (0, 0) Q) nof := by
        intro hn
        rw [if_neg hn] at hq'
        refine c_162 hm hd ha m0 m1 hw'.2.2.1 hw'.2.2.2.1 hw'.1 (by omega) (by omega) (by omega) (fun F2 hd2 ha2 => ?_)
        exact l_164_38 hm k0 k1 e2 hd2 ha2 ⟨by omega, by omega, tb.1, tb.2, ab.1, ab.2⟩ hq'
      refine c_132 (by rw [e100]; exact hv) rfl rfl (by omega) (by omega) hw'.1 (by rw [e100]; omega) hw'.2.2.1 (by rw [e100]; exact hw'.2.2.2.1) (by omega) (by rw [e31]; omega) (by rw [e31]; omega) m0 (by rw [e100]; exact m1) (by rw [e100]; exact hd.2.2.2.2.2.1.2.1) hd.2.2.2.2.2.2.2.1 (fun v14 e14 => ?_)
      rw [e100, e31] at e14
      have f14 : v14 = sPv F x1 h p n m := e14.trans (sBr_c hv (by omega) hw'.2.2.1 hw'.2.2.2.1 (by omega) hw'.2.2.2.2.2 m0 m1 (by omega) cong)
      rw [a1, a2, a3]
      refine c_134 (by rw [e100]; exact hv) rfl rfl (by omega) (by omega) hw'.1 (by rw [e100]; omega) hw'.2.2.1 (by rw [e100]; exact hw'.2.2.2.1) (by omega) (by rw [e31]; omega) (by rw [e31]; omega) mb3.1 (by omega) (Or.inl rfl) (by rw [e100]; exact hd.2.2.2.2.2.1.2.1) hd.2.2.2.2.2.2.2.1 (fun v15 e15 => ?_)
      rw [e100, e31, bst_1] at e15
      have f15 : v15 = sPb F x1 h p n := by
        rw [e15, e3]
        exact bst_c (fun m m1 m2 _ => sBr_c hv (by omega) hw'.2.2.1 hw'.2.2.2.1 (by omega) hw'.2.2.2.2.2 m1 (by omega) (by omega) cong)
      have b15 : 0 ≤ v15 ∧ v15 ≤ F 100 1 := by
        rw [f15]
        have := bst_in (v := fun m => sPv F x1 h p n m) hv3 mb.2.2
        exact ⟨this.1, this.2.1⟩
      rw [a1, a2, a3]
      refine cn_i (fun q => ?_) (fun q => ?_)
      · refine go ?_
        rw [← f15, q]
        exact Int.lt_irrefl _
      · refine c_132 (by rw [e100]; exact hv) rfl rfl (by omega) (by omega) hw'.1 (by rw [e100]; omega) hw'.2.2.1 (by rw [e100]; exact hw'.2.2.2.1) (by omega) (by rw [e31]; omega) (by rw [e31]; omega) b15.1 (by rw [e100]; exact b15.2) (by rw [e100]; exact hd.2.2.2.2.2.1.2.1) hd.2.2.2.2.2.2.2.1 (fun v17 e17 => ?_)
        rw [e100, e31] at e17
        have f17 : v17 = sPv F x1 h p n v15 := e17.trans (sBr_c hv (by omega) hw'.2.2.1 hw'.2.2.2.1 (by omega) hw'.2.2.2.2.2 b15.1 b15.2 (by omega) cong)
        rw [a2]
        refine cn_i (fun w => ?_) (fun w => ?_)
        · rw [lc_p, f14, f17, f15] at w
          rw [if_pos w] at hq'
          exact hq' F1 hd
        · rw [lc_p, f14, f17, f15] at w
          exact go w
    rw [a1, a2, a3, e112]
    try simp (disch := omega) only [wr_id]
    have b0 : (an (sar v3 0) 1 = 0 ↔ ¬ bit v3 0) := bit_z mb3.1 (by omega) (by omega) (by omega)
    refine cn_i (fun w => ?_) (fun w => ?_)
    · have r6 := s6 h hw'.1 w
      refine ck_i (by (first | exact jb_i (by (first | assumption | omega | (simp (disch := omega) only [wr_id]; omega))) (by (first | assumption | omega | (simp (disch := omega) only [wr_id]; omega))) | exact jo_i (by omega) | exact jz_i (by omega) | rfl | (simp only [*]; first | rfl | exact jb_i (by (first | assumption | omega | (simp (disch := omega) only [wr_id]; omega))) (by (first | assumption | omega | (simp (disch := omega) only [wr_id]; omega)))))) (cn_i (fun z => ?_) (fun z => ?_))
      · rw [bit_z mb3.1 (by omega) r6.1 (by omega), e3] at z
        exact fin 0 (by unfold sRw; rw [if_neg (fun r => z r.2)]) (by omega) (by omega)
      · rw [bit_z mb3.1 (by omega) r6.1 (by omega), Classical.not_not, e3] at z
        exact fin _ (by unfold sRw; rw [if_pos ⟨w, z⟩]) r6.1 r6.2
    · have em : (0 : Int) = sRw F x1 h p n := by unfold sRw; rw [if_neg (fun r => w r.1)]
      refine cn_i (fun z => ?_) (fun z => ?_)
      · exact fin 0 em (by omega) (by omega)
      · exact fin 0 em (by omega) (by omega)
  · rw [if_pos (by omega)] at hq'
    exact hq' F1 hd
termination_by (F 100 3 + 1 - h).toNat
decreasing_by omega
theorem q_164 {k : Int → FS → FI → FJ → Prop} {x1 : Int} {S : FS} {F : FI} {G : FJ} (hM : F 97 12 ≠ 0 → MV F G) (noL : F 97 12 = 0 → k 0 S (rfs (zF F) 2 3) G) (noP : F 97 12 ≠ 0 → ¬ (0 ≤ x1 ∧ x1 < F 100 2) → k 0 S (rfs (zF F) 1 0) G)
    (ok : F 97 12 ≠ 0 → 0 ≤ x1 ∧ x1 < F 100 2 → ∀ F' G', QP F F' G G' → k (sPr (zF F) x1 (F 100 3 + 1).toNat 0 (F 100 6) (F 100 4)) S F' G') : calI 7 164 [.inr (.inr (.inl 97)), .inl x1] (mm S F G) k nof := by
  refine sg_164_0 ?_
  rw [show u2 F 97 0 0 = zF F from rfl]
  refine c_109 z_0 (by decide) (fun hl => cn_1 ?_) (fun hl => cn_0 ⟨_, _, _, rfl, noL (here_z hl)⟩)
  have hl := here_n hl
  have hm := hM hl
  have hv := hm.1
  have hz := MV_z hm
  obtain ⟨⟨hv1, hv2⟩, ⟨hv3, hv4⟩, ⟨hv5, hv6⟩, ⟨hv7, hv8⟩, ⟨hv9, hv10⟩, ⟨hv11, hv12⟩, ⟨hv13, hv14⟩, hvw, hvs, hvk, hvc, hvx⟩ := id hv
  have e0 : zF F 100 = F 100 := z_n (by decide)
  refine c_110 z_0 (by decide) (by rw [e0]; omega) (by rw [e0]; omega) (fun p1 p2 => cn_1 ?_) (fun q => cn_0 ⟨_, _, _, rfl, noP hl (by rw [e0] at q; exact q)⟩)
  refine c_143 hz (fun F1 G1 hd => ?_)
  refine c_161 hd (fun F2 hd2 ha => ?_)
  rw [e0] at ha p2
  try simp (disch := omega) only [wr_id]
  refine l_164_38 (F := zF F) hz p1 (by rw [e0]; exact p2) rfl hd2 ha (by rw [e0]; exact ⟨by omega, by omega, hv13, hv14, by omega, Int.le_refl _⟩) (fun F3 hd3 => ⟨_, _, _, rfl, ?_⟩)
  rw [e0, show (F 100 3 + 1 - 0).toNat = (F 100 3 + 1).toNat by omega]
  exact ok hl ⟨p1, p2⟩ F3 G1 (QP_d hd3 rfl)
