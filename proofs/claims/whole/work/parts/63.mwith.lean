/-! ===== the reference answers: without a rule ===== -/
theorem sTo_b {l : Nat → Int} {c : Cf} {st k : Int} (hv : LV l) (hs : 0 ≤ st) (hst : st ≤ 12) (hc : CV l st c) (h0 : -1 ≤ k) (h1 : k < l 2) : -5629499534213120 ≤ sTo l c st k ∧ sTo l c st k ≤ 5629499534213120 := by
  obtain ⟨⟨hv1, hv2⟩, ⟨hv3, hv4⟩, ⟨hv5, hv6⟩, ⟨hv7, hv8⟩, ⟨hv9, hv10⟩, ⟨hv11, hv12⟩, ⟨hv13, hv14⟩, hvw, hvs, hvk, hvc, hvx⟩ := id hv
  unfold sTo
  split
  · have := sSum_b (c := fun _ => True) (g := fun k => sNow l c st k) (B := 1125899906842624) (by omega) (n := (l 2).toNat) (fun k a b => sNow_b hv hs hst hc a (by omega))
    unfold sAll
    omega
  · have := sNow_b hv hs hst hc (k := k) (by omega) h1
    unfold B5 at this
    omega
/-- what it would be to somebody without a rule -/
noncomputable def sWo (F : FI) (r who : Int) : Int := sTo (F 100) (cMk F (cBs F) r) (F 100 4) who - sTo (F 100) (cBs F) (F 100 4) who
theorem q_194 {k : Int → FS → FI → FJ → Prop} {x1 x2 : Int} {S : FS} {F : FI} {G : FJ} (hM : F 97 12 ≠ 0 → MV F G) (noL : F 97 12 = 0 → k 0 S (rfs (zF F) 3 3) G) (noP : F 97 12 ≠ 0 → ¬ (-1 ≤ x2 ∧ x2 < F 100 2) → k 0 S (rfs (zF F) 1 0) G)
    (noA : F 97 12 ≠ 0 → -1 ≤ x2 ∧ x2 < F 100 2 → ¬ (0 ≤ x1 ∧ x1 < F 97 13) → k 0 S (rfs (zF F) 2 1) G)
    (ok : F 97 12 ≠ 0 → -1 ≤ x2 ∧ x2 < F 100 2 → 0 ≤ x1 ∧ x1 < F 97 13 → ∀ F' G', QP F F' G G' → k (sWo F x1 x2) S F' G') : calL 8 194 [.inr (.inr (.inl 97)), .inl x1, .inl x2] (mm S F G) k nof := by
  refine sg_194_0 ?_
  rw [show u2 F 97 0 0 = zF F from rfl]
  refine c_109 z_0 (by decide) (fun hl => cn_1 ?_) (fun hl => cn_0 ⟨_, _, _, rfl, noL (here_z hl)⟩)
  have hl := here_n hl
  have hm := hM hl
  have hv := hm.1
  have hz := MV_z hm
  obtain ⟨⟨hv1, hv2⟩, ⟨hv3, hv4⟩, ⟨hv5, hv6⟩, ⟨hv7, hv8⟩, ⟨hv9, hv10⟩, ⟨hv11, hv12⟩, ⟨hv13, hv14⟩, hvw, hvs, hvk, hvc, hvx⟩ := id hv
  have e0 : zF F 100 = F 100 := z_n (by decide)
  have e13 : zF F 97 13 = F 97 13 := z_f (by decide)
  have l13 : 0 ≤ F 97 13 ∧ F 97 13 ≤ 10 := hm.2.2.1.1
  have cv : CV (F 100) (F 100 4) (cBs F) := sCf_v (w := mL F) (F 100 4) hv hm.2.1
  refine c_111 z_0 (by decide) (by rw [e0]; omega) (by rw [e0]; omega) (fun p1 p2 => cn_1 ?_) (fun q => cn_0 ⟨_, _, _, rfl, noP hl (by rw [e0] at q; exact q)⟩)
  rw [e0] at p2
  rw [e13]
  try simp (disch := omega) only [wr_id]
  refine c_70 (fun ha => ?_) (fun ha => ?_)
  · refine c_69 z_0 (by decide) (by decide) (by decide) (fun _ => cn_1 ?_) (fun q => absurd q (by decide))
    refine c_144 hz (fun F1 G1 hd ht => ?_)
    rw [show sCf (zF F 100) (zF F 112) (mL (zF F)) = cBs F from z_B F] at hd ht
    have tn := TN_of hd ht
    rw [e0] at tn
    refine c_148 hv (by omega) (by omega) cv tn p1 p2 (fun v6 e6 => ?_)
    have n31 : u2 F1 97 32 x1 97 31 = F 100 4 := by rw [u2_n (by decide)]; exact tn.2.1
    have n32 : u2 F1 97 32 x1 97 32 = x1 := u2_s
    refine c_again hz (XR_u (i := 32) (v := x1) (XR_d hd) (Or.inr (Or.inr rfl))) (st := F 100 4) (by rw [e0]; exact cv) (by rw [n31]; omega) (by rw [n31]; omega) (fun F2 G2 hx2 f97 hr ht2 => ?_)
    rw [n31, n32, e0] at ht2
    have eC : cMk (zF F) (cBs F) x1 = cMk F (cBs F) x1 := by
      unfold cMk
      rw [e0, z_L]
    rw [eC] at ht2
    have cv2 : CV (F 100) (F 100 4) (cMk F (cBs F) x1) := cMk_v hv cv
    have f100 : F2 100 = F 100 := (hx2.1.1 100 kp100).trans e0
    have f31 : F2 97 31 = F 100 4 := (f97 31).trans n31
    have hx3 := XR_u (i := 28) (v := 0) (XR_u (i := 32) (v := -1) hx2 (Or.inr (Or.inr rfl))) (Or.inl rfl)
    have tn2 : TN (F 100) (cMk F (cBs F) x1) (F 100 4) (u2 (u2 F2 97 32 (-1)) 97 28 0) G2 := ⟨by rw [u2_o (by decide), u2_o (by decide)]; exact f100, by rw [u2_n (by decide), u2_n (by decide)]; exact f31, ht2.2⟩
    refine c_148 hv (by omega) (by omega) cv2 tn2 p1 p2 (fun v9 e9 => ⟨_, _, _, rfl, ?_⟩)
    have b6 := sTo_b hv (by omega) (by omega) cv p1 p2
    have b9 := sTo_b hv (by omega) (by omega) cv2 p1 p2
    rw [e6, e9, wl_id (by omega) (by omega)]
    have h5 : (F2 97 33, F2 97 34, F2 97 35) = ((-1 : Int), (-1 : Int), (0 : Int)) := hx2.2.2.1
    have h5' := Prod.mk.inj h5
    have h6 := Prod.mk.inj h5'.2
    refine ok hl ⟨p1, p2⟩ (by omega) _ G2 ⟨hx3.1, ⟨⟨?_, ?_, ?_, ?_⟩, Or.inl u2_s, fun q => ?_⟩, hx3.2.2.2⟩
    · rw [u2_n (by decide)]; exact u2_s
    · rw [u2_n (by decide), u2_n (by decide)]; exact h5'.1
    · rw [u2_n (by decide), u2_n (by decide)]; exact h6.1
    · rw [u2_n (by decide), u2_n (by decide)]; exact h6.2
    · rw [u2_s] at q
      exact absurd q (by decide)
  · exact c_69 z_0 (by decide) (by decide) (by decide) (fun q => absurd rfl q) (fun _ => cn_0 ⟨_, _, _, rfl, noA hl ⟨p1, p2⟩ (fun x => ha (by omega))⟩)
