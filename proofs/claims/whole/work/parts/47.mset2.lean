/-! ===== the reference sets up ===== -/
theorem PM_u {F F' : FI} {G G' : FJ} {c i : Nat} {v : Int} (h : PM F F' G G') (hc : 114 ≤ c) (hc2 : c ≤ 127) : PM F (u2 F' c i v) G G' := by
  refine ⟨fun a ha => ?_, fun j hj => ?_, h.2.2⟩
  · rw [u2_o (by unfold kpM at ha; omega)]
    exact h.1 a ha
  · rw [u2_o (by omega)]
    exact h.2.1 j hj
theorem PM_v {F F' : FI} {G G' : FJ} {i : Nat} {v : Int} (h : PM F F' G G') (hi : ¬ kpF i) : PM F (u2 F' 97 i v) G G' := by
  refine ⟨fun a ha => ?_, fun j hj => ?_, h.2.2⟩
  · rw [u2_o (by unfold kpM at ha; omega)]
    exact h.1 a ha
  · rw [u2_n (fun q => hi (by rw [← q]; exact hj))]
    exact h.2.1 j hj
theorem PM_j {F F' : FI} {G G' : FJ} {c i : Nat} {v : Int} (h : PM F F' G G') (hc : c = 97 ∨ 118 ≤ c ∧ c ≤ 127) : PM F F' G (u2 G' c i v) := by
  refine ⟨h.1, h.2.1, fun a ha => ?_⟩
  rw [u2_o (by unfold kpG at ha; omega)]
  exact h.2.2 a ha
def SUa (F0 F : FI) (G0 G : FJ) (x : Int) : Prop := PM F0 F G0 G ∧ F 97 28 = 1 ∧ F 97 31 = F0 100 4 ∧ (∀ h, 0 ≤ h → h < x → F 114 h.toNat = sLd (F0 100) (F0 112) h) ∧ RDY (F0 100) (F0 100 4) (mk0 F0) F G ∧ GB G ∧ OM F
theorem OM_u {F : FI} {c i : Nat} {v : Int} (h : OM F) (hc : c ≠ 97) : OM (u2 F c i v) := by
  unfold OM at h ⊢
  rw [u2_o (Ne.symm hc)]
  exact h
theorem l_143_57 {Q : Rs → Mm → Prop} {x1 : Int} {S : FS} {F F0 : FI} {G G0 : FJ} (hm : MV F0 G0) (h1 : 0 ≤ x1) (h1' : x1 ≤ F0 100 2) (hd : SUa F0 F G0 G (F0 100 3)) (hks : ∀ k, 0 ≤ k → k < x1 → F 115 k.toNat = F0 112 k.toNat)
    (hq : ∀ F', RD F0 F' G0 G (sCf (F0 100) (F0 112) (mL F0)) → Q (.inl none) (mm S F' G)) : wph 6 143 57 [.inr (.inr (.inl 97)), .inl x1] [] (mm S F G) (0, 0) Q := by
  have hv := hm.1
  obtain ⟨⟨hv1, hv2⟩, ⟨hv3, hv4⟩, ⟨hv5, hv6⟩, ⟨hv7, hv8⟩, ⟨hv9, hv10⟩, ⟨hv11, hv12⟩, ⟨hv13, hv14⟩, hvw, hvs, hvk, hvc, hvx⟩ := id hv
  obtain ⟨d1, d2, d3, d4, d5, d6, d7⟩ := id hd
  refine sg_143_57 ?_
  rw [d1.1 100 kp100, d1.1 112 kp112]
  refine cn_i (fun h => ?_) (fun h => ?_)
  · try simp (disch := omega) only [wr_id]
    refine ck_i (by (first | exact jb_i (by (first | assumption | omega | (simp (disch := omega) only [wr_id]; omega))) (by (first | assumption | omega | (simp (disch := omega) only [wr_id]; omega))) | exact jo_i (by omega) | exact jz_i (by omega) | rfl | (simp only [*]; first | rfl | exact jb_i (by (first | assumption | omega | (simp (disch := omega) only [wr_id]; omega))) (by (first | assumption | omega | (simp (disch := omega) only [wr_id]; omega)))))) (ck_i (by (first | exact jb_i (by (first | assumption | omega | (simp (disch := omega) only [wr_id]; omega))) (by (first | assumption | omega | (simp (disch := omega) only [wr_id]; omega))) | exact jo_i (by omega) | exact jz_i (by omega) | rfl | (simp only [*]; first | rfl | exact jb_i (by (first | assumption | omega | (simp (disch := omega) only [wr_id]; omega))) (by (first | assumption | omega | (simp (disch := omega) only [wr_id]; omega)))))) ?_)
    refine l_143_57 hm (by omega) (by omega) ⟨PM_u d1 (by decide) (by decide), by rw [u2_o (by decide)]; exact d2, by rw [u2_o (by decide)]; exact d3, fun h a b => by rw [u2_o (by decide)]; exact d4 h a b, RDY_c d5 (u2_o (by decide)) (u2_o (by decide)) rfl rfl, d6, OM_u d7 (by decide)⟩ (fun k a b => ?_) hq
    rw [u2_k]
    by_cases c : k = x1
    · rw [c, if_pos rfl, Int.zero_add]
    · rw [if_neg (by omega)]
      exact hks k a (by omega)
  · refine hq F ⟨d1, d2, d7.1, d3, ⟨d4, fun k a b => hks k a (by omega), fun h a b => ?_, fun _ _ _ _ _ _ _ _ => rfl, ?_⟩, d5, d6⟩
    · show F 112 _ = F0 112 _
      rw [d1.1 112 kp112]
    · show (F 97 33, F 97 34, F 97 35) = (-1, -1, 0)
      rw [d7.2.1, d7.2.2.1, d7.2.2.2]
termination_by (F0 100 2 - x1).toNat
decreasing_by omega
theorem l_143_28 {Q : Rs → Mm → Prop} {x1 : Int} {S : FS} {F F0 : FI} {G G0 : FJ} (hm : MV F0 G0) (h1 : 0 ≤ x1) (h1' : x1 ≤ F0 100 3) (hd : SUa F0 F G0 G x1) (hq : ∀ F', RD F0 F' G0 G (sCf (F0 100) (F0 112) (mL F0)) → Q (.inl none) (mm S F' G)) :
    wph 6 143 28 [.inr (.inr (.inl 97)), .inl x1] [] (mm S F G) (0, 0) Q := by
  have hv := hm.1
  obtain ⟨⟨hv1, hv2⟩, ⟨hv3, hv4⟩, ⟨hv5, hv6⟩, ⟨hv7, hv8⟩, ⟨hv9, hv10⟩, ⟨hv11, hv12⟩, ⟨hv13, hv14⟩, hvw, hvs, hvk, hvc, hvx⟩ := id hv
  obtain ⟨d1, d2, d3, d4, d5, d6, d7⟩ := id hd
  refine sg_143_28 ?_
  rw [d1.1 100 kp100]
  refine cn_i (fun h => ?_) (fun h => ?_)
  · try simp (disch := omega) only [wr_id]
    refine c_121 (by rw [d1.1 100 kp100]; exact hv) (by rw [d1.1 100 kp100, d1.1 112 kp112]; exact hm.2.1) h1 (by omega) (fun v e => ?_)
    rw [d1.1 100 kp100, d1.1 112 kp112] at e
    refine ck_i (by (first | exact jb_i (by (first | assumption | omega | (simp (disch := omega) only [wr_id]; omega))) (by (first | assumption | omega | (simp (disch := omega) only [wr_id]; omega))) | exact jo_i (by omega) | exact jz_i (by omega) | rfl | (simp only [*]; first | rfl | exact jb_i (by (first | assumption | omega | (simp (disch := omega) only [wr_id]; omega))) (by (first | assumption | omega | (simp (disch := omega) only [wr_id]; omega)))))) ?_
    refine l_143_28 hm (by omega) (by omega) ⟨PM_u d1 (by decide) (by decide), by rw [u2_o (by decide)]; exact d2, by rw [u2_o (by decide)]; exact d3, fun h a b => ?_, RDY_c d5 (u2_o (by decide)) (u2_o (by decide)) rfl rfl, d6, OM_u d7 (by decide)⟩ hq
    rw [u2_k]
    by_cases c : h = x1
    · rw [c, if_pos rfl, e]
    · rw [if_neg (by omega)]
      exact d4 h a (by omega)
  · have : x1 = F0 100 3 := by omega
    subst this
    exact l_143_57 hm (by omega) (by omega) hd (fun k a b => by omega) hq
termination_by (F0 100 3 - x1).toNat
decreasing_by omega
theorem c_143 {k : FS → FI → FJ → Prop} {S : FS} {F : FI} {G : FJ} (hm : MV F G) (hk : ∀ F' G', RD F F' G G' (sCf (F 100) (F 112) (mL F)) → k S F' G') : calV 6 143 [.inr (.inr (.inl 97))] (mm S F G) k nof := by
  have hv := hm.1
  obtain ⟨⟨hv1, hv2⟩, ⟨hv3, hv4⟩, ⟨hv5, hv6⟩, ⟨hv7, hv8⟩, ⟨hv9, hv10⟩, ⟨hv11, hv12⟩, ⟨hv13, hv14⟩, hvw, hvs, hvk, hvc, hvx⟩ := id hv
  obtain ⟨-, hs, hw, ⟨⟨h32, h33, h34, h35⟩, hk01, hkn⟩, hg⟩ := id hm
  refine sg_143_0 ?_
  refine cn_i (fun h => ?_) (fun h => ?_)
  · have e100 : (u2 F 97 31 (F 100 4)) 100 = F 100 := u2_o (by decide)
    have e31 : (u2 F 97 31 (F 100 4)) 97 31 = F 100 4 := u2_s
    have e32 : (u2 F 97 31 (F 100 4)) 97 32 = F 97 32 := u2_n (by decide)
    have eml : mL (u2 F 97 31 (F 100 4)) = mL F := mL_c (u2_n (by decide)) (u2_o (by decide)) (u2_o (by decide)) (u2_o (by decide)) (u2_o (by decide))
    refine c_129 (by rw [e100]; exact hv) (by rw [eml]; exact hw) (by rw [e31]; omega) (by rw [e31]; omega) hg.2.1 (fun F1 G1 hr hF hG => ?_)
    rw [e100, e31, eml, e32, h32] at hr
    have f97 : ∀ i, i ≠ 31 → F1 97 i = F 97 i := fun i hi => by
      rw [hF 97 (by decide) (by decide) (by decide) (by decide), u2_n hi]
    have p1 : PM F F1 G G1 := by
      refine ⟨fun a ha => ?_, fun i hi => ?_, fun a ha => ?_⟩
      · unfold kpM at ha
        rw [hF a (by omega) (by omega) (by omega) (by omega), u2_o (by omega)]
      · unfold kpF at hi
        exact f97 i (by omega)
      · unfold kpG at ha
        exact hG a (by omega) (by omega)
    refine l_143_28 (F0 := F) (G0 := G) hm (by omega) (by omega) ⟨PM_v p1 (by unfold kpF; omega), u2_s, ?_, fun h a b => by omega, RDY_c hr (u2_o (by decide)) (u2_o (by decide)) rfl rfl, ⟨?_, hr.2.2.2.2, ?_⟩, ?_⟩ (fun F' hu => ⟨_, _, _, rfl, hk F' G1 hu⟩)
    · rw [u2_n (by decide), hF 97 (by decide) (by decide) (by decide) (by decide), u2_s]
    · rw [hG 119 (by decide) (by decide)]; exact hg.1
    · rw [hG 121 (by decide) (by decide)]; exact hg.2.2
    · unfold OM
      rw [u2_n (by decide), u2_n (by decide), u2_n (by decide), u2_n (by decide), f97 _ (by decide), f97 _ (by decide), f97 _ (by decide), f97 _ (by decide)]
      exact ⟨h32, h33, h34, h35⟩
  · have h1 : F 97 28 = 1 := by omega
    have hr := hkn h1
    refine l_143_28 (F0 := F) (G0 := G) hm (by omega) (by omega) ⟨PM_v (PM_v PM_r (by unfold kpF; omega)) (by unfold kpF; omega), u2_s, by rw [u2_n (by decide), u2_s], fun h a b => by omega, RDY_c hr ?_ ?_ rfl rfl, hg, ?_⟩ (fun F' hu => ⟨_, _, _, rfl, hk F' G hu⟩)
    · rw [u2_o (by decide), u2_o (by decide)]
    · rw [u2_o (by decide), u2_o (by decide)]
    · unfold OM
      rw [u2_n (by decide), u2_n (by decide), u2_n (by decide), u2_n (by decide), u2_n (by decide), u2_n (by decide), u2_n (by decide), u2_n (by decide)]
      exact ⟨h32, h33, h34, h35⟩
