/-! ===== a land, a law, a journey ===== -/
set_option maxRecDepth 100000 in
theorem law_1 {K : Int → FS → FI → FJ → Prop} {sc : Nat → Int} {n0 : Nat} {x1 : Int} {S : FS} {F : FI} {G : FJ} (hB : BI sc n0 S F G) (hk : ∀ v S1 F1 G1, Rd sc n0 v S1 F1 G1 (fun K2 => calI 5 96 [.inr (.inr (.inl 97)), .inl x1] (mm S1 F1 G1) K2 nof) → K v S1 F1 G1) : calI 8 299 [.inr (.inr (.inl 1)), .inl x1, .inr (.inr (.inl 128))] (mm S F G) K nof := by
  obtain ⟨a, a', b, b', h⟩ := hB
  obtain ⟨⟨pa, pb, p1, p2, p3, p4⟩, tx, ⟨s1, s2⟩, ⟨t1, t2, t3, t4⟩, r2, ⟨l1, l2, l3, l4⟩, ⟨c1, c2⟩, kn, gb, sx, pr, im, ld⟩ := id h
  have hx2 : 0 ≤ F 2 1 ∧ F 2 1 ≤ 600 := by rw [t2]; exact t1
  refine sg_299_0 (p_2x (t := F 99) (kd := F 97 6) (g := F 101) (R := lRd F x1) pa.1 pa.2.1 pb.1 ⟨p1, p2, p3⟩ tx hx2 (fun i hi => by rw [t2] at hi; exact t3 i hi) rfl c1 c2 (fun n => ex_2 ⟨_, _, _, rfl, hk 1 _ _ _ (rd_rf h (by decide) (fun K2 hK => ?_))⟩) (fun A bd F1 f1 f2 f8 => ⟨_, _, _, rfl, hk 0 _ _ _ ?_⟩) (fun A gd rv ne S1 F1 G1 yk ss so fo f1 f16 f17 f2 f8 go => ⟨_, _, _, rfl, hk 0 _ _ _ ?_⟩))
  · have hi : Hi F (rfc F 2) G G := rfc_h
    have e97 := hi.1 97 (by decide)
    rw [t2] at n
    exact q_96 (Hi_X hi tx) (by rw [e97]; exact t1) (fun _ => hK _) (fun A => absurd (by rw [e97] at A; exact A) n) (fun A => absurd (by rw [e97] at A; exact A) n)
  · -- a fault
    have hi : Hi F F1 G (u2 G 128 0 (wr ((pE (lRd F x1).1 (lRd F x1).2 x1).2.2 - 10))) := ⟨fun c hc => f1 c (by omega) (by omega), fun c _ h2 => u2_o h2⟩
    have e97 := hi.1 97 (by decide)
    have eR : lRd F1 x1 = lRd F x1 := by unfold lRd; rw [hi.1 99 (by decide), hi.1 101 (by decide), e97]
    have eP : lP F1 x1 = pE (lRd F x1).1 (lRd F x1).2 x1 := by unfold lP; rw [eR]
    refine ⟨by rw [hi.1 _ (by decide)]; exact s1, ⟨by rw [u2_o (by decide)]; exact s2, rfl⟩, fun K2 hK => ?_⟩
    rw [t2] at A
    refine q_96 (Hi_X hi tx) (by rw [e97]; exact t1) (fun n => absurd A (by rw [e97] at n; exact n)) (fun _ _ F2 g1 g2 g0 g02 g8 => ?_) (fun _ q => absurd q (by rw [eP]; exact bd))
    rw [eP] at g8 ⊢
    refine hK _ (u2 S 4 1 a') F2 _ ⟨a, a', b, b', ?_⟩ g0 (fun _ => by rw [u2_s])
    have o : ∀ c, c ≠ 2 → ¬ (a' ≤ c ∧ c ≤ a' + 9) → c ≠ 97 → c ≠ 101 → F2 c = F c := fun c x1 x2 x3 x4 => by rw [g1 c x3 x4]; exact f1 c x1 x2
    have e9 : ∀ i, i ≠ 0 → ¬ (2 ≤ i ∧ i ≤ 8) → F2 97 i = F 97 i := fun i h1 h2 => by rw [g2 i h1 h2, e97]
    have eL : mL F2 = mL F := mL_c (e9 13 (by decide) (by decide)) (o _ (by decide) (by omega) (by decide) (by decide)) (o _ (by decide) (by omega) (by decide) (by decide)) (o _ (by decide) (by omega) (by decide) (by decide)) (o _ (by decide) (by omega) (by decide) (by decide))
    have e100 := o 100 (by decide) (by omega) (by decide) (by decide)
    have e112 := o 112 (by decide) (by omega) (by decide) (by decide)
    have hi2 : KNO F2 (u2 G 128 0 (wr ((pE (lRd F x1).1 (lRd F x1).2 x1).2.2 - 10))) := KNO_e kn (fun i hi => e9 i (by omega) (by omega)) e100 eL (o _ (by decide) (by omega) (by decide) (by decide)) (o _ (by decide) (by omega) (by decide) (by decide)) (u2_o (by decide)) (u2_o (by decide))
    refine ⟨⟨pa, pb, by rw [u2_o (by decide)]; exact p1, by rw [u2_o (by decide)]; exact p2, by rw [u2_o (by decide)]; exact p3, by rw [u2_o (by decide)]; exact p4⟩, fun t i x y => ?_, ⟨by rw [o _ (by decide) (by omega) (by decide) (by decide)]; exact s1, by rw [u2_o (by decide)]; exact s2⟩, ⟨by rw [g02]; decide, ?_, fun i hi => ?_, ?_⟩, fun i hi => ?_, ⟨?_, ?_, ?_, ?_⟩, ⟨?_, ?_⟩, hi2, ?_, ?_, ?_, ?_, ?_⟩
    · rw [o (2000000 + t) (by omega) (by omega) (by omega) (by omega)]; exact tx t i x y
    · rw [g1 2 (by decide) (by decide), g02]; exact f2
    · rw [g02] at hi
      omega
    · rw [g1 2 (by decide) (by decide), f8, g8]
    · rw [o 40 (by decide) (by omega) (by decide) (by decide), o 98 (by decide) (by omega) (by decide) (by decide)]; exact r2 i ‹_›
    · rw [eL]; exact l1
    · rw [eL]; exact WR_c l2 (fun i hi => o _ (by omega) (by omega) (by omega) (by omega))
    · rw [o _ (by omega) (by omega) (by omega) (by omega)]; exact l3
    · rw [o _ (by omega) (by omega) (by omega) (by omega)]; exact l4
    · rw [o 16 (by decide) (by omega) (by decide) (by decide)]; exact c1
    · rw [o 19 (by decide) (by omega) (by decide) (by decide)]; exact c2
    · exact Hi_G ⟨fun _ _ => rfl, fun c _ h2 => u2_o h2⟩ gb (F := F) (F' := F)
    · rw [e100, e112]; exact sx
    · rw [e112]; exact PR_c pr (fun i hi => o _ (by omega) (by omega) (by omega) (by omega))
    · exact Im2_k im (e9 27 (by decide) (by decide)) (by rw [o 1 (by decide) (by omega) (by decide) (by decide)]) e100 (o 113 (by decide) (by omega) (by decide) (by decide)) (fun d d1 d2 => o d (by omega) (by omega) (by omega) (by omega))
    · rcases ld with ⟨n1, n2, n3⟩ | ⟨g1', g2'⟩
      · refine Or.inl ⟨by rw [e9 12 (by decide) (by decide)]; exact n1, fun i x y => ?_, fun j hj => by rw [e100]; exact n3 j hj⟩
        rw [o a (by omega) (by omega) (by omega) (by omega)]
        exact n2 i x y
      · refine Or.inr ⟨by rw [e9 12 (by decide) (by decide)]; exact g1', ?_⟩
        rw [e100, e112, eL]
        obtain ⟨ha, hb, ⟨k1, k2, k3, k4⟩, y1, y2, y3, y4, y5, y6, v1, v2, v3, v4, v5, v6⟩ := g2'
        refine ⟨ha, hb, ⟨by rw [u2_o (by decide)]; exact k1, by rw [u2_o (by decide)]; exact k2, by rw [u2_o (by decide)]; exact k3, by rw [u2_o (by decide)]; exact k4⟩, y1, y2, y3, LR_c y4 (fun i hi => o _ (by omega) (by omega) (by omega) (by omega)) (u2_o (by omega)), WR_c y5 (fun i hi => o _ (by omega) (by omega) (by omega) (by omega)), PR_c y6 (fun i hi => o _ (by omega) (by omega) (by omega) (by omega)), by rw [o 23 (by decide) (by omega) (by decide) (by decide)]; exact v1, ?_, by rw [o 16 (by decide) (by omega) (by decide) (by decide)]; exact v3, by rw [o 19 (by decide) (by omega) (by decide) (by decide)]; exact v4, by rw [o 1 (by decide) (by omega) (by decide) (by decide)]; exact v5, fun q => ?_⟩
        · unfold RK
          rw [o 22 (by decide) (by omega) (by decide) (by decide), o 24 (by decide) (by omega) (by decide) (by decide)]
          exact v2
        · rw [o 1 (by decide) (by omega) (by decide) (by decide)] at q
          have := v6 q
          unfold SOL GS at this ⊢
          rw [o 7 (by decide) (by omega) (by decide) (by decide), o 6 (by decide) (by omega) (by decide) (by decide), o 18 (by decide) (by omega) (by decide) (by decide), u2_o (show 16 + 1 ≠ 128 by decide)]
          exact this
  · -- a land stands
    obtain ⟨R, eRd⟩ : ∃ R, R = lRd F x1 := ⟨_, rfl⟩
    rw [← eRd] at gd rv ne yk ⊢
    have hi : Hi F F1 G (u2 G1 128 0 (R.2 0)) := ⟨fun c hc => fo c (by omega) (by omega) (by omega) (by omega) (by omega) (by omega) (by omega), fun c h1 h2 => by rw [u2_o h2]; exact go c (by omega)⟩
    have e97 := hi.1 97 (by decide)
    have eR : lRd F1 x1 = R := by rw [eRd]; unfold lRd; rw [hi.1 99 (by decide), hi.1 101 (by decide), e97]
    have eP : lP F1 x1 = pE R.1 R.2 x1 := by unfold lP; rw [eR]
    refine ⟨by rw [hi.1 _ (by decide)]; exact s1, ⟨by rw [so _ _ (by decide) (by decide) (by omega)]; exact s2, rfl⟩, fun K2 hK => ?_⟩
    rw [t2] at A
    refine q_96 (Hi_X hi tx) (by rw [e97]; exact t1) (fun n => absurd A (by rw [e97] at n; exact n)) (fun _ q => absurd gd (by rw [eP] at q; exact q)) (fun _ _ _ _ F2 g1 g2 g0 g02 g8 gv g100 g112 => ?_)
    rw [eR] at g100 ⊢
    refine hK _ S1 F2 _ ⟨a', a, b, b', ?_⟩ g0 (fun _ => by rw [u2_s])
    have o : ∀ c, c ≠ 1 → c ≠ 2 → c ≠ 22 → c ≠ 23 → ¬ (31 ≤ c ∧ c ≤ 34) → ¬ (a' ≤ c ∧ c ≤ a' + 9) → c ≠ b → c ≠ 97 → c ≠ 100 → c ≠ 101 → c ≠ 112 → F2 c = F c := fun c x1 x2 x3 x4 x5 x6 x7 x8 x9 x10 x11 => by rw [g1 c x8 x9 x10 x11]; exact fo c x1 x2 x3 x4 x5 x6 x7
    have e9 : ∀ i, i ≠ 0 → ¬ (2 ≤ i ∧ i ≤ 8) → i ≠ 12 → i ≠ 13 → i ≠ 27 → i ≠ 28 → F2 97 i = F 97 i := fun i h1 h2 h3 h4 h5 h6 => by rw [g2 i h1 h2 h3 h4 h5 h6, e97]
    have lo : ∀ c, c < 97 → F2 c = F1 c := fun c hc => g1 c (by omega) (by omega) (by omega) (by omega)
    have e708 : ∀ j, j < 708 → F2 100 j = R.2 j := fun j hj => by rw [g100]; exact if_pos hj
    have y := yk (F2 100) (F2 112) (mL F2) e708 g112 gv.2.1
    have y2 : YK S1 F2 (u2 G1 128 0 (R.2 0)) a' b (F2 100) (F2 112) (mL F2) := Lo_Y ⟨lo, fun c hc => u2_o (by omega)⟩ y
    have rv0 : RV (F2 100) := RV_e rv e708
    have hi2 : KNO F2 (u2 G1 128 0 (R.2 0)) := by
      obtain ⟨⟨o1, o2, o3, o4⟩, -, -⟩ := kn
      refine ⟨⟨by rw [e9 32 (by decide) (by decide) (by decide) (by decide) (by decide) (by decide)]; exact o1, by rw [e9 33 (by decide) (by decide) (by decide) (by decide) (by decide) (by decide)]; exact o2, by rw [e9 34 (by decide) (by decide) (by decide) (by decide) (by decide) (by decide)]; exact o3, by rw [e9 35 (by decide) (by decide) (by decide) (by decide) (by decide) (by decide)]; exact o4⟩, Or.inl gv.2.2.2, fun q => ?_⟩
      rw [gv.2.2.2] at q
      exact absurd q (by decide)
    have wl : (mL F2).1 = 0 := gv.2.1
    refine ⟨⟨⟨pa.2.1, pa.1, fun q => pa.2.2 q.symm⟩, pb, ss.1, ss.2, by rw [so 1 2 (by decide) (by decide) (by omega)]; exact p3, by rw [so 1 3 (by decide) (by decide) (by omega)]; exact p4⟩, fun t i x y => ?_, ⟨by rw [o _ (by decide) (by decide) (by decide) (by decide) (by decide) (by omega) (by omega) (by decide) (by decide) (by decide) (by decide)]; exact s1, by rw [so _ _ (by decide) (by decide) (by omega)]; exact s2⟩, ⟨by rw [g02]; decide, ?_, fun i hi => ?_, ?_⟩, fun i hi' => ?_, ⟨LW_0 wl, ⟨?_, fun k k0 k1 => by omega⟩, ?_, ?_⟩, ⟨?_, ?_⟩, hi2, ?_, ⟨y2.2.2.2.2.1, fun q => ?_⟩, y2.2.2.2.2.2.2.2.2.1, ⟨by rw [gv.2.2.1]; decide, ?_, fun n hn => ?_⟩, Or.inr ⟨by rw [gv.1]; decide, y2⟩⟩
    · rw [o (2000000 + t) (by omega) (by omega) (by omega) (by omega) (by omega) (by omega) (by omega) (by omega) (by omega) (by omega) (by omega)]; exact tx t i x y
    · rw [lo 2 (by decide), g02]; exact f2
    · rw [g02] at hi
      omega
    · rw [lo 2 (by decide), f8, g8]
    · rw [o 40 (by decide) (by decide) (by decide) (by decide) (by decide) (by omega) (by omega) (by decide) (by decide) (by decide) (by decide), g1 98 (by decide) (by decide) (by decide) (by decide), hi.1 98 (by decide)]; exact r2 i ‹_›
    · exact y2.2.2.2.2.2.2.2.1.1
    · rw [o _ (by omega) (by omega) (by omega) (by omega) (by omega) (by omega) (by omega) (by omega) (by omega) (by omega) (by omega)]; exact l3
    · rw [o _ (by omega) (by omega) (by omega) (by omega) (by omega) (by omega) (by omega) (by omega) (by omega) (by omega) (by omega)]; exact l4
    · exact y2.2.2.2.2.2.2.2.2.2.2.2.1
    · exact y2.2.2.2.2.2.2.2.2.2.2.2.2.1
    · refine Hi_G (F := F) (F' := F) ⟨fun _ _ => rfl, hi.2⟩ gb
    · rw [g112 79 (by decide)] at q
      exact absurd rfl q
    · rw [lo 1 (by decide), f16, gv.2.2.1]
    · rw [gv.2.2.1] at hn
      omega
