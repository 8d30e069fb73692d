/-! ===== a law, a journey ===== -/
theorem RUL_any {t : Nat → Int} {n kd : Int} : ∃ R, RUL t n 11 ((0, -1, kd), []) [] R := by
  by_cases q : 0 ≤ n
  · exact RUL_all 11 _ _ ⟨Int.le_refl 0, q⟩
  · refine ⟨_, Or.inr (Or.inl ⟨rfl, ?_, rfl⟩)⟩
    have e : pSp t n 0 = 0 := pSp_e (by omega)
    show n ≤ pSp t n 0
    rw [e]
    omega
set_option maxRecDepth 100000 in
theorem law_2 {K : Int → FS → FI → FJ → Prop} {sc : Nat → Int} {n0 : Nat} {x1 : Int} {S : FS} {F : FI} {G : FJ} (hB : BI sc n0 S F G) (hk : ∀ v S1 F1 G1, Rd sc n0 v S1 F1 G1 (fun K2 => calI 91 106 [.inr (.inr (.inl 97)), .inl x1] (mm S1 F1 G1) K2 nof) → K v S1 F1 G1) : calI 94 300 [.inr (.inr (.inl 1)), .inl x1, .inr (.inr (.inl 128))] (mm S F G) K nof := by
  obtain ⟨a, a', b, b', h⟩ := hB
  obtain ⟨⟨pa, pb, p1, p2, p3, p4⟩, tx, ⟨s1, s2⟩, ⟨t1, t2, t3, t4⟩, r2, ⟨l1, l2, l3, l4⟩, ⟨c1, c2⟩, kn, gb, sx, pr, im, ld⟩ := id h
  obtain ⟨R, hR⟩ := RUL_any (t := F 99) (n := x1) (kd := F 97 6)
  have hx2 : 0 ≤ F 2 1 ∧ F 2 1 ≤ 600 := by rw [t2]; exact t1
  have wf : 0 ≤ x1 → x1 ≤ 600 → R.1.1.2.1 = -1 → R.2.length ≤ 10 ∧ R.1.2.length ≤ 600 ∧ RWF R.2 R.1.2 := fun h0 h6 gd => by
    have := RUL_wf (t := F 99) (n := x1) (R := R) h6 11 ((0, -1, F 97 6), []) [] rfl hR ⟨Int.le_refl 0, h0⟩ (fun _ => ⟨Int.le_refl 0, by decide, ⟨fun i hi => absurd hi (by show ¬ i < 0; omega), rfl⟩⟩) gd
    exact ⟨this.2.1, by omega, this.2.2⟩
  by_cases A : 0 ≤ x1 ∧ x1 ≤ F 2 1
  · refine sg_300_0 (p_3x (t := F 99) (kd := F 97 6) (R := R) pa.1 pb.1 pb.2.1 (fun q => pb.2.2 q.symm) ⟨p1, p3, p4⟩ tx hx2 (fun i hi => by rw [t2] at hi; exact t3 i hi) l4 hR (fun n => absurd A n) (fun _ bd F1 f1 fz f2 f8 => ⟨_, _, _, rfl, hk 0 _ _ _ ?_⟩) (fun _ gd S1 F1 yk ss so fo f1 f17 fz f2 f8 => ⟨_, _, _, rfl, hk 0 _ _ _ ?_⟩) (fun _ => wf A.1 (by omega)))
    · have hi : Hi F F1 G (u2 G 128 0 (wr (R.1.1.2.2 - 10))) := ⟨fun c hc => f1 c (by omega) (by omega), fun c _ h2 => u2_o h2⟩
      have e97 := hi.1 97 (by decide)
      rw [t2] at A
      refine ⟨by rw [hi.1 _ (by decide)]; exact s1, ⟨by rw [u2_o (by decide)]; exact s2, rfl⟩, fun K2 hK => ?_⟩
      refine q_106 (R := R) (Hi_X hi tx) (by rw [e97]; exact t1) (by rw [hi.1 99 (by decide), e97]; exact hR) (fun n => absurd A (by rw [e97] at n; exact n)) (fun _ _ F2 g1 g1b g2 g0 g02 g8 => ?_) (fun _ q => absurd q bd)
      refine hK _ (u2 S 5 1 b') F2 _ ⟨a, a', b, b', ?_⟩ g0 (fun _ => by rw [u2_s])
      have o : ∀ c, c ≠ 2 → ¬ (b' ≤ c ∧ c ≤ b' + 3) → c ≠ 97 → ¬ (104 ≤ c ∧ c ≤ 109) → F2 c = F c := fun c x1 x2 x3 x4 => by rw [g1 c x3 x4]; exact f1 c x1 x2
      have e9 : ∀ i, i ≠ 0 → ¬ (2 ≤ i ∧ i ≤ 8) → i ≠ 14 → F2 97 i = F 97 i := fun i h1 h2 h3 => by rw [g2 i h1 h2 h3, e97]
      have eL : mL F2 = mL F := mL_c (e9 13 (by decide) (by decide) (by decide)) (by rw [g1b.1]; exact hi.1 106 (by decide)) (by rw [g1b.2]; exact hi.1 107 (by decide)) (o _ (by decide) (by omega) (by decide) (by decide)) (o _ (by decide) (by omega) (by decide) (by decide))
      have e100 := o 100 (by decide) (by omega) (by decide) (by decide)
      have e112 := o 112 (by decide) (by omega) (by decide) (by decide)
      refine ⟨⟨pa, pb, by rw [u2_o (by decide)]; exact p1, by rw [u2_o (by decide)]; exact p2, by rw [u2_o (by decide)]; exact p3, by rw [u2_o (by decide)]; exact p4⟩, fun t i x y => ?_, ⟨by rw [o _ (by decide) (by omega) (by decide) (by decide)]; exact s1, by rw [u2_o (by decide)]; exact s2⟩, ⟨by rw [g02]; decide, ?_, fun i hi => ?_, ?_⟩, fun i hi => ?_, ⟨?_, ?_, ?_, ?_⟩, ⟨?_, ?_⟩, ?_, ?_, ?_, ?_, ?_, ?_⟩
      · rw [o (2000000 + t) (by omega) (by omega) (by omega) (by omega)]; exact tx t i x y
      · rw [g1 2 (by decide) (by decide), g02]; exact f2
      · rw [g02] at hi
        omega
      · rw [g1 2 (by decide) (by decide), f8, g8]
      · rw [o 40 (by decide) (by omega) (by decide) (by decide), o 98 (by decide) (by omega) (by decide) (by decide)]; exact r2 i hi
      · rw [eL]; exact l1
      · rw [eL]; exact WR_c l2 (fun i hi => o _ (by omega) (by omega) (by omega) (by omega))
      · rw [o _ (by omega) (by omega) (by omega) (by omega)]; exact l3
      · rw [g1 _ (by omega) (by omega)]; exact fz
      · rw [o 16 (by decide) (by omega) (by decide) (by decide)]; exact c1
      · rw [o 19 (by decide) (by omega) (by decide) (by decide)]; exact c2
      · exact KNO_e kn (fun i hi => e9 i (by omega) (by omega) (by omega)) e100 eL (o _ (by decide) (by omega) (by decide) (by decide)) (o _ (by decide) (by omega) (by decide) (by decide)) (u2_o (by decide)) (u2_o (by decide))
      · exact Hi_G ⟨fun _ _ => rfl, fun c _ h2 => u2_o h2⟩ gb (F := F) (F' := F)
      · rw [e100, e112]; exact sx
      · rw [e112]; exact PR_c pr (fun i hi => o _ (by omega) (by omega) (by omega) (by omega))
      · exact Im2_k im (e9 27 (by decide) (by decide) (by decide)) (by rw [o 1 (by decide) (by omega) (by decide) (by decide)]) e100 (o 113 (by decide) (by omega) (by decide) (by decide)) (fun d d1 d2 => o d (by omega) (by omega) (by omega) (by omega))
      · rcases ld with ⟨n1, n2, n3⟩ | ⟨g1', g2'⟩
        · refine Or.inl ⟨by rw [e9 12 (by decide) (by decide) (by decide)]; exact n1, fun i x y => ?_, fun j hj => by rw [e100]; exact n3 j hj⟩
          rw [o a (by omega) (by omega) (by omega) (by omega)]
          exact n2 i x y
        · refine Or.inr ⟨by rw [e9 12 (by decide) (by decide) (by decide)]; exact g1', ?_⟩
          rw [e100, e112, eL]
          obtain ⟨ha, hb, ⟨k1, k2, k3, k4⟩, y1, y2, y3, y4, y5, y6, v1, v2, v3, v4, v5, v6⟩ := g2'
          refine ⟨ha, hb, ⟨by rw [u2_o (by decide)]; exact k1, by rw [u2_o (by decide)]; exact k2, by rw [u2_o (by decide)]; exact k3, by rw [u2_o (by decide)]; exact k4⟩, y1, y2, y3, LR_c y4 (fun i hi => o _ (by omega) (by omega) (by omega) (by omega)) (u2_o (by omega)), WR_c y5 (fun i hi => o _ (by omega) (by omega) (by omega) (by omega)), PR_c y6 (fun i hi => o _ (by omega) (by omega) (by omega) (by omega)), by rw [o 23 (by decide) (by omega) (by decide) (by decide)]; exact v1, ?_, by rw [o 16 (by decide) (by omega) (by decide) (by decide)]; exact v3, by rw [o 19 (by decide) (by omega) (by decide) (by decide)]; exact v4, by rw [o 1 (by decide) (by omega) (by decide) (by decide)]; exact v5, fun q => ?_⟩
          · unfold RK
            rw [o 22 (by decide) (by omega) (by decide) (by decide), o 24 (by decide) (by omega) (by decide) (by decide)]
            exact v2
          · rw [o 1 (by decide) (by omega) (by decide) (by decide)] at q
            have := v6 q
            unfold SOL GS at this ⊢
            rw [o 7 (by decide) (by omega) (by decide) (by decide), o 6 (by decide) (by omega) (by decide) (by decide), o 18 (by decide) (by omega) (by decide) (by decide), u2_o (show 16 + 1 ≠ 128 by decide)]
            exact this
    · have hi : Hi F F1 G (u2 G 128 0 (R.2.length : Int)) := ⟨fun c hc => fo c (by omega) (by omega) (by omega) (by omega) (by omega), fun c h1 h2 => u2_o h2⟩
      have e97 := hi.1 97 (by decide)
      rw [t2] at A
      refine ⟨by rw [hi.1 _ (by decide)]; exact s1, ⟨by rw [so _ _ (by decide) (by decide) (by omega)]; exact s2, rfl⟩, fun K2 hK => ?_⟩
      refine q_106 (R := R) (Hi_X hi tx) (by rw [e97]; exact t1) (by rw [hi.1 99 (by decide), e97]; exact hR) (fun n => absurd A (by rw [e97] at n; exact n)) (fun _ q => absurd gd q) (fun _ _ _ F2 g1 g2 g0 g02 g8 g28 lm => ?_)
      refine hK _ S1 F2 _ ⟨a, a', b', b, ?_⟩ g0 (fun _ => by rw [u2_s])
      obtain ⟨lw, wr2, yy⟩ := yk (mL F2) lm
      have lo : ∀ c, c < 97 → F2 c = F1 c := fun c hc => g1 c (by omega) (by omega)
      have o : ∀ c, c ≠ 1 → c ≠ 2 → c ≠ 22 → c ≠ 23 → ¬ (b' ≤ c ∧ c ≤ b' + 3) → c ≠ 97 → ¬ (102 ≤ c ∧ c ≤ 109) → F2 c = F c := fun c x1 x2 x3 x4 x5 x6 x7 => by rw [g1 c x6 x7]; exact fo c x1 x2 x3 x4 x5
      have e9 : ∀ i, i ≠ 0 → ¬ (2 ≤ i ∧ i ≤ 8) → i ≠ 13 → i ≠ 14 → i ≠ 28 → F2 97 i = F 97 i := fun i h1 h2 h3 h4 h5 => by rw [g2 i h1 h2 h3 h4 h5, e97]
      have e100 := o 100 (by decide) (by decide) (by decide) (by decide) (by omega) (by decide) (by decide)
      have e112 := o 112 (by decide) (by decide) (by decide) (by decide) (by omega) (by decide) (by decide)
      have hi2 : KNO F2 (u2 G 128 0 (R.2.length : Int)) := by
        obtain ⟨⟨o1, o2, o3, o4⟩, -, -⟩ := kn
        refine ⟨⟨by rw [e9 32 (by decide) (by decide) (by decide) (by decide) (by decide)]; exact o1, by rw [e9 33 (by decide) (by decide) (by decide) (by decide) (by decide)]; exact o2, by rw [e9 34 (by decide) (by decide) (by decide) (by decide) (by decide)]; exact o3, by rw [e9 35 (by decide) (by decide) (by decide) (by decide) (by decide)]; exact o4⟩, Or.inl g28, fun q => ?_⟩
        rw [g28] at q
        exact absurd q (by decide)
      refine ⟨⟨pa, ⟨pb.2.1, pb.1, fun q => pb.2.2 q.symm⟩, by rw [so 1 0 (by decide) (by decide) (by omega)]; exact p1, by rw [so 1 1 (by decide) (by decide) (by omega)]; exact p2, ss.1, ss.2.1⟩, fun t i x y => ?_, ⟨by rw [o _ (by decide) (by decide) (by decide) (by decide) (by omega) (by decide) (by decide)]; exact s1, by rw [so _ _ (by decide) (by decide) (by omega)]; exact s2⟩, ⟨by rw [g02]; decide, ?_, fun i hi => ?_, ?_⟩, fun i hi => ?_, ⟨lw, WR_c wr2 (fun i hi => lo _ (by omega)), ?_, ?_⟩, ⟨?_, ?_⟩, hi2, ?_, ?_, ?_, ?_, ?_⟩
      · rw [o (2000000 + t) (by omega) (by omega) (by omega) (by omega) (by omega) (by omega) (by omega)]; exact tx t i x y
      · rw [lo 2 (by decide), g02]; exact f2
      · rw [g02] at hi
        omega
      · rw [lo 2 (by decide), f8, g8]
      · rw [o 40 (by decide) (by decide) (by decide) (by decide) (by omega) (by decide) (by decide), o 98 (by decide) (by decide) (by decide) (by decide) (by omega) (by decide) (by decide)]; exact r2 i hi
      · rw [lo _ (by omega)]; exact fz
      · rw [o _ (by omega) (by omega) (by omega) (by omega) (by omega) (by omega) (by omega)]; exact l3
      · rw [o 16 (by decide) (by decide) (by decide) (by decide) (by omega) (by decide) (by decide)]; exact c1
      · rw [o 19 (by decide) (by decide) (by decide) (by decide) (by omega) (by decide) (by decide)]; exact c2
      · exact Hi_G ⟨fun _ _ => rfl, fun c _ h2 => u2_o h2⟩ gb (F := F) (F' := F)
      · rw [e100, e112]; exact sx
      · rw [e112]; exact PR_c pr (fun i hi => o _ (by omega) (by omega) (by omega) (by omega) (by omega) (by omega) (by omega))
      · exact Im2_k im (e9 27 (by decide) (by decide) (by decide) (by decide) (by decide)) (by rw [lo 1 (by decide)]; exact f1 16 (by decide)) e100 (o 113 (by decide) (by decide) (by decide) (by decide) (by omega) (by decide) (by decide)) (fun d d1 d2 => o d (by omega) (by omega) (by omega) (by omega) (by omega) (by omega) (by omega))
      · rcases ld with ⟨n1, n2, n3⟩ | ⟨g1', g2'⟩
        · refine Or.inl ⟨by rw [e9 12 (by decide) (by decide) (by decide) (by decide) (by decide)]; exact n1, fun i x y => ?_, fun j hj => by rw [e100]; exact n3 j hj⟩
          rw [o a (by omega) (by omega) (by omega) (by omega) (by omega) (by omega) (by omega)]
          exact n2 i x y
        · refine Or.inr ⟨by rw [e9 12 (by decide) (by decide) (by decide) (by decide) (by decide)]; exact g1', ?_⟩
          rw [e100, e112]
          exact Lo_Y ⟨lo, fun c hc => u2_o (by omega)⟩ (yy _ _ _ g2')
  · refine sg_300_0 (p_3x (t := F 99) (kd := F 97 6) (R := R) pa.1 pb.1 pb.2.1 (fun q => pb.2.2 q.symm) ⟨p1, p3, p4⟩ tx hx2 (fun i hi => by rw [t2] at hi; exact t3 i hi) l4 hR (fun _ => ex_2 ⟨_, _, _, rfl, hk 1 _ _ _ (rd_rf h (by decide) (fun K2 hK => ?_))⟩) (fun q => absurd q A) (fun q => absurd q A) (fun q => absurd q A))
    have hi : Hi F (rfc F 2) G G := rfc_h
    have e97 := hi.1 97 (by decide)
    rw [t2] at A
    exact q_106 (R := R) (Hi_X hi tx) (by rw [e97]; exact t1) (by rw [hi.1 99 (by decide), e97]; exact hR) (fun _ => hK _) (fun q => absurd (by rw [e97] at q; exact q) A) (fun q => absurd (by rw [e97] at q; exact q) A)
theorem JL_b {F : FI} {seed : Int} {L : Nat} (h : JL F seed L) (hl : 0 ≤ F 100 3) : (L : Int) ≤ F 100 3 := by
  apply Classical.byContradiction
  intro q
  have := h.2 (F 100 3).toNat (by omega)
  rw [show (((F 100 3).toNat : Nat) : Int) = F 100 3 by omega] at this
  unfold sEnd at this
  split at this
  · exact absurd this (by decide)
  split at this
  · exact absurd this (by decide)
  · exact absurd this (by rw [if_pos rfl]; decide)
theorem JL_u {F : FI} {seed : Int} {L M : Nat} (h : JL F seed L) (h' : JL F seed M) : L = M := by
  rcases Nat.lt_trichotomy L M with q | q | q
  · exact absurd (h'.2 L q) h.1
  · exact q
  · exact absurd (h.2 M q) h'.1
set_option maxRecDepth 100000 in
theorem law_18 {K : Int → FS → FI → FJ → Prop} {sc : Nat → Int} {n0 : Nat} {x1 : Int} {S : FS} {F : FI} {G : FJ} (hB : BI sc n0 S F G) (hk : ∀ v S1 F1 G1, Rd sc n0 v S1 F1 G1 (fun K2 => calI 8 156 [.inr (.inr (.inl 97)), .inl x1] (mm S1 F1 G1) K2 nof) → K v S1 F1 G1) : calI 9 315 [.inr (.inr (.inl 1)), .inl x1, .inr (.inr (.inl 128))] (mm S F G) K nof := by
  obtain ⟨a, a', b, b', h⟩ := hB
  have nine := BI_9 h
  have hM := BI_MV h
  obtain ⟨⟨pa, pb, p1, p2, p3, p4⟩, tx, ⟨s1, s2⟩, ⟨t1, t2, t3, t4⟩, r2, ⟨l1, l2, l3, l4⟩, ⟨c1, c2⟩, kn, gb, sx, pr, im, ld⟩ := id h
  refine sg_315_0 (p_19 (l := F 100) (s := F 112) (w := mL F) (F0 := F) (G0 := G) ⟨rfl, rfl, rfl⟩ (fun q => hM (nine.2 q).1) ⟨pa.1, p1⟩ (fun q => (nine.2 q).2) (fun q => ex_3 ⟨_, _, _, rfl, hk 1 _ _ _ (rd_rf h (by decide) (fun K2 hK => ?_))⟩) (fun q S1 F1 G1 L jl yk qc => ⟨_, _, _, rfl, hk 0 _ _ _ ?_⟩))
  · have hi : Hi F (rfc F 3) G G := rfc_h
    have e97 := hi.1 97 (by decide)
    have z := nine.1.mp q
    exact q_156 (fun q => by rw [e97] at q; exact Hi_MV hi (hM q)) (fun _ => hK _) (fun n => absurd (by rw [e97]; exact z) n)
  · have hn := (nine.2 q).1
    have mv := hM hn
    have hi : Hi F F1 G (u2 G1 128 0 (L : Int)) := ⟨fun c hc => qc.1 c (by unfold kpC; omega) (by omega) (by omega) (by omega) (by omega), fun c h1 h2 => by rw [u2_o h2]; exact qc.2.2.1 c (by omega)⟩
    have e97 := hi.1 97 (by decide)
    have e100 := hi.1 100 (by decide)
    have e112 := hi.1 112 (by decide)
    have hz : piF (zF F1) = piF F := (pi_e ⟨z_n (by decide), z_n (by decide), z_f (by decide), z_n (by decide), z_n (by decide), z_n (by decide), z_n (by decide)⟩).trans (Hi_pi hi)
    have ejl : JL (zF F1) = JL F := by rw [← pi_JL (zF F1), hz, pi_JL]
    have ejk : JK (zF F1) = JK F := by rw [← pi_JK (zF F1), hz, pi_JK]
    have ejt : ∀ sd K, sTr (zF F1) sd K = sTr F sd K := fun sd K => by rw [← pi_Tr (zF F1), hz, pi_Tr]
    have ss : ∀ x i, x ≠ 22 → S1 x i = S x i := fun x i hx => qc.2.2.2 x i (fun z => hx z.1)
    refine ⟨by rw [hi.1 _ (by decide)]; exact s1, ⟨by rw [ss _ _ (by decide)]; exact s2, rfl⟩, fun K2 hK => ?_⟩
    refine q_156 (fun _ => Hi_MV hi mv) (fun n => absurd (by rw [e97] at n; exact n) hn) (fun _ F2 G2 L2 qj => ?_)
    obtain ⟨⟨Fb, pm, fb⟩, kn2, gb2, jl2, jk2, j80, j81⟩ := qj
    rw [ejl] at jl2
    have eL := JL_u jl2 jl
    subst eL
    rw [ejk, e112] at jk2
    rw [ejt, e100] at j81
    have y := yk (F2 112) jk2 j80 j81
    have b3 := JL_b jl (by have := mv.1.2.2.2.1; omega)
    have l24 := mv.1.2.2.2.1
    have o2 : ∀ c, c ≠ 112 → kpM c → F2 c = F1 c := fun c h1 h2 => by rw [fb c h1, pm.1 c h2]; exact z_n h2.1
    have lo : ∀ c, c < 97 → F2 c = F1 c := fun c hc => o2 c (by omega) (by unfold kpM; omega)
    have glo : ∀ c, c < 97 → G2 c = G1 c := fun c hc => by rw [pm.2.2 c (by unfold kpG; omega), u2_o (by omega)]
    have f97 : ∀ i, i = 2 ∨ i = 8 ∨ i = 12 ∨ i = 13 ∨ i = 27 → F2 97 i = F 97 i := fun i hi => by rw [fb 97 (by decide), pm.2.1 i (by unfold kpF; omega), z_f (by omega), e97]
    have f0 : F2 97 0 = 0 := by rw [fb 97 (by decide), pm.2.1 0 (by unfold kpF; omega)]; exact z_0
    have oh : ∀ c, 97 ≤ c → c ≠ 112 → kpM c → F2 c = F c := fun c h1 h2 h3 => by rw [o2 c h2 h3]; exact hi.1 c h1
    have oc : ∀ c, kpC c → c < 97 → c ≠ 31 → c ≠ 36 → c ≠ 37 → c ≠ 38 → F2 c = F c := fun c h1 h2 h3 h4 h5 h6 => by rw [lo c h2]; exact qc.1 c h1 h3 h4 h5 h6
    have eLw : mL F2 = mL F := mL_c (f97 13 (by omega)) (oh _ (by decide) (by decide) (by unfold kpM; omega)) (oh _ (by decide) (by decide) (by unfold kpM; omega)) (oh _ (by decide) (by decide) (by unfold kpM; omega)) (oh _ (by decide) (by decide) (by unfold kpM; omega))
    have g100 := oh 100 (by decide) (by decide) (by unfold kpM; omega)
    have y2 : YK S1 F2 G2 a b (F2 100) (F2 112) (mL F2) := by
      rw [g100, eLw]
      exact Lo_Y ⟨lo, glo⟩ y
    refine hK _ S1 F2 G2 ⟨a, a', b, b', ⟨pa, pb, by rw [ss 1 0 (by decide)]; exact p1, by rw [ss 1 1 (by decide)]; exact p2, by rw [ss 1 2 (by decide)]; exact p3, by rw [ss 1 3 (by decide)]; exact p4⟩, fun t i x y => ?_, ⟨by rw [oh _ (by decide) (by decide) (by unfold kpM; omega)]; exact s1, by rw [ss _ _ (by decide)]; exact s2⟩, ⟨?_, ?_, ?_, ?_⟩, fun i hi' => ?_, ⟨y2.2.2.2.2.2.1, y2.2.2.2.2.2.2.2.1, ?_, ?_⟩, ⟨y2.2.2.2.2.2.2.2.2.2.2.2.1, y2.2.2.2.2.2.2.2.2.2.2.2.2.1⟩, kn2, gb2, ⟨y2.2.2.2.2.1, fun _ => ?_⟩, y2.2.2.2.2.2.2.2.2.1, Im2_k im (f97 27 (by omega)) ?_ g100 (oh 113 (by decide) (by decide) (by unfold kpM; omega)) (fun d d1 d2 => oc d (by unfold kpC; omega) (by omega) (by omega) (by omega) (by omega) (by omega)), Or.inr ⟨by rw [f97 12 (by omega)]; exact hn, y2⟩⟩ f0 (fun _ => ?_)
    · rw [oh (2000000 + t) (by omega) (by omega) (by unfold kpM; omega)]; exact tx t i x y
    · rw [f97 2 (by omega)]; exact t1
    · rw [oc 2 (by unfold kpC; omega) (by decide) (by decide) (by decide) (by decide) (by decide), f97 2 (by omega)]; exact t2
    · rw [oc 3 (by unfold kpC; omega) (by decide) (by decide) (by decide) (by decide) (by decide), f97 2 (by omega), oh 99 (by decide) (by decide) (by unfold kpM; omega)]; exact t3
    · rw [oc 2 (by unfold kpC; omega) (by decide) (by decide) (by decide) (by decide) (by decide), f97 8 (by omega)]; exact t4
    · rw [oc 40 (by unfold kpC; omega) (by decide) (by decide) (by decide) (by decide) (by decide), oh 98 (by decide) (by decide) (by unfold kpM; omega)]; exact r2 i hi'
    · rw [oc _ (by unfold kpC; omega) (by omega) (by omega) (by omega) (by omega) (by omega)]; exact l3
    · rw [oc _ (by unfold kpC; omega) (by omega) (by omega) (by omega) (by omega) (by omega)]; exact l4
    · rw [j80]; omega
    · rw [lo 1 (by decide)]; exact qc.2.1 16 (by decide)
    · rw [pm.2.2 128 (by unfold kpG; omega), u2_s]
