/-! ===== the judged row, images, the text ===== -/
theorem PR_cg {F : FI} {e : Nat} {s s' : Nat → Int} (h : PR F e s) (hs : ∀ j, j < 156 → s' j = s j) (h54 : s 54 ≤ 24) (h80 : s 79 ≠ 0 → s 80 ≤ 24) : PR F e s' := by
  obtain ⟨p1, p2, p3, p4, p5, p6, p7, p8, p9, p10⟩ := h
  refine ⟨fun k k0 k1 => ?_, fun x x0 x1 => ?_, fun x x0 x1 => ?_, ?_, ?_, fun k k0 k1 => ?_, ?_, fun q => ?_, fun q k k0 k1 => ?_, fun q k k0 k1 => ?_⟩
  · rw [hs _ (by omega)]; exact p1 k k0 k1
  · rw [hs _ (by omega)]; exact p2 x x0 x1
  · rw [hs _ (by omega)]; exact p3 x x0 x1
  · rw [hs 53 (by decide)]; exact p4
  · rw [hs 54 (by decide)]; exact p5
  · rw [hs 54 (by decide)] at k1
    rw [hs _ (by omega)]; exact p6 k k0 k1
  · rw [hs 79 (by decide), hs 80 (by decide)]; exact p7
  · rw [hs 79 (by decide)] at q
    rw [hs 81 (by decide)]; exact p8 q
  · rw [hs 79 (by decide)] at q
    rw [hs 80 (by decide)] at k1
    have := h80 q
    rw [hs _ (by omega), hs _ (by omega)]; exact p9 q k k0 k1
  · rw [hs 79 (by decide)] at q
    rw [hs 80 (by decide)] at k1
    have := h80 q
    rw [hs _ (by omega)]; exact p10 q k k0 k1
theorem SX_cg {l s s' : Nat → Int} (h : SX l s) (hs : ∀ j, j < 156 → s' j = s j) : SX l s' := ⟨SV_79 (fun i hi => hs i (by omega)) h.1, fun q => by rw [hs 79 (by decide)] at q; rw [hs 80 (by decide)]; exact h.2 q⟩
/-- the judged row, changed -/
theorem PR_row {F F2 : FI} {s s' : Nat → Int} {v : Int} (h : PR F 31 s) (h54 : s' 54 = v) (hs : ∀ j, j ≠ 54 → ¬ (55 ≤ j ∧ j < 79) → s' j = s j) (hF : ∀ d, 32 ≤ d → d ≤ 38 → d ≠ 35 → F2 d = F d) (h31 : ∀ i, i ≠ 8 → F2 31 i = F 31 i) (h8 : F2 31 8 = v) (hv : v ≤ 24) (he : ∀ i : Int, 0 ≤ i → i < v → F2 35 i.toNat = s' (55 + i).toNat) : PR F2 31 s' := by
  obtain ⟨p1, p2, p3, p4, p5, p6, p7, p8, p9, p10⟩ := h
  refine ⟨fun k k0 k1 => ?_, fun x x0 x1 => ?_, fun x x0 x1 => ?_, ?_, ?_, fun k k0 k1 => ?_, ?_, fun q => ?_, fun q k k0 k1 => ?_, fun q k k0 k1 => ?_⟩
  · rw [hF _ (by decide) (by decide) (by decide), hs _ (by omega) (by omega)]; exact p1 k k0 k1
  · rw [hF _ (by decide) (by decide) (by decide), hs _ (by omega) (by omega)]; exact p2 x x0 x1
  · rw [hF _ (by decide) (by decide) (by decide), hs _ (by omega) (by omega)]; exact p3 x x0 x1
  · rw [h31 7 (by decide), hs 53 (by decide) (by decide)]; exact p4
  · rw [h8, h54]
  · rw [h54] at k1
    exact he k k0 k1
  · rw [h31 9 (by decide), hs 79 (by decide) (by decide), hs 80 (by decide) (by decide)]; exact p7
  · rw [hs 79 (by decide) (by decide)] at q
    rw [h31 10 (by decide), hs 81 (by decide) (by decide)]; exact p8 q
  · rw [hs 79 (by decide) (by decide)] at q
    rw [hs 80 (by decide) (by decide)] at k1
    rw [hF _ (by decide) (by decide) (by decide), hF _ (by decide) (by decide) (by decide), hs _ (by omega) (by omega), hs _ (by omega) (by omega)]; exact p9 q k k0 k1
  · rw [hs 79 (by decide) (by decide)] at q
    rw [hs 80 (by decide) (by decide)] at k1
    rw [hF _ (by decide) (by decide) (by decide), hs _ (by omega) (by omega)]; exact p10 q k k0 k1
set_option maxRecDepth 100000 in
theorem law_22 {K : Int → FS → FI → FJ → Prop} {sc : Nat → Int} {n0 : Nat} {S : FS} {F : FI} {G : FJ} (hB : BI sc n0 S F G) (hk : ∀ v S1 F1 G1, Ru sc n0 v S1 F1 G1 (fun K2 => calI 0 160 [.inr (.inr (.inl 97))] (mm S1 F1 G1) K2 nof) → K v S1 F1 G1) : calI 0 23 [.inr (.inr (.inl 1))] (mm S F G) K nof := by
  obtain ⟨a, a', b, b', h⟩ := hB
  have pr := h.2.2.2.2.2.2.2.2.2.2.1
  have sx := h.2.2.2.2.2.2.2.2.2.1
  obtain ⟨F2, e2⟩ : ∃ F2, F2 = u2 (zF (u2 F 31 8 0)) 112 54 0 := ⟨_, rfl⟩
  have o : ∀ d, d ≠ 97 → d ≠ 112 → d ≠ 31 → F2 d = F d := fun d d1 d2 d3 => by rw [e2, u2_o d2, z_n d1, u2_o d3]
  have e112 : F2 112 = uL (F 112) 54 0 := by rw [e2, u2_uL, z_n (by decide), u2_o (by decide)]
  have un : ∀ j, j ≠ 54 → uL (F 112) 54 0 j = F 112 j := fun j hj => if_neg hj
  have e97 : ∀ k, k ≠ 0 → F2 97 k = F 97 k := fun k hk => by rw [e2, u2_o (by decide), z_f hk, u2_o (by decide)]
  have e31 : ∀ k, F2 31 k = if k = 8 then 0 else F 31 k := fun k => by rw [e2, u2_o (by decide), z_n (by decide), u2_k]
  have bi : BIa sc n0 S F2 G a a' b b' := by
    refine BI_set h (fun d d1 d2 d3 _ d5 _ => o d d2 d3 (by omega)) (fun i _ _ => by rw [o 1 (by decide) (by decide) (by decide)]) (Or.inr ⟨by rw [o 1 (by decide) (by decide) (by decide)], fun i hi => by rw [e112, un i (by omega)]⟩) (fun i hi _ => e97 i hi) ?_ ?_ (Im2_k h.2.2.2.2.2.2.2.2.2.2.2.1 (e97 27 (by decide)) (by rw [o 1 (by decide) (by decide) (by decide)]) (o 100 (by decide) (by decide) (by decide)) (o 113 (by decide) (by decide) (by decide)) (fun d d1 d2 => o d (by omega) (by omega) (by omega)))
    · rw [e112]
      obtain ⟨⟨s1, s2, s3, s4, s5, s6⟩, s7⟩ := sx
      refine ⟨⟨fun k k0 k1 => by rw [un _ (by omega)]; exact s1 k k0 k1, fun k k0 k1 => by rw [un _ (by omega)]; exact s2 k k0 k1, fun k k0 k1 => by rw [un _ (by omega)]; exact s3 k k0 k1, by rw [un 53 (by decide)]; exact s4, ?_, fun i i0 i1 => ?_⟩, fun q => by rw [un 79 (by decide)] at q; rw [un 80 (by decide)]; exact s7 q⟩
      · rw [show uL (F 112) 54 0 54 = 0 from if_pos rfl]; decide
      · rw [show uL (F 112) 54 0 54 = 0 from if_pos rfl] at i1
        omega
    · rw [e112]
      exact PR_row (v := 0) pr (if_pos rfl) (fun j hj _ => un j hj) (fun d d1 d2 _ => o d (by omega) (by omega) (by omega)) (fun i hi => by rw [e31, if_neg hi]) (by rw [e31, if_pos rfl]) (by decide) (fun i i0 i1 => by omega)
  refine p_23 (hk _ _ _ _ (ru_set (F2 := F2) h bi (by rw [u2_o (by decide)]) (fun K2 hK => ?_)))
  refine q_160 ?_
  rw [← e2, u2_o (by decide)]
  exact hK _ pr.2.2.2.2.1.symm
set_option maxRecDepth 100000 in
theorem law_21 {K : Int → FS → FI → FJ → Prop} {sc : Nat → Int} {n0 : Nat} {x1 : Int} {S : FS} {F : FI} {G : FJ} (hB : BI sc n0 S F G) (hk : ∀ v S1 F1 G1, Rd sc n0 v S1 F1 G1 (fun K2 => calI 1 159 [.inr (.inr (.inl 97)), .inl x1] (mm S1 F1 G1) K2 nof) → K v S1 F1 G1) : calI 2 317 [.inr (.inr (.inl 1)), .inl x1, .inr (.inr (.inl 128))] (mm S F G) K nof := by
  obtain ⟨a, a', b, b', h⟩ := hB
  obtain ⟨⟨m0, m1, m2⟩, b0, b1, b2⟩ := BI_num h
  have pr := h.2.2.2.2.2.2.2.2.2.2.1
  have sx := h.2.2.2.2.2.2.2.2.2.1
  have r2 : (rfc F 2) 100 = F 100 := rfc_h (G := G).1 100 (by decide)
  have r112 : (rfc F 2) 112 = F 112 := rfc_h (G := G).1 112 (by decide)
  have p5 : F 31 8 = F 112 54 := pr.2.2.2.2.1
  have s54 := sx.1.2.2.2.2.1
  obtain ⟨m, em⟩ : ∃ m, m = F 112 54 := ⟨_, rfl⟩
  rw [← em] at p5 s54
  refine sg_317_0 (p_22 h.1.1.1 h.1.2.2.1 (by omega) (fun n => ex_2 ⟨_, _, _, rfl, hk 1 _ _ _ (rd_rf h (by decide) (fun K2 hK => ?_))⟩) (fun A full => ⟨_, _, _, rfl, hk 0 _ _ _ (rd_pl h (fun K2 hK => ?_))⟩) (fun A nf => ⟨_, _, _, rfl, ?_⟩))
  · exact q_159 (by rw [r112, ← em]; exact s54) (fun _ => hK _) (fun A => by rw [r2] at A; omega) (fun A => by rw [r2] at A; omega)
  · exact q_159 (by rw [← em]; exact s54) (fun n => by omega) (fun _ _ => hK _ rfl) (fun _ n => absurd (by omega) n)
  · rw [p5] at nf ⊢
    obtain ⟨F1, e1⟩ : ∃ F1, F1 = u2 (u2 F 35 m.toNat x1) 31 8 (m + 1) := ⟨_, rfl⟩
    obtain ⟨F2, e2⟩ : ∃ F2, F2 = u2 (u2 (zF F1) 112 (55 + m).toNat x1) 112 54 (m + 1) := ⟨_, rfl⟩
    have o1 : ∀ d, d ≠ 31 → d ≠ 35 → F1 d = F d := fun d d1 d2 => by rw [e1, u2_o d1, u2_o d2]
    have o : ∀ d, d ≠ 97 → d ≠ 112 → d ≠ 31 → d ≠ 35 → F2 d = F d := fun d d1 d2 d3 d4 => by rw [e2, u2_o d2, u2_o d2, z_n d1]; exact o1 d d3 d4
    have e112 : F2 112 = uL (uL (F 112) (55 + m).toNat x1) 54 (m + 1) := by rw [e2, u2_uL, u2_uL, z_n (by decide), o1 112 (by decide) (by decide)]
    have un : ∀ j, j ≠ 54 → j ≠ (55 + m).toNat → uL (uL (F 112) (55 + m).toNat x1) 54 (m + 1) j = F 112 j := fun j h1 h2 => by
      show (if j = 54 then _ else if j = _ then _ else _) = _
      rw [if_neg h1, if_neg h2]
    have u54 : uL (uL (F 112) (55 + m).toNat x1) 54 (m + 1) 54 = m + 1 := if_pos rfl
    have u55 : uL (uL (F 112) (55 + m).toNat x1) 54 (m + 1) (55 + m).toNat = x1 := by
      show (if _ = 54 then _ else if _ = _ then _ else _) = _
      rw [if_neg (by omega), if_pos rfl]
    have e97 : ∀ k, k ≠ 0 → F2 97 k = F 97 k := fun k hk => by rw [e2, u2_o (by decide), u2_o (by decide), z_f hk, o1 97 (by decide) (by decide)]
    have e31 : ∀ k, F2 31 k = if k = 8 then m + 1 else F 31 k := fun k => by rw [e2, u2_o (by decide), u2_o (by decide), z_n (by decide), e1, u2_k, u2_o (by decide)]
    have e35 : ∀ k, F2 35 k = if k = m.toNat then x1 else F 35 k := fun k => by rw [e2, u2_o (by decide), u2_o (by decide), z_n (by decide), e1, u2_o (by decide), u2_k]
    have bi : ∀ G', BIa sc n0 S F G' a a' b b' → BIa sc n0 S F2 G' a a' b b' := by
      intro G' h
      refine BI_set h (fun d d1 d2 d3 _ d5 _ => o d d2 d3 (by omega) (by omega)) (fun i _ _ => by rw [o 1 (by decide) (by decide) (by decide) (by decide)]) (Or.inr ⟨by rw [o 1 (by decide) (by decide) (by decide) (by decide)], fun i hi => by rw [e112, un i (by omega) (by omega)]⟩) (fun i hi _ => e97 i hi) ?_ ?_ (Im2_k h.2.2.2.2.2.2.2.2.2.2.2.1 (e97 27 (by decide)) (by rw [o 1 (by decide) (by decide) (by decide) (by decide)]) (o 100 (by decide) (by decide) (by decide) (by decide)) (o 113 (by decide) (by decide) (by decide) (by decide)) (fun d d1 d2 => o d (by omega) (by omega) (by omega) (by omega)))
      · rw [e112]
        obtain ⟨⟨s1, s2, s3, s4, s5, s6⟩, s7⟩ := sx
        refine ⟨⟨fun k k0 k1 => by rw [un _ (by omega) (by omega)]; exact s1 k k0 k1, fun k k0 k1 => by rw [un _ (by omega) (by omega)]; exact s2 k k0 k1, fun k k0 k1 => by rw [un _ (by omega) (by omega)]; exact s3 k k0 k1, by rw [un 53 (by decide) (by omega)]; exact s4, ?_, fun i i0 i1 => ?_⟩, fun q => by rw [un 79 (by decide) (by omega)] at q; rw [un 80 (by decide) (by omega)]; exact s7 q⟩
        · rw [u54]; omega
        · rw [u54] at i1
          by_cases z : i = m
          · rw [z, u55]; omega
          · rw [un _ (by omega) (by omega)]; exact s6 i i0 (by omega)
      · rw [e112]
        refine PR_row (v := m + 1) pr u54 (fun j hj h2 => un j hj (by omega)) (fun d d1 d2 d3 => o d (by omega) (by omega) (by omega) (by omega)) (fun i hi => by rw [e31, if_neg hi]) (by rw [e31, if_pos rfl]) (by omega) (fun i i0 i1 => ?_)
        rw [e35]
        by_cases z : i = m
        · rw [if_pos (by rw [z]), z, u55]
        · rw [if_neg (by omega), un _ (by omega) (by omega)]
          exact pr.2.2.2.2.2.1 i i0 (by omega)
    rw [← e1]
    refine hk 0 _ _ _ (rd_set (F2 := F2) h (bi _) (o1 _ (by decide) (by decide)) (by rw [e2, u2_o (by decide), u2_o (by decide)]; exact z_0) (fun K2 hK => ?_))
    have f100 := o1 100 (by decide) (by decide)
    have f112 := o1 112 (by decide) (by decide)
    refine q_159 (by rw [f112, ← em]; exact s54) (fun n => by rw [f100] at n; omega) (fun _ n => by rw [f112, ← em] at n; omega) (fun _ _ => ?_)
    rw [f112, ← em, ← e2]
    exact hK _ rfl
set_option maxRecDepth 100000 in
theorem law_49 {K : Int → FS → FI → FJ → Prop} {sc : Nat → Int} {n0 : Nat} {x1 : Int} {S : FS} {F : FI} {G : FJ} (hB : BI sc n0 S F G) (hk : ∀ v S1 F1 G1, Ru sc n0 v S1 F1 G1 (fun K2 => calI 0 200 [.inr (.inr (.inl 97)), .inl x1] (mm S1 F1 G1) K2 nof) → K v S1 F1 G1) : calI 1 50 [.inr (.inr (.inl 1)), .inl x1] (mm S F G) K nof := by
  obtain ⟨a, a', b, b', h⟩ := hB
  have pr := h.2.2.2.2.2.2.2.2.2.2.1
  have t2 := h.2.2.2.1
  have im := h.2.2.2.2.2.2.2.2.2.2.2.1
  refine p_50 (hk _ _ _ _ (ru_set h (BI_z h).1 rfl (fun K2 hK => q_200 (hK _ ?_))))
  have e3 : sTn (F 112) 24 = aS (fun h => if F 34 h = -1 then 0 else 1) 24 := by
    unfold sTn
    refine aS_c (fun i hi => ?_)
    have := pr.2.2.1 i (by omega) (by omega)
    rw [show (29 + (i : Int)).toNat = 29 + i by omega, show ((i : Int)).toNat = i by omega] at this
    show (if F 112 (29 + i) = -1 then (0 : Int) else 1) = if F 34 i = -1 then 0 else 1
    rw [← this]
  rw [pr.2.2.2.2.1, im.2.1, t2.2.1, e3]
set_option maxRecDepth 100000 in
theorem law_0 {K : Int → FS → FI → FJ → Prop} {sc : Nat → Int} {n0 : Nat} {x1 x2 x3 x4 x5 : Int} {S : FS} {F : FI} {G : FJ} (hB : BI sc n0 S F G) (hk : ∀ v S1 F1 G1, Ru sc n0 v S1 F1 G1 (fun K2 => calI 0 72 [.inr (.inr (.inl 97)), .inl x1, .inl x2, .inl x3, .inl x4, .inl x5] (mm S1 F1 G1) K2 nof) → K v S1 F1 G1) : calI 1 1 [.inr (.inr (.inl 1)), .inl x1, .inl x2, .inl x3, .inl x4, .inl x5] (mm S F G) K nof := by
  obtain ⟨a, a', b, b', h⟩ := hB
  have t2 := h.2.2.2.1
  obtain ⟨t1, t2', t3, t4⟩ := t2
  refine p_1 t2' t1.1 t1.2 (fun full => hk _ _ _ _ (ru_set h (BI_z h).1 rfl (fun K2 hK => ?_))) (fun nf F1 fc => hk _ _ _ _ ?_)
  · exact q_72 t1 (fun _ => hK _ rfl) (fun n => by omega)
  · obtain ⟨f1, f2, f3, f4⟩ := fc
    have o97 : F1 97 = F 97 := f4 97 (by decide) (by decide)
    refine ⟨by rw [f4 _ (by decide) (by decide)]; exact h.2.2.1.1, ⟨h.2.2.1.2, rfl⟩, fun K2 hK => ?_⟩
    refine q_72 (by rw [o97]; exact t1) (fun n => by rw [o97] at n; omega) (fun _ F2 fd => ?_)
    obtain ⟨d1, d2, d3, d4⟩ := fd
    rw [o97] at d1 d2 ⊢
    refine hK _ S F2 G ⟨a, a', b, b', ?_⟩ rfl
    have o : ∀ c, c ≠ 2 → c ≠ 3 → c ≠ 97 → c ≠ 99 → F2 c = F c := fun c c1 c2 c3 c4 => by rw [d4 c c3 c4, z_n c3, f4 c c1 c2]
    have e97 : ∀ i, i ≠ 0 → i ≠ 2 → F2 97 i = F 97 i := fun i i0 i2 => by rw [d3 i i2, z_f i0, o97]
    have e2 : ∀ i, F2 2 i = F1 2 i := fun i => by rw [d4 2 (by decide) (by decide), z_n (by decide)]
    have e3 : F2 3 = F1 3 := by rw [d4 3 (by decide) (by decide), z_n (by decide)]
    obtain ⟨p, tx, ⟨s1, s2⟩, -, r2, ⟨l1, l2, l3, l4⟩, ⟨c1, c2⟩, kn, gb, sx, pr, im, ld⟩ := h
    have eL : mL F2 = mL F := mL_c (e97 13 (by decide) (by decide)) (o _ (by decide) (by decide) (by decide) (by decide)) (o _ (by decide) (by decide) (by decide) (by decide)) (o _ (by decide) (by decide) (by decide) (by decide)) (o _ (by decide) (by decide) (by decide) (by decide))
    have e100 := o 100 (by decide) (by decide) (by decide) (by decide)
    have e112 := o 112 (by decide) (by decide) (by decide) (by decide)
    refine ⟨p, fun t i x y => ?_, ⟨by rw [o _ (by decide) (by decide) (by decide) (by decide)]; exact s1, s2⟩, ⟨?_, ?_, fun i hi => ?_, ?_⟩, fun i hi => ?_, ⟨?_, ?_, ?_, ?_⟩, ⟨?_, ?_⟩, ?_, gb, ?_, ?_, ?_, ?_⟩
    · rw [o (2000000 + t) (by omega) (by omega) (by omega) (by omega)]; exact tx t i x y
    · rw [d2]; show 0 ≤ F 97 2 + 20 ∧ F 97 2 + 20 ≤ 600; omega
    · rw [e2, f2, d2]
    · rw [e3, f1 i, d1 i, z_n (by decide), f4 99 (by decide) (by decide)]
      by_cases q : F 97 2 ≤ (i : Int) ∧ (i : Int) < F 97 2 + ((20 : Nat) : Int)
      · rw [if_pos q, if_pos q]
      · rw [d2] at hi
        rw [if_neg q, if_neg q]
        exact t3 i (by omega)
    · rw [e2, f3 8 (by decide), e97 8 (by decide) (by decide)]; exact t4
    · rw [o 40 (by decide) (by decide) (by decide) (by decide), o 98 (by decide) (by decide) (by decide) (by decide)]; exact r2 i hi
    · rw [eL]; exact l1
    · rw [eL]; exact WR_c l2 (fun i hi => by have := p.2.1.1; exact o _ (by omega) (by omega) (by omega) (by omega))
    · have := p.2.1.1
      rw [o _ (by omega) (by omega) (by omega) (by omega)]; exact l3
    · have := p.2.1.2.1
      rw [o _ (by omega) (by omega) (by omega) (by omega)]; exact l4
    · rw [o 16 (by decide) (by decide) (by decide) (by decide)]; exact c1
    · rw [o 19 (by decide) (by decide) (by decide) (by decide)]; exact c2
    · exact KNO_e kn (fun i hi => e97 i (by omega) (by omega)) e100 eL (o _ (by decide) (by decide) (by decide) (by decide)) (o _ (by decide) (by decide) (by decide) (by decide)) rfl rfl
    · rw [e100, e112]; exact sx
    · rw [e112]; exact PR_c pr (fun i hi => o _ (by omega) (by omega) (by omega) (by omega))
    · exact Im2_k im (e97 27 (by decide) (by decide)) (by rw [o 1 (by decide) (by decide) (by decide) (by decide)]) e100 (o 113 (by decide) (by decide) (by decide) (by decide)) (fun d d1 d2 => o d (by omega) (by omega) (by omega) (by omega))
    · rcases ld with ⟨n1, n2, n3⟩ | ⟨g1, g2⟩
      · refine Or.inl ⟨by rw [e97 12 (by decide) (by decide)]; exact n1, fun i x y => ?_, fun j hj => by rw [e100]; exact n3 j hj⟩
        have := p.1.1
        rw [o a (by omega) (by omega) (by omega) (by omega)]
        exact n2 i x y
      · refine Or.inr ⟨by rw [e97 12 (by decide) (by decide)]; exact g1, ?_⟩
        rw [e100, e112, eL]
        obtain ⟨ha, hb, ks, y1, y2, y3, y4, y5, y6, v1, v2, v3, v4, v5, v6⟩ := g2
        refine ⟨ha, hb, ks, y1, y2, y3, LR_c y4 (fun i hi => o _ (by omega) (by omega) (by omega) (by omega)) rfl, WR_c y5 (fun i hi => o _ (by omega) (by omega) (by omega) (by omega)), PR_c y6 (fun i hi => o _ (by omega) (by omega) (by omega) (by omega)), by rw [o 23 (by decide) (by decide) (by decide) (by decide)]; exact v1, ?_, by rw [o 16 (by decide) (by decide) (by decide) (by decide)]; exact v3, by rw [o 19 (by decide) (by decide) (by decide) (by decide)]; exact v4, by rw [o 1 (by decide) (by decide) (by decide) (by decide)]; exact v5, fun q => ?_⟩
        · unfold RK
          rw [o 22 (by decide) (by decide) (by decide) (by decide), o 24 (by decide) (by decide) (by decide) (by decide)]
          exact v2
        · rw [o 1 (by decide) (by decide) (by decide) (by decide)] at q
          have := v6 q
          unfold SOL at this ⊢
          rw [o 7 (by decide) (by decide) (by decide) (by decide), o 6 (by decide) (by decide) (by decide) (by decide), o 18 (by decide) (by decide) (by decide) (by decide)]
          exact this
