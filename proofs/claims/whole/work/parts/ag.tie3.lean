/-! ===== questions, code by code ===== -/
set_option maxRecDepth 100000 in
theorem law_12 {K : Int → FS → FI → FJ → Prop} {sc : Nat → Int} {n0 : Nat} {x1 x2 x3 : Int} {S : FS} {F : FI} {G : FJ} (hB : BI sc n0 S F G) (hk : ∀ v S1 F1 G1, Rd sc n0 v S1 F1 G1 (fun K2 => calI 7 150 [.inr (.inr (.inl 97)), .inl x1, .inl x2, .inl x3] (mm S1 F1 G1) K2 nof) → K v S1 F1 G1) : calI 5 309 [.inr (.inr (.inl 1)), .inl x1, .inl x2, .inl x3, .inr (.inr (.inl 128))] (mm S F G) K nof := by
  obtain ⟨a, a', b, b', h⟩ := hB
  have nine := BI_9 h
  have hM := BI_MV h
  refine sg_309_0 (p_13 (l := F 100) (s := F 112) (w := mL F) ⟨h.1.1.1, h.1.2.2.1⟩ (fun q => (nine.2 q).2) (fun q => ex_3 ⟨_, _, _, rfl, hk 2 _ _ _ (rd_rf h (by decide) (fun K2 hK => ?_))⟩) (fun q  n => ex_2 ⟨_, _, _, rfl, hk 1 _ _ _ (rd_rf h (by decide) (fun K2 hK => ?_))⟩) (fun q c1 S1 F1 G1 y qc => ⟨_, _, _, rfl, hk 0 _ _ _ (rd_ok h (nine.2 q).1 y qc (fun hi mv n1 K2 hK => ?_))⟩))
  · have hi : Hi F (rfc F 3) G G := rfc_h
    have e100 := hi.1 100 (by decide)
    have e97 := hi.1 97 (by decide)
    have z := nine.1.mp q
    exact q_150 (fun q => by rw [e97] at q; exact Hi_MV hi (hM q)) (by intros; first | exact hK _ | (exfalso; simp only [e100, e97] at *; first | contradiction | omega)) (by intros; first | exact hK _ | (exfalso; simp only [e100, e97] at *; first | contradiction | omega)) (by intros; first | exact hK _ | (exfalso; simp only [e100, e97] at *; first | contradiction | omega))
  · have hi : Hi F (rfc F 2) G G := rfc_h
    have e100 := hi.1 100 (by decide)
    have e97 := hi.1 97 (by decide)
    have z := (nine.2 q).1
    exact q_150 (fun q => by rw [e97] at q; exact Hi_MV hi (hM q)) (by intros; first | exact hK _ | (exfalso; simp only [e100, e97] at *; first | contradiction | omega)) (by intros; first | exact hK _ | (exfalso; simp only [e100, e97] at *; first | contradiction | omega)) (by intros; first | exact hK _ | (exfalso; simp only [e100, e97] at *; first | contradiction | omega))
  · have e100 := hi.1 100 (by decide)
    have e97 := hi.1 97 (by decide)
    have e112 := hi.1 112 (by decide)
    have eL := Hi_L hi
    have eB : cBs F1 = cBs F := by unfold cBs; rw [e100, e112, eL]
    have hz : piF (zF F1) = piF F := (pi_e ⟨z_n (by decide), z_n (by decide), z_f (by decide), z_n (by decide), z_n (by decide), z_n (by decide), z_n (by decide)⟩).trans (Hi_pi hi)
    exact q_150 (fun _ => mv) (by intros; exfalso; simp only [e100, e97] at *; first | contradiction | omega) (by intros; exfalso; simp only [e100, e97] at *; first | contradiction | omega) (fun _ _ F2 G2 qp => hK F2 G2 _ qp (by show sNw (F1 100) (F1 112) (mL F1) x1 x2 x3 = _; rw [e100, e112, eL]))
set_option maxRecDepth 100000 in
theorem law_13 {K : Int → FS → FI → FJ → Prop} {sc : Nat → Int} {n0 : Nat} {x1 x2 x3 : Int} {S : FS} {F : FI} {G : FJ} (hB : BI sc n0 S F G) (hk : ∀ v S1 F1 G1, Rd sc n0 v S1 F1 G1 (fun K2 => calI 8 151 [.inr (.inr (.inl 97)), .inl x1, .inl x2, .inl x3] (mm S1 F1 G1) K2 nof) → K v S1 F1 G1) : calI 9 310 [.inr (.inr (.inl 1)), .inl x1, .inl x2, .inl x3, .inr (.inr (.inl 128))] (mm S F G) K nof := by
  obtain ⟨a, a', b, b', h⟩ := hB
  have nine := BI_9 h
  have hM := BI_MV h
  refine sg_310_0 (p_14 (l := F 100) (s := F 112) (w := mL F) ⟨h.1.1.1, h.1.2.2.1⟩ (fun q => (nine.2 q).2) (fun q => ex_3 ⟨_, _, _, rfl, hk 2 _ _ _ (rd_rf h (by decide) (fun K2 hK => ?_))⟩) (fun q  n => ex_2 ⟨_, _, _, rfl, hk 1 _ _ _ (rd_rf h (by decide) (fun K2 hK => ?_))⟩) (fun q c1 S1 F1 G1 y qc => ⟨_, _, _, rfl, hk 0 _ _ _ (rd_ok h (nine.2 q).1 y qc (fun hi mv n1 K2 hK => ?_))⟩))
  · have hi : Hi F (rfc F 3) G G := rfc_h
    have e100 := hi.1 100 (by decide)
    have e97 := hi.1 97 (by decide)
    have z := nine.1.mp q
    exact q_151 (fun q => by rw [e97] at q; exact Hi_MV hi (hM q)) (by intros; first | exact hK _ | (exfalso; simp only [e100, e97] at *; first | contradiction | omega)) (by intros; first | exact hK _ | (exfalso; simp only [e100, e97] at *; first | contradiction | omega)) (by intros; first | exact hK _ | (exfalso; simp only [e100, e97] at *; first | contradiction | omega))
  · have hi : Hi F (rfc F 2) G G := rfc_h
    have e100 := hi.1 100 (by decide)
    have e97 := hi.1 97 (by decide)
    have z := (nine.2 q).1
    exact q_151 (fun q => by rw [e97] at q; exact Hi_MV hi (hM q)) (by intros; first | exact hK _ | (exfalso; simp only [e100, e97] at *; first | contradiction | omega)) (by intros; first | exact hK _ | (exfalso; simp only [e100, e97] at *; first | contradiction | omega)) (by intros; first | exact hK _ | (exfalso; simp only [e100, e97] at *; first | contradiction | omega))
  · have e100 := hi.1 100 (by decide)
    have e97 := hi.1 97 (by decide)
    have e112 := hi.1 112 (by decide)
    have eL := Hi_L hi
    have eB : cBs F1 = cBs F := by unfold cBs; rw [e100, e112, eL]
    have hz : piF (zF F1) = piF F := (pi_e ⟨z_n (by decide), z_n (by decide), z_f (by decide), z_n (by decide), z_n (by decide), z_n (by decide), z_n (by decide)⟩).trans (Hi_pi hi)
    exact q_151 (fun _ => mv) (by intros; exfalso; simp only [e100, e97] at *; first | contradiction | omega) (by intros; exfalso; simp only [e100, e97] at *; first | contradiction | omega) (fun _ _ F2 G2 qp => hK F2 G2 _ qp (by simp only [e100, e112, eL, eB, e97]; first | rfl | done))
set_option maxRecDepth 100000 in
theorem law_14 {K : Int → FS → FI → FJ → Prop} {sc : Nat → Int} {n0 : Nat} {x1 x2 x3 x4 : Int} {S : FS} {F : FI} {G : FJ} (hB : BI sc n0 S F G) (hk : ∀ v S1 F1 G1, Rd sc n0 v S1 F1 G1 (fun K2 => calL 8 152 [.inr (.inr (.inl 97)), .inl x1, .inl x2, .inl x3, .inl x4] (mm S1 F1 G1) K2 nof) → K v S1 F1 G1) : calI 9 311 [.inr (.inr (.inl 1)), .inl x1, .inl x2, .inl x3, .inl x4, .inr (.inr (.inl 128))] (mm S F G) K nof := by
  obtain ⟨a, a', b, b', h⟩ := hB
  have nine := BI_9 h
  have hM := BI_MV h
  refine sg_311_0 (p_15 (l := F 100) (s := F 112) (w := mL F) ⟨h.1.1.1, h.1.2.2.1⟩ (fun q => (nine.2 q).2) (fun q => ex_3 ⟨_, _, _, rfl, hk 3 _ _ _ (rd_rf h (by decide) (fun K2 hK => ?_))⟩) (fun q  n => ex_0 ⟨_, _, _, rfl, hk 1 _ _ _ (rd_rf h (by decide) (fun K2 hK => ?_))⟩) (fun q c1 n => ex_2 ⟨_, _, _, rfl, hk 2 _ _ _ (rd_rf h (by decide) (fun K2 hK => ?_))⟩) (fun q c1 c2 S1 F1 G1 y qc => ⟨_, _, _, rfl, hk 0 _ _ _ (rd_ok h (nine.2 q).1 y qc (fun hi mv n1 K2 hK => ?_))⟩))
  · have hi : Hi F (rfc F 3) G G := rfc_h
    have e100 := hi.1 100 (by decide)
    have e97 := hi.1 97 (by decide)
    have z := nine.1.mp q
    exact q_152 (fun q => by rw [e97] at q; exact Hi_MV hi (hM q)) (by intros; first | exact hK _ | (exfalso; simp only [e100, e97] at *; first | contradiction | omega)) (by intros; first | exact hK _ | (exfalso; simp only [e100, e97] at *; first | contradiction | omega)) (by intros; first | exact hK _ | (exfalso; simp only [e100, e97] at *; first | contradiction | omega)) (by intros; first | exact hK _ | (exfalso; simp only [e100, e97] at *; first | contradiction | omega))
  · have hi : Hi F (rfc F 0) G G := rfc_h
    have e100 := hi.1 100 (by decide)
    have e97 := hi.1 97 (by decide)
    have z := (nine.2 q).1
    exact q_152 (fun q => by rw [e97] at q; exact Hi_MV hi (hM q)) (by intros; first | exact hK _ | (exfalso; simp only [e100, e97] at *; first | contradiction | omega)) (by intros; first | exact hK _ | (exfalso; simp only [e100, e97] at *; first | contradiction | omega)) (by intros; first | exact hK _ | (exfalso; simp only [e100, e97] at *; first | contradiction | omega)) (by intros; first | exact hK _ | (exfalso; simp only [e100, e97] at *; first | contradiction | omega))
  · have hi : Hi F (rfc F 2) G G := rfc_h
    have e100 := hi.1 100 (by decide)
    have e97 := hi.1 97 (by decide)
    have z := (nine.2 q).1
    exact q_152 (fun q => by rw [e97] at q; exact Hi_MV hi (hM q)) (by intros; first | exact hK _ | (exfalso; simp only [e100, e97] at *; first | contradiction | omega)) (by intros; first | exact hK _ | (exfalso; simp only [e100, e97] at *; first | contradiction | omega)) (by intros; first | exact hK _ | (exfalso; simp only [e100, e97] at *; first | contradiction | omega)) (by intros; first | exact hK _ | (exfalso; simp only [e100, e97] at *; first | contradiction | omega))
  · have e100 := hi.1 100 (by decide)
    have e97 := hi.1 97 (by decide)
    have e112 := hi.1 112 (by decide)
    have eL := Hi_L hi
    have eB : cBs F1 = cBs F := by unfold cBs; rw [e100, e112, eL]
    have hz : piF (zF F1) = piF F := (pi_e ⟨z_n (by decide), z_n (by decide), z_f (by decide), z_n (by decide), z_n (by decide), z_n (by decide), z_n (by decide)⟩).trans (Hi_pi hi)
    exact q_152 (fun _ => mv) (by intros; exfalso; simp only [e100, e97] at *; first | contradiction | omega) (by intros; exfalso; simp only [e100, e97] at *; first | contradiction | omega) (by intros; exfalso; simp only [e100, e97] at *; first | contradiction | omega) (fun _ _ _ F2 G2 qp => hK F2 G2 _ qp (by simp only [e100, e112, eL, eB, e97]; first | rfl | done))
set_option maxRecDepth 100000 in
theorem law_16 {K : Int → FS → FI → FJ → Prop} {sc : Nat → Int} {n0 : Nat} {S : FS} {F : FI} {G : FJ} (hB : BI sc n0 S F G) (hk : ∀ v S1 F1 G1, Rd sc n0 v S1 F1 G1 (fun K2 => calL 8 154 [.inr (.inr (.inl 97))] (mm S1 F1 G1) K2 nof) → K v S1 F1 G1) : calI 9 313 [.inr (.inr (.inl 1)), .inr (.inr (.inl 128))] (mm S F G) K nof := by
  obtain ⟨a, a', b, b', h⟩ := hB
  have nine := BI_9 h
  have hM := BI_MV h
  refine sg_313_0 (p_17 (l := F 100) (s := F 112) (w := mL F) ⟨h.1.1.1, h.1.2.2.1⟩ (fun q => (nine.2 q).2) (fun q => ex_3 ⟨_, _, _, rfl, hk 1 _ _ _ (rd_rf h (by decide) (fun K2 hK => ?_))⟩) (fun q  S1 F1 G1 y qc => ⟨_, _, _, rfl, hk 0 _ _ _ (rd_ok h (nine.2 q).1 y qc (fun hi mv n1 K2 hK => ?_))⟩))
  · have hi : Hi F (rfc F 3) G G := rfc_h
    have e100 := hi.1 100 (by decide)
    have e97 := hi.1 97 (by decide)
    have z := nine.1.mp q
    exact q_154 (fun q => by rw [e97] at q; exact Hi_MV hi (hM q)) (by intros; first | exact hK _ | (exfalso; simp only [e100, e97] at *; first | contradiction | omega)) (by intros; first | exact hK _ | (exfalso; simp only [e100, e97] at *; first | contradiction | omega))
  · have e100 := hi.1 100 (by decide)
    have e97 := hi.1 97 (by decide)
    have e112 := hi.1 112 (by decide)
    have eL := Hi_L hi
    have eB : cBs F1 = cBs F := by unfold cBs; rw [e100, e112, eL]
    have hz : piF (zF F1) = piF F := (pi_e ⟨z_n (by decide), z_n (by decide), z_f (by decide), z_n (by decide), z_n (by decide), z_n (by decide), z_n (by decide)⟩).trans (Hi_pi hi)
    exact q_154 (fun _ => mv) (by intros; exfalso; simp only [e100, e97] at *; first | contradiction | omega) (fun _  F2 G2 qp => hK F2 G2 _ qp (by simp only [e100, e112, eL, eB, e97]; first | rfl | done))
set_option maxRecDepth 100000 in
theorem law_17 {K : Int → FS → FI → FJ → Prop} {sc : Nat → Int} {n0 : Nat} {x1 : Int} {S : FS} {F : FI} {G : FJ} (hB : BI sc n0 S F G) (hk : ∀ v S1 F1 G1, Rd sc n0 v S1 F1 G1 (fun K2 => calL 7 155 [.inr (.inr (.inl 97)), .inl x1] (mm S1 F1 G1) K2 nof) → K v S1 F1 G1) : calI 8 314 [.inr (.inr (.inl 1)), .inl x1, .inr (.inr (.inl 128))] (mm S F G) K nof := by
  obtain ⟨a, a', b, b', h⟩ := hB
  have nine := BI_9 h
  have hM := BI_MV h
  refine sg_314_0 (p_18 (l := F 100) (s := F 112) (w := mL F) ⟨h.1.1.1, h.1.2.2.1⟩ (fun q => (nine.2 q).2) (fun q => ex_3 ⟨_, _, _, rfl, hk 2 _ _ _ (rd_rf h (by decide) (fun K2 hK => ?_))⟩) (fun q  n => ex_0 ⟨_, _, _, rfl, hk 1 _ _ _ (rd_rf h (by decide) (fun K2 hK => ?_))⟩) (fun q c1 S1 F1 G1 y qc => ⟨_, _, _, rfl, hk 0 _ _ _ (rd_ok h (nine.2 q).1 y qc (fun hi mv n1 K2 hK => ?_))⟩))
  · have hi : Hi F (rfc F 3) G G := rfc_h
    have e100 := hi.1 100 (by decide)
    have e97 := hi.1 97 (by decide)
    have z := nine.1.mp q
    exact q_155 (fun q => by rw [e97] at q; exact Hi_MV hi (hM q)) (by intros; first | exact hK _ | (exfalso; simp only [e100, e97] at *; first | contradiction | omega)) (by intros; first | exact hK _ | (exfalso; simp only [e100, e97] at *; first | contradiction | omega)) (by intros; first | exact hK _ | (exfalso; simp only [e100, e97] at *; first | contradiction | omega))
  · have hi : Hi F (rfc F 0) G G := rfc_h
    have e100 := hi.1 100 (by decide)
    have e97 := hi.1 97 (by decide)
    have z := (nine.2 q).1
    exact q_155 (fun q => by rw [e97] at q; exact Hi_MV hi (hM q)) (by intros; first | exact hK _ | (exfalso; simp only [e100, e97] at *; first | contradiction | omega)) (by intros; first | exact hK _ | (exfalso; simp only [e100, e97] at *; first | contradiction | omega)) (by intros; first | exact hK _ | (exfalso; simp only [e100, e97] at *; first | contradiction | omega))
  · have e100 := hi.1 100 (by decide)
    have e97 := hi.1 97 (by decide)
    have e112 := hi.1 112 (by decide)
    have eL := Hi_L hi
    have eB : cBs F1 = cBs F := by unfold cBs; rw [e100, e112, eL]
    have hz : piF (zF F1) = piF F := (pi_e ⟨z_n (by decide), z_n (by decide), z_f (by decide), z_n (by decide), z_n (by decide), z_n (by decide), z_n (by decide)⟩).trans (Hi_pi hi)
    exact q_155 (fun _ => mv) (by intros; exfalso; simp only [e100, e97] at *; first | contradiction | omega) (by intros; exfalso; simp only [e100, e97] at *; first | contradiction | omega) (fun _ _ F2 G2 qp => hK F2 G2 _ qp (by rw [show sAlone F1 = sAlone F by rw [← pi_Al F1, Hi_pi hi, pi_Al]]; rfl))
set_option maxRecDepth 100000 in
theorem law_23 {K : Int → FS → FI → FJ → Prop} {sc : Nat → Int} {n0 : Nat} {S : FS} {F : FI} {G : FJ} (hB : BI sc n0 S F G) (hk : ∀ v S1 F1 G1, Rd sc n0 v S1 F1 G1 (fun K2 => calI 7 163 [.inr (.inr (.inl 97))] (mm S1 F1 G1) K2 nof) → K v S1 F1 G1) : calI 6 318 [.inr (.inr (.inl 1)), .inr (.inr (.inl 128))] (mm S F G) K nof := by
  obtain ⟨a, a', b, b', h⟩ := hB
  have nine := BI_9 h
  have hM := BI_MV h
  refine sg_318_0 (p_24 (l := F 100) (s := F 112) (w := mL F) (F0 := F) ⟨rfl, rfl, rfl⟩ ⟨h.1.1.1, h.1.2.2.1⟩ (fun q => (nine.2 q).2) (fun q => ex_3 ⟨_, _, _, rfl, hk 1 _ _ _ (rd_rf h (by decide) (fun K2 hK => ?_))⟩) (fun q  S1 F1 G1 y qc => ⟨_, _, _, rfl, hk 0 _ _ _ (rd_ok h (nine.2 q).1 y qc (fun hi mv n1 K2 hK => ?_))⟩))
  · have hi : Hi F (rfc F 3) G G := rfc_h
    have e100 := hi.1 100 (by decide)
    have e97 := hi.1 97 (by decide)
    have z := nine.1.mp q
    exact q_163 (fun q => by rw [e97] at q; exact Hi_MV hi (hM q)) (by intros; first | exact hK _ | (exfalso; simp only [e100, e97] at *; first | contradiction | omega)) (by intros; first | exact hK _ | (exfalso; simp only [e100, e97] at *; first | contradiction | omega))
  · have e100 := hi.1 100 (by decide)
    have e97 := hi.1 97 (by decide)
    have e112 := hi.1 112 (by decide)
    have eL := Hi_L hi
    have eB : cBs F1 = cBs F := by unfold cBs; rw [e100, e112, eL]
    have hz : piF (zF F1) = piF F := (pi_e ⟨z_n (by decide), z_n (by decide), z_f (by decide), z_n (by decide), z_n (by decide), z_n (by decide), z_n (by decide)⟩).trans (Hi_pi hi)
    have efJg : ∀ K, sJg (zF F1) K = sJg F K := fun K => by rw [← pi_Jg (zF F1), hz, pi_Jg]
    exact q_163 (fun _ => mv) (by intros; exfalso; simp only [e100, e97] at *; first | contradiction | omega) (fun _  F2 G2 qp => hK F2 G2 _ qp (by simp only [e100, e112, eL, eB, e97, efJg]; first | rfl | done))
set_option maxRecDepth 100000 in
theorem law_24 {K : Int → FS → FI → FJ → Prop} {sc : Nat → Int} {n0 : Nat} {x1 : Int} {S : FS} {F : FI} {G : FJ} (hB : BI sc n0 S F G) (hk : ∀ v S1 F1 G1, Rd sc n0 v S1 F1 G1 (fun K2 => calI 7 164 [.inr (.inr (.inl 97)), .inl x1] (mm S1 F1 G1) K2 nof) → K v S1 F1 G1) : calI 8 319 [.inr (.inr (.inl 1)), .inl x1, .inr (.inr (.inl 128))] (mm S F G) K nof := by
  obtain ⟨a, a', b, b', h⟩ := hB
  have nine := BI_9 h
  have hM := BI_MV h
  refine sg_319_0 (p_25 (l := F 100) (s := F 112) (w := mL F) (F0 := F) ⟨rfl, rfl, rfl⟩ ⟨h.1.1.1, h.1.2.2.1⟩ (fun q => (nine.2 q).2) (fun q => ex_3 ⟨_, _, _, rfl, hk 2 _ _ _ (rd_rf h (by decide) (fun K2 hK => ?_))⟩) (fun q  n => ex_0 ⟨_, _, _, rfl, hk 1 _ _ _ (rd_rf h (by decide) (fun K2 hK => ?_))⟩) (fun q c1 S1 F1 G1 y qc => ⟨_, _, _, rfl, hk 0 _ _ _ (rd_ok h (nine.2 q).1 y qc (fun hi mv n1 K2 hK => ?_))⟩))
  · have hi : Hi F (rfc F 3) G G := rfc_h
    have e100 := hi.1 100 (by decide)
    have e97 := hi.1 97 (by decide)
    have z := nine.1.mp q
    exact q_164 (fun q => by rw [e97] at q; exact Hi_MV hi (hM q)) (by intros; first | exact hK _ | (exfalso; simp only [e100, e97] at *; first | contradiction | omega)) (by intros; first | exact hK _ | (exfalso; simp only [e100, e97] at *; first | contradiction | omega)) (by intros; first | exact hK _ | (exfalso; simp only [e100, e97] at *; first | contradiction | omega))
  · have hi : Hi F (rfc F 0) G G := rfc_h
    have e100 := hi.1 100 (by decide)
    have e97 := hi.1 97 (by decide)
    have z := (nine.2 q).1
    exact q_164 (fun q => by rw [e97] at q; exact Hi_MV hi (hM q)) (by intros; first | exact hK _ | (exfalso; simp only [e100, e97] at *; first | contradiction | omega)) (by intros; first | exact hK _ | (exfalso; simp only [e100, e97] at *; first | contradiction | omega)) (by intros; first | exact hK _ | (exfalso; simp only [e100, e97] at *; first | contradiction | omega))
  · have e100 := hi.1 100 (by decide)
    have e97 := hi.1 97 (by decide)
    have e112 := hi.1 112 (by decide)
    have eL := Hi_L hi
    have eB : cBs F1 = cBs F := by unfold cBs; rw [e100, e112, eL]
    have hz : piF (zF F1) = piF F := (pi_e ⟨z_n (by decide), z_n (by decide), z_f (by decide), z_n (by decide), z_n (by decide), z_n (by decide), z_n (by decide)⟩).trans (Hi_pi hi)
    have efPr : ∀ (k0 : Int) K, sPr (zF F1) k0 K = sPr F k0 K := fun k0 K => by rw [← pi_Pr (zF F1), hz, pi_Pr]
    exact q_164 (fun _ => mv) (by intros; exfalso; simp only [e100, e97] at *; first | contradiction | omega) (by intros; exfalso; simp only [e100, e97] at *; first | contradiction | omega) (fun _ _ F2 G2 qp => hK F2 G2 _ qp (by simp only [e100, e112, eL, eB, e97, efPr]; first | rfl | done))
set_option maxRecDepth 100000 in
theorem law_25 {K : Int → FS → FI → FJ → Prop} {sc : Nat → Int} {n0 : Nat} {x1 x2 : Int} {S : FS} {F : FI} {G : FJ} (hB : BI sc n0 S F G) (hk : ∀ v S1 F1 G1, Rd sc n0 v S1 F1 G1 (fun K2 => calL 9 168 [.inr (.inr (.inl 97)), .inl x1, .inl x2] (mm S1 F1 G1) K2 nof) → K v S1 F1 G1) : calI 9 320 [.inr (.inr (.inl 1)), .inl x1, .inl x2, .inr (.inr (.inl 128))] (mm S F G) K nof := by
  obtain ⟨a, a', b, b', h⟩ := hB
  have nine := BI_9 h
  have hM := BI_MV h
  refine sg_320_0 (p_26 (l := F 100) (s := F 112) (w := mL F) (F0 := F) ⟨rfl, rfl, rfl⟩ ⟨h.1.1.1, h.1.2.2.1⟩ (fun q => (nine.2 q).2) (fun q => ex_3 ⟨_, _, _, rfl, hk 3 _ _ _ (rd_rf h (by decide) (fun K2 hK => ?_))⟩) (fun q  n => ex_0 ⟨_, _, _, rfl, hk 1 _ _ _ (rd_rf h (by decide) (fun K2 hK => ?_))⟩) (fun q c1 n => ex_2 ⟨_, _, _, rfl, hk 2 _ _ _ (rd_rf h (by decide) (fun K2 hK => ?_))⟩) (fun q c1 c2 S1 F1 G1 y qc => ⟨_, _, _, rfl, hk 0 _ _ _ (rd_ok h (nine.2 q).1 y qc (fun hi mv n1 K2 hK => ?_))⟩))
  · have hi : Hi F (rfc F 3) G G := rfc_h
    have e100 := hi.1 100 (by decide)
    have e97 := hi.1 97 (by decide)
    have z := nine.1.mp q
    exact q_168 (fun q => by rw [e97] at q; exact Hi_MV hi (hM q)) (by intros; first | exact hK _ | (exfalso; simp only [e100, e97] at *; first | contradiction | omega)) (by intros; first | exact hK _ | (exfalso; simp only [e100, e97] at *; first | contradiction | omega)) (by intros; first | exact hK _ | (exfalso; simp only [e100, e97] at *; first | contradiction | omega)) (by intros; first | exact hK _ | (exfalso; simp only [e100, e97] at *; first | contradiction | omega))
  · have hi : Hi F (rfc F 0) G G := rfc_h
    have e100 := hi.1 100 (by decide)
    have e97 := hi.1 97 (by decide)
    have z := (nine.2 q).1
    exact q_168 (fun q => by rw [e97] at q; exact Hi_MV hi (hM q)) (by intros; first | exact hK _ | (exfalso; simp only [e100, e97] at *; first | contradiction | omega)) (by intros; first | exact hK _ | (exfalso; simp only [e100, e97] at *; first | contradiction | omega)) (by intros; first | exact hK _ | (exfalso; simp only [e100, e97] at *; first | contradiction | omega)) (by intros; first | exact hK _ | (exfalso; simp only [e100, e97] at *; first | contradiction | omega))
  · have hi : Hi F (rfc F 2) G G := rfc_h
    have e100 := hi.1 100 (by decide)
    have e97 := hi.1 97 (by decide)
    have z := (nine.2 q).1
    exact q_168 (fun q => by rw [e97] at q; exact Hi_MV hi (hM q)) (by intros; first | exact hK _ | (exfalso; simp only [e100, e97] at *; first | contradiction | omega)) (by intros; first | exact hK _ | (exfalso; simp only [e100, e97] at *; first | contradiction | omega)) (by intros; first | exact hK _ | (exfalso; simp only [e100, e97] at *; first | contradiction | omega)) (by intros; first | exact hK _ | (exfalso; simp only [e100, e97] at *; first | contradiction | omega))
  · have e100 := hi.1 100 (by decide)
    have e97 := hi.1 97 (by decide)
    have e112 := hi.1 112 (by decide)
    have eL := Hi_L hi
    have eB : cBs F1 = cBs F := by unfold cBs; rw [e100, e112, eL]
    have hz : piF (zF F1) = piF F := (pi_e ⟨z_n (by decide), z_n (by decide), z_f (by decide), z_n (by decide), z_n (by decide), z_n (by decide), z_n (by decide)⟩).trans (Hi_pi hi)
    have efGn : sGn F1 = sGn F := by rw [← pi_Gn F1, (Hi_pi hi), pi_Gn]
    exact q_168 (fun _ => mv) (by intros; exfalso; simp only [e100, e97] at *; first | contradiction | omega) (by intros; exfalso; simp only [e100, e97] at *; first | contradiction | omega) (by intros; exfalso; simp only [e100, e97] at *; first | contradiction | omega) (fun _ _ _ F2 G2 qp => hK F2 G2 _ qp (by simp only [e100, e112, eL, eB, e97, efGn]; first | rfl | done))
set_option maxRecDepth 100000 in
theorem law_26 {K : Int → FS → FI → FJ → Prop} {sc : Nat → Int} {n0 : Nat} {S : FS} {F : FI} {G : FJ} (hB : BI sc n0 S F G) (hk : ∀ v S1 F1 G1, Rd sc n0 v S1 F1 G1 (fun K2 => calI 9 169 [.inr (.inr (.inl 97))] (mm S1 F1 G1) K2 nof) → K v S1 F1 G1) : calI 9 321 [.inr (.inr (.inl 1)), .inr (.inr (.inl 128))] (mm S F G) K nof := by
  obtain ⟨a, a', b, b', h⟩ := hB
  have nine := BI_9 h
  have hM := BI_MV h
  refine sg_321_0 (p_27 (l := F 100) (s := F 112) (w := mL F) (F0 := F) ⟨rfl, rfl, rfl⟩ ⟨h.1.1.1, h.1.2.2.1⟩ (fun q => (nine.2 q).2) (fun q => ex_3 ⟨_, _, _, rfl, hk 1 _ _ _ (rd_rf h (by decide) (fun K2 hK => ?_))⟩) (fun q  S1 F1 G1 y qc => ⟨_, _, _, rfl, hk 0 _ _ _ (rd_ok h (nine.2 q).1 y qc (fun hi mv n1 K2 hK => ?_))⟩))
  · have hi : Hi F (rfc F 3) G G := rfc_h
    have e100 := hi.1 100 (by decide)
    have e97 := hi.1 97 (by decide)
    have z := nine.1.mp q
    exact q_169 (fun q => by rw [e97] at q; exact Hi_MV hi (hM q)) (by intros; first | exact hK _ | (exfalso; simp only [e100, e97] at *; first | contradiction | omega)) (by intros; first | exact hK _ | (exfalso; simp only [e100, e97] at *; first | contradiction | omega))
  · have e100 := hi.1 100 (by decide)
    have e97 := hi.1 97 (by decide)
    have e112 := hi.1 112 (by decide)
    have eL := Hi_L hi
    have eB : cBs F1 = cBs F := by unfold cBs; rw [e100, e112, eL]
    have hz : piF (zF F1) = piF F := (pi_e ⟨z_n (by decide), z_n (by decide), z_f (by decide), z_n (by decide), z_n (by decide), z_n (by decide), z_n (by decide)⟩).trans (Hi_pi hi)
    have efGvA : ∀  K, sGvA (zF F1) K = sGvA F K := fun  K => by rw [← pi_GvA (zF F1), hz, pi_GvA]
    exact q_169 (fun _ => mv) (by intros; exfalso; simp only [e100, e97] at *; first | contradiction | omega) (fun _  F2 G2 qp => hK F2 G2 _ qp (by simp only [e100, e112, eL, eB, e97, efGvA]; first | rfl | done))
set_option maxRecDepth 100000 in
theorem law_27 {K : Int → FS → FI → FJ → Prop} {sc : Nat → Int} {n0 : Nat} {x1 x2 : Int} {S : FS} {F : FI} {G : FJ} (hB : BI sc n0 S F G) (hk : ∀ v S1 F1 G1, Rd sc n0 v S1 F1 G1 (fun K2 => calL 9 170 [.inr (.inr (.inl 97)), .inl x1, .inl x2] (mm S1 F1 G1) K2 nof) → K v S1 F1 G1) : calI 9 322 [.inr (.inr (.inl 1)), .inl x1, .inl x2, .inr (.inr (.inl 128))] (mm S F G) K nof := by
  obtain ⟨a, a', b, b', h⟩ := hB
  have nine := BI_9 h
  have hM := BI_MV h
  refine sg_322_0 (p_28 (l := F 100) (s := F 112) (w := mL F) (F0 := F) ⟨rfl, rfl, rfl⟩ ⟨h.1.1.1, h.1.2.2.1⟩ (fun q => (nine.2 q).2) (fun q => ex_3 ⟨_, _, _, rfl, hk 3 _ _ _ (rd_rf h (by decide) (fun K2 hK => ?_))⟩) (fun q  n => ex_0 ⟨_, _, _, rfl, hk 1 _ _ _ (rd_rf h (by decide) (fun K2 hK => ?_))⟩) (fun q c1 n => ex_2 ⟨_, _, _, rfl, hk 2 _ _ _ (rd_rf h (by decide) (fun K2 hK => ?_))⟩) (fun q c1 c2 S1 F1 G1 y qc => ⟨_, _, _, rfl, hk 0 _ _ _ (rd_ok h (nine.2 q).1 y qc (fun hi mv n1 K2 hK => ?_))⟩))
  · have hi : Hi F (rfc F 3) G G := rfc_h
    have e100 := hi.1 100 (by decide)
    have e97 := hi.1 97 (by decide)
    have z := nine.1.mp q
    exact q_170 (fun q => by rw [e97] at q; exact Hi_MV hi (hM q)) (by intros; first | exact hK _ | (exfalso; simp only [e100, e97] at *; first | contradiction | omega)) (by intros; first | exact hK _ | (exfalso; simp only [e100, e97] at *; first | contradiction | omega)) (by intros; first | exact hK _ | (exfalso; simp only [e100, e97] at *; first | contradiction | omega)) (by intros; first | exact hK _ | (exfalso; simp only [e100, e97] at *; first | contradiction | omega))
  · have hi : Hi F (rfc F 0) G G := rfc_h
    have e100 := hi.1 100 (by decide)
    have e97 := hi.1 97 (by decide)
    have z := (nine.2 q).1
    exact q_170 (fun q => by rw [e97] at q; exact Hi_MV hi (hM q)) (by intros; first | exact hK _ | (exfalso; simp only [e100, e97] at *; first | contradiction | omega)) (by intros; first | exact hK _ | (exfalso; simp only [e100, e97] at *; first | contradiction | omega)) (by intros; first | exact hK _ | (exfalso; simp only [e100, e97] at *; first | contradiction | omega)) (by intros; first | exact hK _ | (exfalso; simp only [e100, e97] at *; first | contradiction | omega))
  · have hi : Hi F (rfc F 2) G G := rfc_h
    have e100 := hi.1 100 (by decide)
    have e97 := hi.1 97 (by decide)
    have z := (nine.2 q).1
    exact q_170 (fun q => by rw [e97] at q; exact Hi_MV hi (hM q)) (by intros; first | exact hK _ | (exfalso; simp only [e100, e97] at *; first | contradiction | omega)) (by intros; first | exact hK _ | (exfalso; simp only [e100, e97] at *; first | contradiction | omega)) (by intros; first | exact hK _ | (exfalso; simp only [e100, e97] at *; first | contradiction | omega)) (by intros; first | exact hK _ | (exfalso; simp only [e100, e97] at *; first | contradiction | omega))
  · have e100 := hi.1 100 (by decide)
    have e97 := hi.1 97 (by decide)
    have e112 := hi.1 112 (by decide)
    have eL := Hi_L hi
    have eB : cBs F1 = cBs F := by unfold cBs; rw [e100, e112, eL]
    have hz : piF (zF F1) = piF F := (pi_e ⟨z_n (by decide), z_n (by decide), z_f (by decide), z_n (by decide), z_n (by decide), z_n (by decide), z_n (by decide)⟩).trans (Hi_pi hi)
    have efGn : sGn F1 = sGn F := by rw [← pi_Gn F1, (Hi_pi hi), pi_Gn]
    exact q_170 (fun _ => mv) (by intros; exfalso; simp only [e100, e97] at *; first | contradiction | omega) (by intros; exfalso; simp only [e100, e97] at *; first | contradiction | omega) (by intros; exfalso; simp only [e100, e97] at *; first | contradiction | omega) (fun _ _ _ F2 G2 qp => hK F2 G2 _ qp (by simp only [e100, e112, eL, eB, e97, efGn]; first | rfl | done))
set_option maxRecDepth 100000 in
theorem law_28 {K : Int → FS → FI → FJ → Prop} {sc : Nat → Int} {n0 : Nat} {x1 : Int} {S : FS} {F : FI} {G : FJ} (hB : BI sc n0 S F G) (hk : ∀ v S1 F1 G1, Rd sc n0 v S1 F1 G1 (fun K2 => calI 21 173 [.inr (.inr (.inl 97)), .inl x1] (mm S1 F1 G1) K2 nof) → K v S1 F1 G1) : calI 8 323 [.inr (.inr (.inl 1)), .inl x1, .inr (.inr (.inl 128))] (mm S F G) K nof := by
  obtain ⟨a, a', b, b', h⟩ := hB
  have nine := BI_9 h
  have hM := BI_MV h
  refine sg_323_0 (p_29 (l := F 100) (s := F 112) (w := mL F) (F0 := F) ⟨rfl, rfl, rfl⟩ (G0 := G) (fun q => hM (nine.2 q).1) ⟨h.1.1.1, h.1.2.2.1⟩ (fun q => (nine.2 q).2) (fun q => ex_3 ⟨_, _, _, rfl, hk 2 _ _ _ (rd_rf h (by decide) (fun K2 hK => ?_))⟩) (fun q  n => ex_0 ⟨_, _, _, rfl, hk 1 _ _ _ (rd_rf h (by decide) (fun K2 hK => ?_))⟩) (fun q c1 S1 F1 G1 y qc => ⟨_, _, _, rfl, hk 0 _ _ _ (rd_ok h (nine.2 q).1 y qc (fun hi mv n1 K2 hK => ?_))⟩))
  · have hi : Hi F (rfc F 3) G G := rfc_h
    have e100 := hi.1 100 (by decide)
    have e97 := hi.1 97 (by decide)
    have z := nine.1.mp q
    exact q_173 (fun q => by rw [e97] at q; exact Hi_MV hi (hM q)) (by intros; first | exact hK _ | (exfalso; simp only [e100, e97] at *; first | contradiction | omega)) (by intros; first | exact hK _ | (exfalso; simp only [e100, e97] at *; first | contradiction | omega)) (by intros; first | exact hK _ | (exfalso; simp only [e100, e97] at *; first | contradiction | omega))
  · have hi : Hi F (rfc F 0) G G := rfc_h
    have e100 := hi.1 100 (by decide)
    have e97 := hi.1 97 (by decide)
    have z := (nine.2 q).1
    exact q_173 (fun q => by rw [e97] at q; exact Hi_MV hi (hM q)) (by intros; first | exact hK _ | (exfalso; simp only [e100, e97] at *; first | contradiction | omega)) (by intros; first | exact hK _ | (exfalso; simp only [e100, e97] at *; first | contradiction | omega)) (by intros; first | exact hK _ | (exfalso; simp only [e100, e97] at *; first | contradiction | omega))
  · have e100 := hi.1 100 (by decide)
    have e97 := hi.1 97 (by decide)
    have e112 := hi.1 112 (by decide)
    have eL := Hi_L hi
    have eB : cBs F1 = cBs F := by unfold cBs; rw [e100, e112, eL]
    have hz : piF (zF F1) = piF F := (pi_e ⟨z_n (by decide), z_n (by decide), z_f (by decide), z_n (by decide), z_n (by decide), z_n (by decide), z_n (by decide)⟩).trans (Hi_pi hi)
    have efOrV : sOrV (zF F1) = sOrV F := by rw [← pi_OrV (zF F1), hz, pi_OrV]
    exact q_173 (fun _ => mv) (by intros; exfalso; simp only [e100, e97] at *; first | contradiction | omega) (by intros; exfalso; simp only [e100, e97] at *; first | contradiction | omega) (fun _ _ F2 G2 qp => hK F2 G2 _ qp (by simp only [e100, e112, eL, eB, e97, efOrV]; first | rfl | done))
set_option maxRecDepth 100000 in
theorem law_29 {K : Int → FS → FI → FJ → Prop} {sc : Nat → Int} {n0 : Nat} {x1 : Int} {S : FS} {F : FI} {G : FJ} (hB : BI sc n0 S F G) (hk : ∀ v S1 F1 G1, Rd sc n0 v S1 F1 G1 (fun K2 => calI 7 174 [.inr (.inr (.inl 97)), .inl x1] (mm S1 F1 G1) K2 nof) → K v S1 F1 G1) : calI 8 324 [.inr (.inr (.inl 1)), .inl x1, .inr (.inr (.inl 128))] (mm S F G) K nof := by
  obtain ⟨a, a', b, b', h⟩ := hB
  have nine := BI_9 h
  have hM := BI_MV h
  refine sg_324_0 (p_30 (l := F 100) (s := F 112) (w := mL F) (F0 := F) ⟨rfl, rfl, rfl⟩ (G0 := G) (fun q => hM (nine.2 q).1) ⟨h.1.1.1, h.1.2.2.1⟩ (fun q => (nine.2 q).2) (fun q => ex_3 ⟨_, _, _, rfl, hk 2 _ _ _ (rd_rf h (by decide) (fun K2 hK => ?_))⟩) (fun q  n => ex_0 ⟨_, _, _, rfl, hk 1 _ _ _ (rd_rf h (by decide) (fun K2 hK => ?_))⟩) (fun q c1 S1 F1 G1 y qc => ⟨_, _, _, rfl, hk 0 _ _ _ (rd_ok h (nine.2 q).1 y qc (fun hi mv n1 K2 hK => ?_))⟩))
  · have hi : Hi F (rfc F 3) G G := rfc_h
    have e100 := hi.1 100 (by decide)
    have e97 := hi.1 97 (by decide)
    have z := nine.1.mp q
    exact q_174 (fun q => by rw [e97] at q; exact Hi_MV hi (hM q)) (by intros; first | exact hK _ | (exfalso; simp only [e100, e97] at *; first | contradiction | omega)) (by intros; first | exact hK _ | (exfalso; simp only [e100, e97] at *; first | contradiction | omega)) (by intros; first | exact hK _ | (exfalso; simp only [e100, e97] at *; first | contradiction | omega))
  · have hi : Hi F (rfc F 0) G G := rfc_h
    have e100 := hi.1 100 (by decide)
    have e97 := hi.1 97 (by decide)
    have z := (nine.2 q).1
    exact q_174 (fun q => by rw [e97] at q; exact Hi_MV hi (hM q)) (by intros; first | exact hK _ | (exfalso; simp only [e100, e97] at *; first | contradiction | omega)) (by intros; first | exact hK _ | (exfalso; simp only [e100, e97] at *; first | contradiction | omega)) (by intros; first | exact hK _ | (exfalso; simp only [e100, e97] at *; first | contradiction | omega))
  · have e100 := hi.1 100 (by decide)
    have e97 := hi.1 97 (by decide)
    have e112 := hi.1 112 (by decide)
    have eL := Hi_L hi
    have eB : cBs F1 = cBs F := by unfold cBs; rw [e100, e112, eL]
    have hz : piF (zF F1) = piF F := (pi_e ⟨z_n (by decide), z_n (by decide), z_f (by decide), z_n (by decide), z_n (by decide), z_n (by decide), z_n (by decide)⟩).trans (Hi_pi hi)
    have efLn : ∀ (w : Int) K, sLn (zF F1) w K = sLn F w K := fun w K => by rw [← pi_Ln (zF F1), hz, pi_Ln]
    exact q_174 (fun _ => mv) (by intros; exfalso; simp only [e100, e97] at *; first | contradiction | omega) (by intros; exfalso; simp only [e100, e97] at *; first | contradiction | omega) (fun _ _ F2 G2 qp => hK F2 G2 _ qp (by simp only [e100, e112, eL, eB, e97, efLn]; first | rfl | done))
set_option maxRecDepth 100000 in
theorem law_31 {K : Int → FS → FI → FJ → Prop} {sc : Nat → Int} {n0 : Nat} {x1 x2 x3 : Int} {S : FS} {F : FI} {G : FJ} (hB : BI sc n0 S F G) (hk : ∀ v S1 F1 G1, Rd sc n0 v S1 F1 G1 (fun K2 => calI 7 177 [.inr (.inr (.inl 97)), .inl x1, .inl x2, .inl x3] (mm S1 F1 G1) K2 nof) → K v S1 F1 G1) : calI 7 326 [.inr (.inr (.inl 1)), .inl x1, .inl x2, .inl x3, .inr (.inr (.inl 128))] (mm S F G) K nof := by
  obtain ⟨a, a', b, b', h⟩ := hB
  have nine := BI_9 h
  have hM := BI_MV h
  refine sg_326_0 (p_32 (l := F 100) (s := F 112) (w := mL F) (F0 := F) ⟨rfl, rfl, rfl⟩ ⟨h.1.1.1, h.1.2.2.1⟩ (fun q => (nine.2 q).2) (fun q => ex_3 ⟨_, _, _, rfl, hk 2 _ _ _ (rd_rf h (by decide) (fun K2 hK => ?_))⟩) (fun q  n => ex_2 ⟨_, _, _, rfl, hk 1 _ _ _ (rd_rf h (by decide) (fun K2 hK => ?_))⟩) (fun q c1 S1 F1 G1 y qc => ⟨_, _, _, rfl, hk 0 _ _ _ (rd_ok h (nine.2 q).1 y qc (fun hi mv n1 K2 hK => ?_))⟩))
  · have hi : Hi F (rfc F 3) G G := rfc_h
    have e100 := hi.1 100 (by decide)
    have e97 := hi.1 97 (by decide)
    have z := nine.1.mp q
    exact q_177 (fun q => by rw [e97] at q; exact Hi_MV hi (hM q)) (by intros; first | exact hK _ | (exfalso; simp only [e100, e97] at *; first | contradiction | omega)) (by intros; first | exact hK _ | (exfalso; simp only [e100, e97] at *; first | contradiction | omega)) (by intros; first | exact hK _ | (exfalso; simp only [e100, e97] at *; first | contradiction | omega))
  · have hi : Hi F (rfc F 2) G G := rfc_h
    have e100 := hi.1 100 (by decide)
    have e97 := hi.1 97 (by decide)
    have z := (nine.2 q).1
    exact q_177 (fun q => by rw [e97] at q; exact Hi_MV hi (hM q)) (by intros; first | exact hK _ | (exfalso; simp only [e100, e97] at *; first | contradiction | omega)) (by intros; first | exact hK _ | (exfalso; simp only [e100, e97] at *; first | contradiction | omega)) (by intros; first | exact hK _ | (exfalso; simp only [e100, e97] at *; first | contradiction | omega))
  · have e100 := hi.1 100 (by decide)
    have e97 := hi.1 97 (by decide)
    have e112 := hi.1 112 (by decide)
    have eL := Hi_L hi
    have eB : cBs F1 = cBs F := by unfold cBs; rw [e100, e112, eL]
    have hz : piF (zF F1) = piF F := (pi_e ⟨z_n (by decide), z_n (by decide), z_f (by decide), z_n (by decide), z_n (by decide), z_n (by decide), z_n (by decide)⟩).trans (Hi_pi hi)
    have efFc : ∀ (p : Int) (h : Int) (n : Int) K, sFc (zF F1) p h n K = sFc F p h n K := fun p h n K => by rw [← pi_Fc (zF F1), hz, pi_Fc]
    exact q_177 (fun _ => mv) (by intros; exfalso; simp only [e100, e97] at *; first | contradiction | omega) (by intros; exfalso; simp only [e100, e97] at *; first | contradiction | omega) (fun _ _ F2 G2 qp => hK F2 G2 _ qp (by simp only [e100, e112, eL, eB, e97, efFc]; first | rfl | done))
set_option maxRecDepth 100000 in
theorem law_32 {K : Int → FS → FI → FJ → Prop} {sc : Nat → Int} {n0 : Nat} {x1 x2 x3 : Int} {S : FS} {F : FI} {G : FJ} (hB : BI sc n0 S F G) (hk : ∀ v S1 F1 G1, Rd sc n0 v S1 F1 G1 (fun K2 => calI 7 178 [.inr (.inr (.inl 97)), .inl x1, .inl x2, .inl x3] (mm S1 F1 G1) K2 nof) → K v S1 F1 G1) : calI 7 327 [.inr (.inr (.inl 1)), .inl x1, .inl x2, .inl x3, .inr (.inr (.inl 128))] (mm S F G) K nof := by
  obtain ⟨a, a', b, b', h⟩ := hB
  have nine := BI_9 h
  have hM := BI_MV h
  refine sg_327_0 (p_33 (l := F 100) (s := F 112) (w := mL F) (F0 := F) ⟨rfl, rfl, rfl⟩ ⟨h.1.1.1, h.1.2.2.1⟩ (fun q => (nine.2 q).2) (fun q => ex_3 ⟨_, _, _, rfl, hk 2 _ _ _ (rd_rf h (by decide) (fun K2 hK => ?_))⟩) (fun q  n => ex_2 ⟨_, _, _, rfl, hk 1 _ _ _ (rd_rf h (by decide) (fun K2 hK => ?_))⟩) (fun q c1 S1 F1 G1 y qc => ⟨_, _, _, rfl, hk 0 _ _ _ (rd_ok h (nine.2 q).1 y qc (fun hi mv n1 K2 hK => ?_))⟩))
  · have hi : Hi F (rfc F 3) G G := rfc_h
    have e100 := hi.1 100 (by decide)
    have e97 := hi.1 97 (by decide)
    have z := nine.1.mp q
    exact q_178 (fun q => by rw [e97] at q; exact Hi_MV hi (hM q)) (by intros; first | exact hK _ | (exfalso; simp only [e100, e97] at *; first | contradiction | omega)) (by intros; first | exact hK _ | (exfalso; simp only [e100, e97] at *; first | contradiction | omega)) (by intros; first | exact hK _ | (exfalso; simp only [e100, e97] at *; first | contradiction | omega))
  · have hi : Hi F (rfc F 2) G G := rfc_h
    have e100 := hi.1 100 (by decide)
    have e97 := hi.1 97 (by decide)
    have z := (nine.2 q).1
    exact q_178 (fun q => by rw [e97] at q; exact Hi_MV hi (hM q)) (by intros; first | exact hK _ | (exfalso; simp only [e100, e97] at *; first | contradiction | omega)) (by intros; first | exact hK _ | (exfalso; simp only [e100, e97] at *; first | contradiction | omega)) (by intros; first | exact hK _ | (exfalso; simp only [e100, e97] at *; first | contradiction | omega))
  · have e100 := hi.1 100 (by decide)
    have e97 := hi.1 97 (by decide)
    have e112 := hi.1 112 (by decide)
    have eL := Hi_L hi
    have eB : cBs F1 = cBs F := by unfold cBs; rw [e100, e112, eL]
    have hz : piF (zF F1) = piF F := (pi_e ⟨z_n (by decide), z_n (by decide), z_f (by decide), z_n (by decide), z_n (by decide), z_n (by decide), z_n (by decide)⟩).trans (Hi_pi hi)
    have efEver : sEver F1 = sEver F := by rw [← pi_Ever F1, (Hi_pi hi), pi_Ever]
    exact q_178 (fun _ => mv) (by intros; exfalso; simp only [e100, e97] at *; first | contradiction | omega) (by intros; exfalso; simp only [e100, e97] at *; first | contradiction | omega) (fun _ _ F2 G2 qp => hK F2 G2 _ qp (by simp only [e100, e112, eL, eB, e97, efEver]; first | rfl | done))
set_option maxRecDepth 100000 in
theorem law_33 {K : Int → FS → FI → FJ → Prop} {sc : Nat → Int} {n0 : Nat} {x1 : Int} {S : FS} {F : FI} {G : FJ} (hB : BI sc n0 S F G) (hk : ∀ v S1 F1 G1, Rd sc n0 v S1 F1 G1 (fun K2 => calL 8 182 [.inr (.inr (.inl 97)), .inl x1] (mm S1 F1 G1) K2 nof) → K v S1 F1 G1) : calI 9 328 [.inr (.inr (.inl 1)), .inl x1, .inr (.inr (.inl 128))] (mm S F G) K nof := by
  obtain ⟨a, a', b, b', h⟩ := hB
  have nine := BI_9 h
  have hM := BI_MV h
  refine sg_328_0 (p_34 (l := F 100) (s := F 112) (w := mL F) (F0 := F) ⟨rfl, rfl, rfl⟩ ⟨h.1.1.1, h.1.2.2.1⟩ (fun q => (nine.2 q).2) (fun q => ex_3 ⟨_, _, _, rfl, hk 2 _ _ _ (rd_rf h (by decide) (fun K2 hK => ?_))⟩) (fun q  n => ex_2 ⟨_, _, _, rfl, hk 1 _ _ _ (rd_rf h (by decide) (fun K2 hK => ?_))⟩) (fun q c1 S1 F1 G1 y qc => ⟨_, _, _, rfl, hk 0 _ _ _ (rd_ok h (nine.2 q).1 y qc (fun hi mv n1 K2 hK => ?_))⟩))
  · have hi : Hi F (rfc F 3) G G := rfc_h
    have e100 := hi.1 100 (by decide)
    have e97 := hi.1 97 (by decide)
    have z := nine.1.mp q
    exact q_182 (fun q => by rw [e97] at q; exact Hi_MV hi (hM q)) (by intros; first | exact hK _ | (exfalso; simp only [e100, e97] at *; first | contradiction | omega)) (by intros; first | exact hK _ | (exfalso; simp only [e100, e97] at *; first | contradiction | omega)) (by intros; first | exact hK _ | (exfalso; simp only [e100, e97] at *; first | contradiction | omega))
  · have hi : Hi F (rfc F 2) G G := rfc_h
    have e100 := hi.1 100 (by decide)
    have e97 := hi.1 97 (by decide)
    have z := (nine.2 q).1
    exact q_182 (fun q => by rw [e97] at q; exact Hi_MV hi (hM q)) (by intros; first | exact hK _ | (exfalso; simp only [e100, e97] at *; first | contradiction | omega)) (by intros; first | exact hK _ | (exfalso; simp only [e100, e97] at *; first | contradiction | omega)) (by intros; first | exact hK _ | (exfalso; simp only [e100, e97] at *; first | contradiction | omega))
  · have e100 := hi.1 100 (by decide)
    have e97 := hi.1 97 (by decide)
    have e112 := hi.1 112 (by decide)
    have eL := Hi_L hi
    have eB : cBs F1 = cBs F := by unfold cBs; rw [e100, e112, eL]
    have hz : piF (zF F1) = piF F := (pi_e ⟨z_n (by decide), z_n (by decide), z_f (by decide), z_n (by decide), z_n (by decide), z_n (by decide), z_n (by decide)⟩).trans (Hi_pi hi)
    have efEd : sEd F1 = sEd F := by rw [← pi_Ed F1, (Hi_pi hi), pi_Ed]
    exact q_182 (fun _ => mv) (by intros; exfalso; simp only [e100, e97] at *; first | contradiction | omega) (by intros; exfalso; simp only [e100, e97] at *; first | contradiction | omega) (fun _ _ F2 G2 qp => hK F2 G2 _ qp (by simp only [e100, e112, eL, eB, e97, efEd]; first | rfl | done))
set_option maxRecDepth 100000 in
theorem law_34 {K : Int → FS → FI → FJ → Prop} {sc : Nat → Int} {n0 : Nat} {x1 : Int} {S : FS} {F : FI} {G : FJ} (hB : BI sc n0 S F G) (hk : ∀ v S1 F1 G1, Rd sc n0 v S1 F1 G1 (fun K2 => calL 8 187 [.inr (.inr (.inl 97)), .inl x1] (mm S1 F1 G1) K2 nof) → K v S1 F1 G1) : calI 9 329 [.inr (.inr (.inl 1)), .inl x1, .inr (.inr (.inl 128))] (mm S F G) K nof := by
  obtain ⟨a, a', b, b', h⟩ := hB
  have nine := BI_9 h
  have hM := BI_MV h
  refine sg_329_0 (p_35 (l := F 100) (s := F 112) (w := mL F) ⟨h.1.1.1, h.1.2.2.1⟩ (fun q => (nine.2 q).2) (fun q => ex_3 ⟨_, _, _, rfl, hk 2 _ _ _ (rd_rf h (by decide) (fun K2 hK => ?_))⟩) (fun q  n => ex_0 ⟨_, _, _, rfl, hk 1 _ _ _ (rd_rf h (by decide) (fun K2 hK => ?_))⟩) (fun q c1 S1 F1 G1 y qc => ⟨_, _, _, rfl, hk 0 _ _ _ (rd_ok h (nine.2 q).1 y qc (fun hi mv n1 K2 hK => ?_))⟩))
  · have hi : Hi F (rfc F 3) G G := rfc_h
    have e100 := hi.1 100 (by decide)
    have e97 := hi.1 97 (by decide)
    have z := nine.1.mp q
    exact q_187 (fun q => by rw [e97] at q; exact Hi_MV hi (hM q)) (by intros; first | exact hK _ | (exfalso; simp only [e100, e97] at *; first | contradiction | omega)) (by intros; first | exact hK _ | (exfalso; simp only [e100, e97] at *; first | contradiction | omega)) (by intros; first | exact hK _ | (exfalso; simp only [e100, e97] at *; first | contradiction | omega))
  · have hi : Hi F (rfc F 0) G G := rfc_h
    have e100 := hi.1 100 (by decide)
    have e97 := hi.1 97 (by decide)
    have z := (nine.2 q).1
    exact q_187 (fun q => by rw [e97] at q; exact Hi_MV hi (hM q)) (by intros; first | exact hK _ | (exfalso; simp only [e100, e97] at *; first | contradiction | omega)) (by intros; first | exact hK _ | (exfalso; simp only [e100, e97] at *; first | contradiction | omega)) (by intros; first | exact hK _ | (exfalso; simp only [e100, e97] at *; first | contradiction | omega))
  · have e100 := hi.1 100 (by decide)
    have e97 := hi.1 97 (by decide)
    have e112 := hi.1 112 (by decide)
    have eL := Hi_L hi
    have eB : cBs F1 = cBs F := by unfold cBs; rw [e100, e112, eL]
    have hz : piF (zF F1) = piF F := (pi_e ⟨z_n (by decide), z_n (by decide), z_f (by decide), z_n (by decide), z_n (by decide), z_n (by decide), z_n (by decide)⟩).trans (Hi_pi hi)
    exact q_187 (fun _ => mv) (by intros; exfalso; simp only [e100, e97] at *; first | contradiction | omega) (by intros; exfalso; simp only [e100, e97] at *; first | contradiction | omega) (fun _ _ F2 G2 qp => hK F2 G2 _ qp (by simp only [e100, e112, eL, eB, e97]; first | rfl | done))
set_option maxRecDepth 100000 in
theorem law_35 {K : Int → FS → FI → FJ → Prop} {sc : Nat → Int} {n0 : Nat} {x1 : Int} {S : FS} {F : FI} {G : FJ} (hB : BI sc n0 S F G) (hk : ∀ v S1 F1 G1, Rd sc n0 v S1 F1 G1 (fun K2 => calI 8 188 [.inr (.inr (.inl 97)), .inl x1] (mm S1 F1 G1) K2 nof) → K v S1 F1 G1) : calI 9 330 [.inr (.inr (.inl 1)), .inl x1, .inr (.inr (.inl 128))] (mm S F G) K nof := by
  obtain ⟨a, a', b, b', h⟩ := hB
  have nine := BI_9 h
  have hM := BI_MV h
  refine sg_330_0 (p_36 (l := F 100) (s := F 112) (w := mL F) (F0 := F) ⟨rfl, rfl, rfl⟩ ⟨h.1.1.1, h.1.2.2.1⟩ (fun q => (nine.2 q).2) (fun q => ex_3 ⟨_, _, _, rfl, hk 2 _ _ _ (rd_rf h (by decide) (fun K2 hK => ?_))⟩) (fun q  n => ex_0 ⟨_, _, _, rfl, hk 1 _ _ _ (rd_rf h (by decide) (fun K2 hK => ?_))⟩) (fun q c1 S1 F1 G1 y qc => ⟨_, _, _, rfl, hk 0 _ _ _ (rd_ok h (nine.2 q).1 y qc (fun hi mv n1 K2 hK => ?_))⟩))
  · have hi : Hi F (rfc F 3) G G := rfc_h
    have e100 := hi.1 100 (by decide)
    have e97 := hi.1 97 (by decide)
    have z := nine.1.mp q
    exact q_188 (fun q => by rw [e97] at q; exact Hi_MV hi (hM q)) (by intros; first | exact hK _ | (exfalso; simp only [e100, e97] at *; first | contradiction | omega)) (by intros; first | exact hK _ | (exfalso; simp only [e100, e97] at *; first | contradiction | omega)) (by intros; first | exact hK _ | (exfalso; simp only [e100, e97] at *; first | contradiction | omega))
  · have hi : Hi F (rfc F 0) G G := rfc_h
    have e100 := hi.1 100 (by decide)
    have e97 := hi.1 97 (by decide)
    have z := (nine.2 q).1
    exact q_188 (fun q => by rw [e97] at q; exact Hi_MV hi (hM q)) (by intros; first | exact hK _ | (exfalso; simp only [e100, e97] at *; first | contradiction | omega)) (by intros; first | exact hK _ | (exfalso; simp only [e100, e97] at *; first | contradiction | omega)) (by intros; first | exact hK _ | (exfalso; simp only [e100, e97] at *; first | contradiction | omega))
  · have e100 := hi.1 100 (by decide)
    have e97 := hi.1 97 (by decide)
    have e112 := hi.1 112 (by decide)
    have eL := Hi_L hi
    have eB : cBs F1 = cBs F := by unfold cBs; rw [e100, e112, eL]
    have hz : piF (zF F1) = piF F := (pi_e ⟨z_n (by decide), z_n (by decide), z_f (by decide), z_n (by decide), z_n (by decide), z_n (by decide), z_n (by decide)⟩).trans (Hi_pi hi)
    have efAsk : ∀ (k0 : Int) K, sAsk (zF F1) k0 K = sAsk F k0 K := fun k0 K => by rw [← pi_Ask (zF F1), hz, pi_Ask]
    exact q_188 (fun _ => mv) (by intros; exfalso; simp only [e100, e97] at *; first | contradiction | omega) (by intros; exfalso; simp only [e100, e97] at *; first | contradiction | omega) (fun _ _ F2 G2 qp => hK F2 G2 _ qp (by simp only [e100, e112, eL, eB, e97, efAsk]; first | rfl | done))
set_option maxRecDepth 100000 in
theorem law_36 {K : Int → FS → FI → FJ → Prop} {sc : Nat → Int} {n0 : Nat} {x1 : Int} {S : FS} {F : FI} {G : FJ} (hB : BI sc n0 S F G) (hk : ∀ v S1 F1 G1, Rd sc n0 v S1 F1 G1 (fun K2 => calL 8 189 [.inr (.inr (.inl 97)), .inl x1] (mm S1 F1 G1) K2 nof) → K v S1 F1 G1) : calI 9 331 [.inr (.inr (.inl 1)), .inl x1, .inr (.inr (.inl 128))] (mm S F G) K nof := by
  obtain ⟨a, a', b, b', h⟩ := hB
  have nine := BI_9 h
  have hM := BI_MV h
  refine sg_331_0 (p_37 (l := F 100) (s := F 112) (w := mL F) ⟨h.1.1.1, h.1.2.2.1⟩ (fun q => (nine.2 q).2) (fun q => ex_3 ⟨_, _, _, rfl, hk 2 _ _ _ (rd_rf h (by decide) (fun K2 hK => ?_))⟩) (fun q  n => ex_0 ⟨_, _, _, rfl, hk 1 _ _ _ (rd_rf h (by decide) (fun K2 hK => ?_))⟩) (fun q c1 S1 F1 G1 y qc => ⟨_, _, _, rfl, hk 0 _ _ _ (rd_ok h (nine.2 q).1 y qc (fun hi mv n1 K2 hK => ?_))⟩))
  · have hi : Hi F (rfc F 3) G G := rfc_h
    have e100 := hi.1 100 (by decide)
    have e97 := hi.1 97 (by decide)
    have z := nine.1.mp q
    exact q_189 (fun q => by rw [e97] at q; exact Hi_MV hi (hM q)) (by intros; first | exact hK _ | (exfalso; simp only [e100, e97] at *; first | contradiction | omega)) (by intros; first | exact hK _ | (exfalso; simp only [e100, e97] at *; first | contradiction | omega)) (by intros; first | exact hK _ | (exfalso; simp only [e100, e97] at *; first | contradiction | omega))
  · have hi : Hi F (rfc F 0) G G := rfc_h
    have e100 := hi.1 100 (by decide)
    have e97 := hi.1 97 (by decide)
    have z := (nine.2 q).1
    exact q_189 (fun q => by rw [e97] at q; exact Hi_MV hi (hM q)) (by intros; first | exact hK _ | (exfalso; simp only [e100, e97] at *; first | contradiction | omega)) (by intros; first | exact hK _ | (exfalso; simp only [e100, e97] at *; first | contradiction | omega)) (by intros; first | exact hK _ | (exfalso; simp only [e100, e97] at *; first | contradiction | omega))
  · have e100 := hi.1 100 (by decide)
    have e97 := hi.1 97 (by decide)
    have e112 := hi.1 112 (by decide)
    have eL := Hi_L hi
    have eB : cBs F1 = cBs F := by unfold cBs; rw [e100, e112, eL]
    have hz : piF (zF F1) = piF F := (pi_e ⟨z_n (by decide), z_n (by decide), z_f (by decide), z_n (by decide), z_n (by decide), z_n (by decide), z_n (by decide)⟩).trans (Hi_pi hi)
    have efAlone : sAlone F1 = sAlone F := by rw [← pi_Al F1, (Hi_pi hi), pi_Al]
    exact q_189 (fun _ => mv) (by intros; exfalso; simp only [e100, e97] at *; first | contradiction | omega) (by intros; exfalso; simp only [e100, e97] at *; first | contradiction | omega) (fun _ _ F2 G2 qp => hK F2 G2 _ qp (by simp only [e100, e112, eL, eB, e97, efAlone]; first | rfl | done))
set_option maxRecDepth 100000 in
theorem law_38 {K : Int → FS → FI → FJ → Prop} {sc : Nat → Int} {n0 : Nat} {S : FS} {F : FI} {G : FJ} (hB : BI sc n0 S F G) (hk : ∀ v S1 F1 G1, Rd sc n0 v S1 F1 G1 (fun K2 => calI 9 192 [.inr (.inr (.inl 97))] (mm S1 F1 G1) K2 nof) → K v S1 F1 G1) : calI 9 333 [.inr (.inr (.inl 1)), .inr (.inr (.inl 128))] (mm S F G) K nof := by
  obtain ⟨a, a', b, b', h⟩ := hB
  have nine := BI_9 h
  have hM := BI_MV h
  refine sg_333_0 (p_39 (l := F 100) (s := F 112) (w := mL F) (F0 := F) ⟨rfl, rfl, rfl⟩ ⟨h.1.1.1, h.1.2.2.1⟩ (fun q => (nine.2 q).2) (fun q => ex_3 ⟨_, _, _, rfl, hk 1 _ _ _ (rd_rf h (by decide) (fun K2 hK => ?_))⟩) (fun q  S1 F1 G1 y qc => ⟨_, _, _, rfl, hk 0 _ _ _ (rd_ok h (nine.2 q).1 y qc (fun hi mv n1 K2 hK => ?_))⟩))
  · have hi : Hi F (rfc F 3) G G := rfc_h
    have e100 := hi.1 100 (by decide)
    have e97 := hi.1 97 (by decide)
    have z := nine.1.mp q
    exact q_192 (fun q => by rw [e97] at q; exact Hi_MV hi (hM q)) (by intros; first | exact hK _ | (exfalso; simp only [e100, e97] at *; first | contradiction | omega)) (by intros; first | exact hK _ | (exfalso; simp only [e100, e97] at *; first | contradiction | omega))
  · have e100 := hi.1 100 (by decide)
    have e97 := hi.1 97 (by decide)
    have e112 := hi.1 112 (by decide)
    have eL := Hi_L hi
    have eB : cBs F1 = cBs F := by unfold cBs; rw [e100, e112, eL]
    have hz : piF (zF F1) = piF F := (pi_e ⟨z_n (by decide), z_n (by decide), z_f (by decide), z_n (by decide), z_n (by decide), z_n (by decide), z_n (by decide)⟩).trans (Hi_pi hi)
    have efHlA : ∀  K, sHlA (zF F1) K = sHlA F K := fun  K => by rw [← pi_HlA (zF F1), hz, pi_HlA]
    exact q_192 (fun _ => mv) (by intros; exfalso; simp only [e100, e97] at *; first | contradiction | omega) (fun _  F2 G2 qp => hK F2 G2 _ qp (by simp only [e100, e112, eL, eB, e97, efHlA]; first | rfl | done))
set_option maxRecDepth 100000 in
theorem law_39 {K : Int → FS → FI → FJ → Prop} {sc : Nat → Int} {n0 : Nat} {S : FS} {F : FI} {G : FJ} (hB : BI sc n0 S F G) (hk : ∀ v S1 F1 G1, Rd sc n0 v S1 F1 G1 (fun K2 => calI 8 196 [.inr (.inr (.inl 97))] (mm S1 F1 G1) K2 nof) → K v S1 F1 G1) : calI 9 334 [.inr (.inr (.inl 1)), .inr (.inr (.inl 128))] (mm S F G) K nof := by
  obtain ⟨a, a', b, b', h⟩ := hB
  have nine := BI_9 h
  have hM := BI_MV h
  refine sg_334_0 (p_40 (l := F 100) (s := F 112) (w := mL F) (F0 := F) ⟨rfl, rfl, rfl⟩ ⟨h.1.1.1, h.1.2.2.1⟩ (fun q => (nine.2 q).2) (fun q => ex_3 ⟨_, _, _, rfl, hk 1 _ _ _ (rd_rf h (by decide) (fun K2 hK => ?_))⟩) (fun q  S1 F1 G1 y qc => ⟨_, _, _, rfl, hk 0 _ _ _ (rd_ok h (nine.2 q).1 y qc (fun hi mv n1 K2 hK => ?_))⟩))
  · have hi : Hi F (rfc F 3) G G := rfc_h
    have e100 := hi.1 100 (by decide)
    have e97 := hi.1 97 (by decide)
    have z := nine.1.mp q
    exact q_196 (fun q => by rw [e97] at q; exact Hi_MV hi (hM q)) (by intros; first | exact hK _ | (exfalso; simp only [e100, e97] at *; first | contradiction | omega)) (by intros; first | exact hK _ | (exfalso; simp only [e100, e97] at *; first | contradiction | omega))
  · have e100 := hi.1 100 (by decide)
    have e97 := hi.1 97 (by decide)
    have e112 := hi.1 112 (by decide)
    have eL := Hi_L hi
    have eB : cBs F1 = cBs F := by unfold cBs; rw [e100, e112, eL]
    have hz : piF (zF F1) = piF F := (pi_e ⟨z_n (by decide), z_n (by decide), z_f (by decide), z_n (by decide), z_n (by decide), z_n (by decide), z_n (by decide)⟩).trans (Hi_pi hi)
    exact q_196 (fun _ => mv) (by intros; exfalso; simp only [e100, e97] at *; first | contradiction | omega) (fun _  F2 G2 qp => hK F2 G2 _ qp (by simp only [e100, e112, eL, eB, e97]; first | rfl | done))
set_option maxRecDepth 100000 in
theorem law_40 {K : Int → FS → FI → FJ → Prop} {sc : Nat → Int} {n0 : Nat} {x1 x2 : Int} {S : FS} {F : FI} {G : FJ} (hB : BI sc n0 S F G) (hk : ∀ v S1 F1 G1, Rd sc n0 v S1 F1 G1 (fun K2 => calL 8 183 [.inr (.inr (.inl 97)), .inl x1, .inl x2] (mm S1 F1 G1) K2 nof) → K v S1 F1 G1) : calI 9 335 [.inr (.inr (.inl 1)), .inl x1, .inl x2, .inr (.inr (.inl 128))] (mm S F G) K nof := by
  obtain ⟨a, a', b, b', h⟩ := hB
  have nine := BI_9 h
  have hM := BI_MV h
  refine sg_335_0 (p_41 (l := F 100) (s := F 112) (w := mL F) (F0 := F) ⟨rfl, rfl, rfl⟩ ⟨h.1.1.1, h.1.2.2.1⟩ (fun q => (nine.2 q).2) (fun q => ex_3 ⟨_, _, _, rfl, hk 2 _ _ _ (rd_rf h (by decide) (fun K2 hK => ?_))⟩) (fun q  n => ex_2 ⟨_, _, _, rfl, hk 1 _ _ _ (rd_rf h (by decide) (fun K2 hK => ?_))⟩) (fun q c1 S1 F1 G1 y qc => ⟨_, _, _, rfl, hk 0 _ _ _ (rd_ok h (nine.2 q).1 y qc (fun hi mv n1 K2 hK => ?_))⟩))
  · have hi : Hi F (rfc F 3) G G := rfc_h
    have e100 := hi.1 100 (by decide)
    have e97 := hi.1 97 (by decide)
    have z := nine.1.mp q
    exact q_183 (fun q => by rw [e97] at q; exact Hi_MV hi (hM q)) (by intros; first | exact hK _ | (exfalso; simp only [e100, e97] at *; first | contradiction | omega)) (by intros; first | exact hK _ | (exfalso; simp only [e100, e97] at *; first | contradiction | omega)) (by intros; first | exact hK _ | (exfalso; simp only [e100, e97] at *; first | contradiction | omega))
  · have hi : Hi F (rfc F 2) G G := rfc_h
    have e100 := hi.1 100 (by decide)
    have e97 := hi.1 97 (by decide)
    have z := (nine.2 q).1
    exact q_183 (fun q => by rw [e97] at q; exact Hi_MV hi (hM q)) (by intros; first | exact hK _ | (exfalso; simp only [e100, e97] at *; first | contradiction | omega)) (by intros; first | exact hK _ | (exfalso; simp only [e100, e97] at *; first | contradiction | omega)) (by intros; first | exact hK _ | (exfalso; simp only [e100, e97] at *; first | contradiction | omega))
  · have e100 := hi.1 100 (by decide)
    have e97 := hi.1 97 (by decide)
    have e112 := hi.1 112 (by decide)
    have eL := Hi_L hi
    have eB : cBs F1 = cBs F := by unfold cBs; rw [e100, e112, eL]
    have hz : piF (zF F1) = piF F := (pi_e ⟨z_n (by decide), z_n (by decide), z_f (by decide), z_n (by decide), z_n (by decide), z_n (by decide), z_n (by decide)⟩).trans (Hi_pi hi)
    exact q_183 (fun _ => mv) (by intros; exfalso; simp only [e100, e97] at *; first | contradiction | omega) (by intros; exfalso; simp only [e100, e97] at *; first | contradiction | omega) (fun _ _ F2 G2 qp => hK F2 G2 _ qp (by simp only [e100, e112, eL, eB, e97]; first | rfl | done))
set_option maxRecDepth 100000 in
theorem law_41 {K : Int → FS → FI → FJ → Prop} {sc : Nat → Int} {n0 : Nat} {x1 : Int} {S : FS} {F : FI} {G : FJ} (hB : BI sc n0 S F G) (hk : ∀ v S1 F1 G1, Rd sc n0 v S1 F1 G1 (fun K2 => calL 8 184 [.inr (.inr (.inl 97)), .inl x1] (mm S1 F1 G1) K2 nof) → K v S1 F1 G1) : calI 9 336 [.inr (.inr (.inl 1)), .inl x1, .inr (.inr (.inl 128))] (mm S F G) K nof := by
  obtain ⟨a, a', b, b', h⟩ := hB
  have nine := BI_9 h
  have hM := BI_MV h
  refine sg_336_0 (p_42 (l := F 100) (s := F 112) (w := mL F) (F0 := F) ⟨rfl, rfl, rfl⟩ ⟨h.1.1.1, h.1.2.2.1⟩ (fun q => (nine.2 q).2) (fun q => ex_3 ⟨_, _, _, rfl, hk 2 _ _ _ (rd_rf h (by decide) (fun K2 hK => ?_))⟩) (fun q  n => ex_2 ⟨_, _, _, rfl, hk 1 _ _ _ (rd_rf h (by decide) (fun K2 hK => ?_))⟩) (fun q c1 S1 F1 G1 y qc => ⟨_, _, _, rfl, hk 0 _ _ _ (rd_ok h (nine.2 q).1 y qc (fun hi mv n1 K2 hK => ?_))⟩))
  · have hi : Hi F (rfc F 3) G G := rfc_h
    have e100 := hi.1 100 (by decide)
    have e97 := hi.1 97 (by decide)
    have z := nine.1.mp q
    exact q_184 (fun q => by rw [e97] at q; exact Hi_MV hi (hM q)) (by intros; first | exact hK _ | (exfalso; simp only [e100, e97] at *; first | contradiction | omega)) (by intros; first | exact hK _ | (exfalso; simp only [e100, e97] at *; first | contradiction | omega)) (by intros; first | exact hK _ | (exfalso; simp only [e100, e97] at *; first | contradiction | omega))
  · have hi : Hi F (rfc F 2) G G := rfc_h
    have e100 := hi.1 100 (by decide)
    have e97 := hi.1 97 (by decide)
    have z := (nine.2 q).1
    exact q_184 (fun q => by rw [e97] at q; exact Hi_MV hi (hM q)) (by intros; first | exact hK _ | (exfalso; simp only [e100, e97] at *; first | contradiction | omega)) (by intros; first | exact hK _ | (exfalso; simp only [e100, e97] at *; first | contradiction | omega)) (by intros; first | exact hK _ | (exfalso; simp only [e100, e97] at *; first | contradiction | omega))
  · have e100 := hi.1 100 (by decide)
    have e97 := hi.1 97 (by decide)
    have e112 := hi.1 112 (by decide)
    have eL := Hi_L hi
    have eB : cBs F1 = cBs F := by unfold cBs; rw [e100, e112, eL]
    have hz : piF (zF F1) = piF F := (pi_e ⟨z_n (by decide), z_n (by decide), z_f (by decide), z_n (by decide), z_n (by decide), z_n (by decide), z_n (by decide)⟩).trans (Hi_pi hi)
    exact q_184 (fun _ => mv) (by intros; exfalso; simp only [e100, e97] at *; first | contradiction | omega) (by intros; exfalso; simp only [e100, e97] at *; first | contradiction | omega) (fun _ _ F2 G2 qp => hK F2 G2 _ qp (by simp only [e100, e112, eL, eB, e97]; first | rfl | done))
set_option maxRecDepth 100000 in
theorem law_42 {K : Int → FS → FI → FJ → Prop} {sc : Nat → Int} {n0 : Nat} {x1 x2 : Int} {S : FS} {F : FI} {G : FJ} (hB : BI sc n0 S F G) (hk : ∀ v S1 F1 G1, Rd sc n0 v S1 F1 G1 (fun K2 => calL 8 194 [.inr (.inr (.inl 97)), .inl x1, .inl x2] (mm S1 F1 G1) K2 nof) → K v S1 F1 G1) : calI 9 337 [.inr (.inr (.inl 1)), .inl x1, .inl x2, .inr (.inr (.inl 128))] (mm S F G) K nof := by
  obtain ⟨a, a', b, b', h⟩ := hB
  have nine := BI_9 h
  have hM := BI_MV h
  refine sg_337_0 (p_43 (l := F 100) (s := F 112) (w := mL F) (F0 := F) ⟨rfl, rfl, rfl⟩ ⟨h.1.1.1, h.1.2.2.1⟩ (fun q => (nine.2 q).2) (fun q => ex_3 ⟨_, _, _, rfl, hk 3 _ _ _ (rd_rf h (by decide) (fun K2 hK => ?_))⟩) (fun q  n => ex_0 ⟨_, _, _, rfl, hk 1 _ _ _ (rd_rf h (by decide) (fun K2 hK => ?_))⟩) (fun q c1 n => ex_1 ⟨_, _, _, rfl, hk 2 _ _ _ (rd_rf h (by decide) (fun K2 hK => ?_))⟩) (fun q c1 c2 S1 F1 G1 y qc => ⟨_, _, _, rfl, hk 0 _ _ _ (rd_ok h (nine.2 q).1 y qc (fun hi mv n1 K2 hK => ?_))⟩))
  · have hi : Hi F (rfc F 3) G G := rfc_h
    have e100 := hi.1 100 (by decide)
    have e97 := hi.1 97 (by decide)
    have z := nine.1.mp q
    exact q_194 (fun q => by rw [e97] at q; exact Hi_MV hi (hM q)) (by intros; first | exact hK _ | (exfalso; simp only [e100, e97] at *; first | contradiction | omega)) (by intros; first | exact hK _ | (exfalso; simp only [e100, e97] at *; first | contradiction | omega)) (by intros; first | exact hK _ | (exfalso; simp only [e100, e97] at *; first | contradiction | omega)) (by intros; first | exact hK _ | (exfalso; simp only [e100, e97] at *; first | contradiction | omega))
  · have hi : Hi F (rfc F 0) G G := rfc_h
    have e100 := hi.1 100 (by decide)
    have e97 := hi.1 97 (by decide)
    have z := (nine.2 q).1
    exact q_194 (fun q => by rw [e97] at q; exact Hi_MV hi (hM q)) (by intros; first | exact hK _ | (exfalso; simp only [e100, e97] at *; first | contradiction | omega)) (by intros; first | exact hK _ | (exfalso; simp only [e100, e97] at *; first | contradiction | omega)) (by intros; first | exact hK _ | (exfalso; simp only [e100, e97] at *; first | contradiction | omega)) (by intros; first | exact hK _ | (exfalso; simp only [e100, e97] at *; first | contradiction | omega))
  · have hi : Hi F (rfc F 1) G G := rfc_h
    have e100 := hi.1 100 (by decide)
    have e97 := hi.1 97 (by decide)
    have z := (nine.2 q).1
    exact q_194 (fun q => by rw [e97] at q; exact Hi_MV hi (hM q)) (by intros; first | exact hK _ | (exfalso; simp only [e100, e97] at *; first | contradiction | omega)) (by intros; first | exact hK _ | (exfalso; simp only [e100, e97] at *; first | contradiction | omega)) (by intros; first | exact hK _ | (exfalso; simp only [e100, e97] at *; first | contradiction | omega)) (by intros; first | exact hK _ | (exfalso; simp only [e100, e97] at *; first | contradiction | omega))
  · have e100 := hi.1 100 (by decide)
    have e97 := hi.1 97 (by decide)
    have e112 := hi.1 112 (by decide)
    have eL := Hi_L hi
    have eB : cBs F1 = cBs F := by unfold cBs; rw [e100, e112, eL]
    have hz : piF (zF F1) = piF F := (pi_e ⟨z_n (by decide), z_n (by decide), z_f (by decide), z_n (by decide), z_n (by decide), z_n (by decide), z_n (by decide)⟩).trans (Hi_pi hi)
    have efWo : sWo F1 = sWo F := by rw [← pi_Wo F1, (Hi_pi hi), pi_Wo]
    exact q_194 (fun _ => mv) (by intros; exfalso; simp only [e100, e97] at *; first | contradiction | omega) (by intros; exfalso; simp only [e100, e97] at *; first | contradiction | omega) (by intros; exfalso; simp only [e100, e97] at *; first | contradiction | omega) (fun _ _ _ F2 G2 qp => hK F2 G2 _ qp (by simp only [e100, e112, eL, eB, e97, efWo]; first | rfl | done))
set_option maxRecDepth 100000 in
theorem law_43 {K : Int → FS → FI → FJ → Prop} {sc : Nat → Int} {n0 : Nat} {x1 x2 : Int} {S : FS} {F : FI} {G : FJ} (hB : BI sc n0 S F G) (hk : ∀ v S1 F1 G1, Rd sc n0 v S1 F1 G1 (fun K2 => calI 9 171 [.inr (.inr (.inl 97)), .inl x1, .inl x2] (mm S1 F1 G1) K2 nof) → K v S1 F1 G1) : calI 9 338 [.inr (.inr (.inl 1)), .inl x1, .inl x2, .inr (.inr (.inl 128))] (mm S F G) K nof := by
  obtain ⟨a, a', b, b', h⟩ := hB
  have nine := BI_9 h
  have hM := BI_MV h
  refine sg_338_0 (p_44 (l := F 100) (s := F 112) (w := mL F) (F0 := F) ⟨rfl, rfl, rfl⟩ ⟨h.1.1.1, h.1.2.2.1⟩ (fun q => (nine.2 q).2) (fun q => ex_3 ⟨_, _, _, rfl, hk 3 _ _ _ (rd_rf h (by decide) (fun K2 hK => ?_))⟩) (fun q  n => ex_0 ⟨_, _, _, rfl, hk 1 _ _ _ (rd_rf h (by decide) (fun K2 hK => ?_))⟩) (fun q c1 c2 n => ex_2 ⟨_, _, _, rfl, hk 2 _ _ _ (rd_rf h (by decide) (fun K2 hK => ?_))⟩) (fun q c1 c2 c3 S1 F1 G1 y qc => ⟨_, _, _, rfl, hk 0 _ _ _ (rd_ok h (nine.2 q).1 y qc (fun hi mv n1 K2 hK => ?_))⟩))
  · have hi : Hi F (rfc F 3) G G := rfc_h
    have e100 := hi.1 100 (by decide)
    have e97 := hi.1 97 (by decide)
    have z := nine.1.mp q
    exact q_171 (fun q => by rw [e97] at q; exact Hi_MV hi (hM q)) (by intros; first | exact hK _ | (exfalso; simp only [e100, e97] at *; first | contradiction | omega)) (by intros; first | exact hK _ | (exfalso; simp only [e100, e97] at *; first | contradiction | omega)) (by intros; first | exact hK _ | (exfalso; simp only [e100, e97] at *; first | contradiction | omega)) (by intros; first | exact hK _ | (exfalso; simp only [e100, e97] at *; first | contradiction | omega))
  · have hi : Hi F (rfc F 0) G G := rfc_h
    have e100 := hi.1 100 (by decide)
    have e97 := hi.1 97 (by decide)
    have z := (nine.2 q).1
    exact q_171 (fun q => by rw [e97] at q; exact Hi_MV hi (hM q)) (by intros; first | exact hK _ | (exfalso; simp only [e100, e97] at *; first | contradiction | omega)) (by intros; first | exact hK _ | (exfalso; simp only [e100, e97] at *; first | contradiction | omega)) (by intros; first | exact hK _ | (exfalso; simp only [e100, e97] at *; first | contradiction | omega)) (by intros; first | exact hK _ | (exfalso; simp only [e100, e97] at *; first | contradiction | omega))
  · have hi : Hi F (rfc F 2) G G := rfc_h
    have e100 := hi.1 100 (by decide)
    have e97 := hi.1 97 (by decide)
    have z := (nine.2 q).1
    exact q_171 (fun q => by rw [e97] at q; exact Hi_MV hi (hM q)) (by intros; first | exact hK _ | (exfalso; simp only [e100, e97] at *; first | contradiction | omega)) (by intros; first | exact hK _ | (exfalso; simp only [e100, e97] at *; first | contradiction | omega)) (by intros; first | exact hK _ | (exfalso; simp only [e100, e97] at *; first | contradiction | omega)) (by intros; first | exact hK _ | (exfalso; simp only [e100, e97] at *; first | contradiction | omega))
  · have e100 := hi.1 100 (by decide)
    have e97 := hi.1 97 (by decide)
    have e112 := hi.1 112 (by decide)
    have eL := Hi_L hi
    have eB : cBs F1 = cBs F := by unfold cBs; rw [e100, e112, eL]
    have hz : piF (zF F1) = piF F := (pi_e ⟨z_n (by decide), z_n (by decide), z_f (by decide), z_n (by decide), z_n (by decide), z_n (by decide), z_n (by decide)⟩).trans (Hi_pi hi)
    have efSwA : ∀ (p : Int) (q : Int) K, sSwA (zF F1) p q K = sSwA F p q K := fun p q K => by rw [← pi_SwA (zF F1), hz, pi_SwA]
    exact q_171 (fun _ => mv) (by intros; exfalso; simp only [e100, e97] at *; first | contradiction | omega) (by intros; exfalso; simp only [e100, e97] at *; first | contradiction | omega) (by intros; exfalso; simp only [e100, e97] at *; first | contradiction | omega) (fun _ _ _ _ F2 G2 qp => hK F2 G2 _ qp (by simp only [e100, e112, eL, eB, e97, efSwA]; first | rfl | done))
set_option maxRecDepth 100000 in
theorem law_44 {K : Int → FS → FI → FJ → Prop} {sc : Nat → Int} {n0 : Nat} {S : FS} {F : FI} {G : FJ} (hB : BI sc n0 S F G) (hk : ∀ v S1 F1 G1, Rd sc n0 v S1 F1 G1 (fun K2 => calL 7 193 [.inr (.inr (.inl 97))] (mm S1 F1 G1) K2 nof) → K v S1 F1 G1) : calI 8 339 [.inr (.inr (.inl 1)), .inr (.inr (.inl 128))] (mm S F G) K nof := by
  obtain ⟨a, a', b, b', h⟩ := hB
  have nine := BI_9 h
  have hM := BI_MV h
  refine sg_339_0 (p_45 (l := F 100) (s := F 112) (w := mL F) ⟨h.1.1.1, h.1.2.2.1⟩ (fun q => (nine.2 q).2) (fun q => ex_3 ⟨_, _, _, rfl, hk 1 _ _ _ (rd_rf h (by decide) (fun K2 hK => ?_))⟩) (fun q  S1 F1 G1 y qc => ⟨_, _, _, rfl, hk 0 _ _ _ (rd_ok h (nine.2 q).1 y qc (fun hi mv n1 K2 hK => ?_))⟩))
  · have hi : Hi F (rfc F 3) G G := rfc_h
    have e100 := hi.1 100 (by decide)
    have e97 := hi.1 97 (by decide)
    have z := nine.1.mp q
    exact q_193 (fun q => by rw [e97] at q; exact Hi_MV hi (hM q)) (by intros; first | exact hK _ | (exfalso; simp only [e100, e97] at *; first | contradiction | omega)) (by intros; first | exact hK _ | (exfalso; simp only [e100, e97] at *; first | contradiction | omega))
  · have e100 := hi.1 100 (by decide)
    have e97 := hi.1 97 (by decide)
    have e112 := hi.1 112 (by decide)
    have eL := Hi_L hi
    have eB : cBs F1 = cBs F := by unfold cBs; rw [e100, e112, eL]
    have hz : piF (zF F1) = piF F := (pi_e ⟨z_n (by decide), z_n (by decide), z_f (by decide), z_n (by decide), z_n (by decide), z_n (by decide), z_n (by decide)⟩).trans (Hi_pi hi)
    exact q_193 (fun _ => mv) (by intros; exfalso; simp only [e100, e97] at *; first | contradiction | omega) (fun _  F2 G2 qp => hK F2 G2 _ qp (by simp only [e100, e112, eL, eB, e97]; first | rfl | done))
set_option maxRecDepth 100000 in
theorem law_45 {K : Int → FS → FI → FJ → Prop} {sc : Nat → Int} {n0 : Nat} {S : FS} {F : FI} {G : FJ} (hB : BI sc n0 S F G) (hk : ∀ v S1 F1 G1, Rd sc n0 v S1 F1 G1 (fun K2 => calI 7 185 [.inr (.inr (.inl 97))] (mm S1 F1 G1) K2 nof) → K v S1 F1 G1) : calI 8 340 [.inr (.inr (.inl 1)), .inr (.inr (.inl 128))] (mm S F G) K nof := by
  obtain ⟨a, a', b, b', h⟩ := hB
  have nine := BI_9 h
  have hM := BI_MV h
  refine sg_340_0 (p_46 (l := F 100) (s := F 112) (w := mL F) (F0 := F) ⟨rfl, rfl, rfl⟩ ⟨h.1.1.1, h.1.2.2.1⟩ (fun q => (nine.2 q).2) (fun q => ex_3 ⟨_, _, _, rfl, hk 1 _ _ _ (rd_rf h (by decide) (fun K2 hK => ?_))⟩) (fun q  S1 F1 G1 y qc => ⟨_, _, _, rfl, hk 0 _ _ _ (rd_ok h (nine.2 q).1 y qc (fun hi mv n1 K2 hK => ?_))⟩))
  · have hi : Hi F (rfc F 3) G G := rfc_h
    have e100 := hi.1 100 (by decide)
    have e97 := hi.1 97 (by decide)
    have z := nine.1.mp q
    exact q_185 (fun q => by rw [e97] at q; exact Hi_MV hi (hM q)) (by intros; first | exact hK _ | (exfalso; simp only [e100, e97] at *; first | contradiction | omega)) (by intros; first | exact hK _ | (exfalso; simp only [e100, e97] at *; first | contradiction | omega))
  · have e100 := hi.1 100 (by decide)
    have e97 := hi.1 97 (by decide)
    have e112 := hi.1 112 (by decide)
    have eL := Hi_L hi
    have eB : cBs F1 = cBs F := by unfold cBs; rw [e100, e112, eL]
    have hz : piF (zF F1) = piF F := (pi_e ⟨z_n (by decide), z_n (by decide), z_f (by decide), z_n (by decide), z_n (by decide), z_n (by decide), z_n (by decide)⟩).trans (Hi_pi hi)
    have efSu : sSu F1 = sSu F := by rw [← pi_Su F1, (Hi_pi hi), pi_Su]
    exact q_185 (fun _ => mv) (by intros; exfalso; simp only [e100, e97] at *; first | contradiction | omega) (fun _  F2 G2 qp => hK F2 G2 _ qp (by simp only [e100, e112, eL, eB, e97, efSu]; first | rfl | done))
