/-! ===== what is told and set, code by code ===== -/
theorem BI_num {sc : Nat → Int} {n0 : Nat} {S : FS} {F : FI} {G : FJ} {a a' b b' : Nat} (h : BIa sc n0 S F G a a' b b') : (F a 9 = F 100 0 ∧ F a 10 = F 100 1 ∧ F a 11 = F 100 2) ∧ (0 ≤ F 100 0 ∧ F 100 0 ≤ 12) ∧ (0 ≤ F 100 1 ∧ F 100 1 ≤ 24) ∧ (0 ≤ F 100 2 ∧ F 100 2 ≤ 5) := by
  obtain ⟨p, tx, s, t2, r2, l2, cs, kn, gb, sx, pr, im, ld⟩ := h
  rcases ld with ⟨n1, n2, n3⟩ | ⟨d1, d2⟩
  · rw [n2 9 (by decide) (by decide), n2 10 (by decide) (by decide), n2 11 (by decide) (by decide), n3 0 (by decide), n3 1 (by decide), n3 2 (by decide)]
    exact ⟨⟨rfl, rfl, rfl⟩, by decide, by decide, by decide⟩
  · have hv := d2.2.2.2.1
    have hl := d2.2.2.2.2.2.2.1.1
    exact ⟨⟨hl.1, hl.2.1, hl.2.2.1⟩, ⟨by have := hv.1; omega, hv.1.2⟩, hv.2.1, ⟨by have := hv.2.2.1; omega, hv.2.2.1.2⟩⟩
theorem BI_LR {sc : Nat → Int} {n0 : Nat} {S : FS} {F : FI} {G : FJ} {a a' b b' : Nat} (h : BIa sc n0 S F G a a' b b') (hn : F 97 12 ≠ 0) : LV (F 100) ∧ LR F G a (F 100) := by
  obtain ⟨p, tx, s, t2, r2, l2, cs, kn, gb, sx, pr, im, ld⟩ := h
  rcases ld with ⟨n1, n2, n3⟩ | ⟨d1, d2⟩
  · exact absurd n1 hn
  · exact ⟨d2.2.2.2.1, d2.2.2.2.2.2.2.1⟩
theorem BI_z {sc : Nat → Int} {n0 : Nat} {S : FS} {F : FI} {G : FJ} {a a' b b' : Nat} (h : BIa sc n0 S F G a a' b b') : BIa sc n0 S (zF F) G a a' b b' ∧ zF F 97 0 = 0 := ⟨BI_upd h (fun c _ h2 _ => z_n h2) (fun i hi => z_f hi) (fun i hi => by rw [z_n (by decide), z_n (by decide)]; exact h.2.2.2.2.1 i hi), z_0⟩
/-- nothing changes but the answer -/
theorem rd_pl {sc : Nat → Int} {n0 : Nat} {S : FS} {F : FI} {G : FJ} {a a' b b' : Nat} {v : Int} {cr : (Int → FS → FI → FJ → Prop) → Prop} (h : BIa sc n0 S F G a a' b b') (run : ∀ K2 : Int → FS → FI → FJ → Prop, (∀ v2, v2 = v → K2 v2 S (zF F) (u2 G 128 0 v)) → cr K2) : Rd sc n0 0 S F (u2 G 128 0 v) cr := by
  have h2 := BI_out v h
  refine ⟨h2.2.2.1.1, ⟨h2.2.2.1.2, rfl⟩, fun K2 hk => run K2 (fun v2 ev => ?_)⟩
  exact hk v2 _ _ _ ⟨a, a', b, b', (BI_z h2).1⟩ (BI_z h2).2 (fun _ => by rw [u2_s, ev])
theorem QP_z {F : FI} {G : FJ} (h : MV F G) : QP F (zF F) G G := ⟨PM_r, (MV_z h).2.2.2.1, (MV_z h).2.2.2.2⟩
set_option maxRecDepth 100000 in
theorem law_4 {K : Int → FS → FI → FJ → Prop} {sc : Nat → Int} {n0 : Nat} {x1 : Int} {S : FS} {F : FI} {G : FJ} (hB : BI sc n0 S F G) (hk : ∀ v S1 F1 G1, Rd sc n0 v S1 F1 G1 (fun K2 => calI 1 113 [.inr (.inr (.inl 97)), .inl x1] (mm S1 F1 G1) K2 nof) → K v S1 F1 G1) : calI 2 301 [.inr (.inr (.inl 1)), .inl x1, .inr (.inr (.inl 128))] (mm S F G) K nof := by
  obtain ⟨a, a', b, b', h⟩ := hB
  have hM := BI_MV h
  have w5 : F b 5 = F 97 13 := h.2.2.2.2.2.1.2.1.1
  have e12 : (F 97 12 = 0 → F a 12 = 0) ∧ (F 97 12 ≠ 0 → F a 12 = F 100 3) := by
    have ld := h.2.2.2.2.2.2.2.2.2.2.2.2
    rcases ld with ⟨n1, n2, n3⟩ | ⟨d1, d2⟩
    · exact ⟨fun _ => n2 12 (by decide) (by decide), fun q => absurd n1 q⟩
    · exact ⟨fun q => absurd q d1, fun _ => d2.2.2.2.2.2.2.1.1.2.2.2.1⟩
  have b12 : 0 ≤ F a 12 ∧ F a 12 ≤ 24 := by
    by_cases q : F 97 12 = 0
    · rw [e12.1 q]; decide
    · rw [e12.2 q]
      have := (hM q).1.2.2.2.1
      omega
  have hf : ∀ x : Nat, (x : Int) < F a 12 → F (a + 5) x = F (a + 5) x ∧ 0 ≤ F (a + 5) x ∧ F (a + 5) x ≤ 1 := fun x hx => by
    by_cases q : F 97 12 = 0
    · have := e12.1 q
      omega
    · have := (BI_LR h q).2.2.2.2.1 x (by omega) (by omega)
      rw [show ((x : Int)).toNat = x by omega] at this
      rw [this]
      have := sSy_01 (F 100) x
      omega
  refine sg_301_0 (p_5 (f := F (a + 5)) h.1.1.1 h.1.2.1.1 h.1.2.2.1 h.1.2.2.2.2.1 b12.1 b12.2 hf (fun n => ex_2 ⟨_, _, _, rfl, hk 1 _ _ _ (rd_rf h (by decide) (fun K2 hK => ?_))⟩) (fun A => ⟨_, _, _, rfl, hk 0 _ _ _ (rd_pl h (fun K2 hK => ?_))⟩))
  · have hi : Hi F (rfc F 2) G G := rfc_h
    exact q_113 (fun q => by rw [hi.1 97 (by decide)] at q; rw [hi.1 100 (by decide)]; exact (hM q).1) (fun _ => hK _) (fun A => absurd A n)
  · refine q_113 (fun q => (hM q).1) (fun n => absurd A n) (fun _ => hK _ ?_)
    unfold sTold
    by_cases q8 : x1 = 8
    · rw [if_pos q8, if_pos q8, w5]
    rw [if_neg q8, if_neg q8]
    by_cases q : F 97 12 = 0
    · rw [if_pos q]
      have n2 : ∀ i, 9 ≤ i → i ≤ 15 → F a i = 0 := by
        have ld := h.2.2.2.2.2.2.2.2.2.2.2.2
        rcases ld with ⟨n1, n2, n3⟩ | ⟨d1, d2⟩
        · exact n2
        · exact absurd q d1
      by_cases q7 : x1 = 7
      · rw [if_pos q7, e12.1 q]
        rfl
      · rw [if_neg q7, n2 _ (by omega) (by omega)]
    · rw [if_neg q]
      have hl := (BI_LR h q).2
      have hv := (BI_LR h q).1
      by_cases q7 : x1 = 7
      · rw [if_pos q7, if_neg (by omega), e12.2 q]
        have l3 := hv.2.2.2.1
        have : ∀ m : Nat, (m : Int) ≤ 24 → aS (fun h => sSy (F 100) h) m = aS (F (a + 5)) m := by
          intro m
          induction m with
          | zero => intro _; rfl
          | succ m ih =>
            intro hm
            have := hl.2.2.2.1 m (by omega) (by omega)
            rw [show ((m : Int)).toNat = m by omega] at this
            show aS _ m + _ = aS _ m + _
            rw [ih (by omega), this]
        exact this _ (by omega)
      · rw [if_neg q7, if_pos (by omega)]
        obtain ⟨⟨g1, g2, g3, g4, g5, g6, g7⟩, -⟩ := hl
        have e : x1 = 0 ∨ x1 = 1 ∨ x1 = 2 ∨ x1 = 3 ∨ x1 = 4 ∨ x1 = 5 ∨ x1 = 6 := by omega
        rcases e with e | e | e | e | e | e | e <;> subst e
        · exact g1.symm
        · exact g2.symm
        · exact g3.symm
        · exact g4.symm
        · exact g5.symm
        · exact g6.symm
        · exact g7.symm
set_option maxRecDepth 100000 in
theorem law_5 {K : Int → FS → FI → FJ → Prop} {sc : Nat → Int} {n0 : Nat} {x1 x2 : Int} {S : FS} {F : FI} {G : FJ} (hB : BI sc n0 S F G) (hk : ∀ v S1 F1 G1, Rd sc n0 v S1 F1 G1 (fun K2 => calI 2 115 [.inr (.inr (.inl 97)), .inl x1, .inl x2] (mm S1 F1 G1) K2 nof) → K v S1 F1 G1) : calI 2 302 [.inr (.inr (.inl 1)), .inl x1, .inl x2, .inr (.inr (.inl 128))] (mm S F G) K nof := by
  obtain ⟨a, a', b, b', h⟩ := hB
  obtain ⟨⟨m0, m1, m2⟩, b0, b1, b2⟩ := BI_num h
  have r1 : (rfc F 1) 100 = F 100 := rfc_h (G := G).1 100 (by decide)
  have r2 : (rfc F 2) 100 = F 100 := rfc_h (G := G).1 100 (by decide)
  refine sg_302_0 (p_6 h.1.1.1 h.1.2.2.1 (by omega) (fun n => ex_1 ⟨_, _, _, rfl, hk 1 _ _ _ (rd_rf h (by decide) (fun K2 hK => ?_))⟩) (fun A n => ex_2 ⟨_, _, _, rfl, hk 2 _ _ _ (rd_rf h (by decide) (fun K2 hK => ?_))⟩) (fun A A2 => ⟨_, _, _, rfl, hk 0 _ _ _ (rd_pl h (fun K2 hK => ?_))⟩))
  · exact q_115 (by rw [r1]; exact b1) (fun _ => hK _) (fun A => by rw [r1] at A; omega) (fun A => by rw [r1] at A; omega)
  · exact q_115 (by rw [r2]; exact b1) (fun n => by rw [r2] at n; omega) (fun _ _ => hK _) (fun _ A => absurd A n)
  · refine q_115 b1 (fun n => by omega) (fun _ n => absurd A2 n) (fun _ _ => hK _ ?_)
    have q : F 97 12 ≠ 0 := fun q => by
      have ld := h.2.2.2.2.2.2.2.2.2.2.2.2
      rcases ld with ⟨n1, n2, n3⟩ | ⟨d1, d2⟩
      · have := n2 10 (by decide) (by decide); omega
      · exact d1 q
    exact ((BI_LR h q).2.2.2.1 x1 x2 A.1 (by omega) A2.1 A2.2).symm
set_option maxRecDepth 100000 in
theorem law_6 {K : Int → FS → FI → FJ → Prop} {sc : Nat → Int} {n0 : Nat} {x1 x2 : Int} {S : FS} {F : FI} {G : FJ} (hB : BI sc n0 S F G) (hk : ∀ v S1 F1 G1, Rd sc n0 v S1 F1 G1 (fun K2 => calI 2 116 [.inr (.inr (.inl 97)), .inl x1, .inl x2] (mm S1 F1 G1) K2 nof) → K v S1 F1 G1) : calI 2 303 [.inr (.inr (.inl 1)), .inl x1, .inl x2, .inr (.inr (.inl 128))] (mm S F G) K nof := by
  obtain ⟨a, a', b, b', h⟩ := hB
  obtain ⟨⟨m0, m1, m2⟩, b0, b1, b2⟩ := BI_num h
  have r1 : (rfc F 0) 100 = F 100 := rfc_h (G := G).1 100 (by decide)
  have r2 : (rfc F 2) 100 = F 100 := rfc_h (G := G).1 100 (by decide)
  refine sg_303_0 (p_7 h.1.1.1 h.1.2.2.1 (by omega) (by omega) (fun n => ex_0 ⟨_, _, _, rfl, hk 1 _ _ _ (rd_rf h (by decide) (fun K2 hK => ?_))⟩) (fun A n => ex_2 ⟨_, _, _, rfl, hk 2 _ _ _ (rd_rf h (by decide) (fun K2 hK => ?_))⟩) (fun A A2 => ⟨_, _, _, rfl, hk 0 _ _ _ (rd_pl h (fun K2 hK => ?_))⟩))
  · exact q_116 (by rw [r1]; exact ⟨b0, b2⟩) (fun _ => hK _) (fun A => by rw [r1] at A; omega) (fun A => by rw [r1] at A; omega)
  · exact q_116 (by rw [r2]; exact ⟨b0, b2⟩) (fun n => by rw [r2] at n; omega) (fun _ _ => hK _) (fun _ A => by rw [r2] at A; omega)
  · refine q_116 ⟨b0, b2⟩ (fun n => by omega) (fun _ n => by omega) (fun _ _ => hK _ ?_)
    have q : F 97 12 ≠ 0 := fun q => by
      have ld := h.2.2.2.2.2.2.2.2.2.2.2.2
      rcases ld with ⟨n1, n2, n3⟩ | ⟨d1, d2⟩
      · have := n2 11 (by decide) (by decide); omega
      · exact d1 q
    have hl := (BI_LR h q).2
    by_cases z : x2 = -1
    · rw [if_pos z, if_pos z]
      exact (hl.2.2.2.2.1 x1 A.1 (by omega)).symm
    · rw [if_neg z, if_neg z]
      exact (hl.2.2.2.2.2.1 x1 x2 A.1 (by omega) (by omega) (by omega)).symm
set_option maxRecDepth 100000 in
theorem law_11 {K : Int → FS → FI → FJ → Prop} {sc : Nat → Int} {n0 : Nat} {x1 : Int} {S : FS} {F : FI} {G : FJ} (hB : BI sc n0 S F G) (hk : ∀ v S1 F1 G1, Rd sc n0 v S1 F1 G1 (fun K2 => calI 2 122 [.inr (.inr (.inl 97)), .inl x1] (mm S1 F1 G1) K2 nof) → K v S1 F1 G1) : calI 2 308 [.inr (.inr (.inl 1)), .inl x1, .inr (.inr (.inl 128))] (mm S F G) K nof := by
  obtain ⟨a, a', b, b', h⟩ := hB
  have nine := BI_9 h
  have hM := BI_MV h
  refine sg_308_0 (p_12 (l := F 100) (s := F 112) (w := mL F) ⟨h.1.1.1, h.1.2.2.1⟩ (fun q => (nine.2 q).2) (fun q => ex_3 ⟨_, _, _, rfl, hk 2 _ _ _ (rd_rf h (by decide) (fun K2 hK => ?_))⟩) (fun q n => ex_2 ⟨_, _, _, rfl, hk 1 _ _ _ (rd_rf h (by decide) (fun K2 hK => ?_))⟩) (fun q A => ⟨_, _, _, rfl, hk 0 _ _ _ (rd_pl h (fun K2 hK => ?_))⟩))
  · have hi : Hi F (rfc F 3) G G := rfc_h
    have e97 := hi.1 97 (by decide)
    have z := nine.1.mp q
    exact q_122 (fun q => by rw [e97] at q; exact Hi_MV hi (hM q)) (fun _ => hK _) (fun n => absurd (by rw [e97]; exact z) n) (fun n => absurd (by rw [e97]; exact z) n)
  · have hi : Hi F (rfc F 2) G G := rfc_h
    have e97 := hi.1 97 (by decide)
    have z := (nine.2 q).1
    exact q_122 (fun q => by rw [e97] at q; exact Hi_MV hi (hM q)) (fun n => absurd (by rw [e97] at n; exact n) z) (fun _ _ => hK _) (fun _ A => absurd A n)
  · have z := (nine.2 q).1
    exact q_122 (G := u2 G 128 0 _) (fun q => Hi_MV ⟨fun _ _ => rfl, fun c _ h2 => u2_o h2⟩ (hM q)) (fun n => absurd n z) (fun _ n => absurd A n) (fun _ _ => hK _ rfl)
set_option maxRecDepth 100000 in
theorem law_15 {K : Int → FS → FI → FJ → Prop} {sc : Nat → Int} {n0 : Nat} {x1 : Int} {S : FS} {F : FI} {G : FJ} (hB : BI sc n0 S F G) (hk : ∀ v S1 F1 G1, Rd sc n0 v S1 F1 G1 (fun K2 => calL 7 153 [.inr (.inr (.inl 97)), .inl x1] (mm S1 F1 G1) K2 nof) → K v S1 F1 G1) : calI 2 312 [.inr (.inr (.inl 1)), .inl x1, .inr (.inr (.inl 128))] (mm S F G) K nof := by
  obtain ⟨a, a', b, b', h⟩ := hB
  have nine := BI_9 h
  have hM := BI_MV h
  refine sg_312_0 (p_16 (l := F 100) (s := F 112) (w := mL F) ⟨h.1.1.1, h.1.2.2.1⟩ (fun q => (nine.2 q).2) (fun q => ex_3 ⟨_, _, _, rfl, hk 2 _ _ _ (rd_rf h (by decide) (fun K2 hK => ?_))⟩) (fun q n => ex_2 ⟨_, _, _, rfl, hk 1 _ _ _ (rd_rf h (by decide) (fun K2 hK => ?_))⟩) (fun q A => ⟨_, _, _, rfl, hk 0 _ _ _ (rd_ok h (nine.2 q).1 (nine.2 q).2 QC_r (fun hi mv n1 K2 hK => ?_))⟩))
  · have hi : Hi F (rfc F 3) G G := rfc_h
    have e97 := hi.1 97 (by decide)
    have z := nine.1.mp q
    exact q_153 (fun q => by rw [e97] at q; exact Hi_MV hi (hM q)) (fun _ => hK _) (fun n => absurd (by rw [e97]; exact z) n) (fun n => absurd (by rw [e97]; exact z) n)
  · have hi : Hi F (rfc F 2) G G := rfc_h
    have e97 := hi.1 97 (by decide)
    have e100 := hi.1 100 (by decide)
    have z := (nine.2 q).1
    exact q_153 (fun q => by rw [e97] at q; exact Hi_MV hi (hM q)) (fun n => absurd (by rw [e97] at n; exact n) z) (fun _ _ => hK _) (fun _ A => absurd (by rw [e100] at A; exact A) n)
  · exact q_153 (fun _ => mv) (fun n => absurd n n1) (fun _ n => absurd A n) (fun _ _ F2 G2 qp => hK F2 G2 _ qp rfl)
set_option maxRecDepth 100000 in
theorem law_30 {K : Int → FS → FI → FJ → Prop} {sc : Nat → Int} {n0 : Nat} {x1 x2 x3 : Int} {S : FS} {F : FI} {G : FJ} (hB : BI sc n0 S F G) (hk : ∀ v S1 F1 G1, Rd sc n0 v S1 F1 G1 (fun K2 => calI 7 176 [.inr (.inr (.inl 97)), .inl x1, .inl x2, .inl x3] (mm S1 F1 G1) K2 nof) → K v S1 F1 G1) : calI 6 325 [.inr (.inr (.inl 1)), .inl x1, .inl x2, .inl x3, .inr (.inr (.inl 128))] (mm S F G) K nof := by
  obtain ⟨a, a', b, b', h⟩ := hB
  have nine := BI_9 h
  have hM := BI_MV h
  refine sg_325_0 (p_31 (l := F 100) (s := F 112) (w := mL F) (F0 := F) ⟨rfl, rfl, rfl⟩ ⟨h.1.1.1, h.1.2.2.1⟩ (fun q => (nine.2 q).2) (fun q => ex_3 ⟨_, _, _, rfl, hk 2 _ _ _ (rd_rf h (by decide) (fun K2 hK => ?_))⟩) (fun q n => ex_2 ⟨_, _, _, rfl, hk 1 _ _ _ (rd_rf h (by decide) (fun K2 hK => ?_))⟩) (fun q A S1 F1 G1 v y qc ev => ?_))
  · have hi : Hi F (rfc F 3) G G := rfc_h
    have e97 := hi.1 97 (by decide)
    have z := nine.1.mp q
    exact q_176 (fun q => by rw [e97] at q; exact Hi_MV hi (hM q)) (fun _ => hK _) (fun n => absurd (by rw [e97]; exact z) n) (fun n => absurd (by rw [e97]; exact z) n)
  · have hi : Hi F (rfc F 2) G G := rfc_h
    have e97 := hi.1 97 (by decide)
    have e100 := hi.1 100 (by decide)
    have z := (nine.2 q).1
    exact q_176 (fun q => by rw [e97] at q; exact Hi_MV hi (hM q)) (fun n => absurd (by rw [e97] at n; exact n) z) (fun _ _ => hK _) (fun _ A => absurd (by rw [e100] at A; exact A) n)
  · have fin : ∀ v', ((v' = 1 ∧ sTrp F x2 x1 x3) ∨ (v' = 0 ∧ ¬ sTrp F x2 x1 x3)) → Rd sc n0 0 S1 F1 (u2 G1 128 0 v') (fun K2 => calI 7 176 [.inr (.inr (.inl 97)), .inl x1, .inl x2, .inl x3] (mm S1 F1 (u2 G1 128 0 v')) K2 nof) := by
      intro v' ev
      refine rd_ok h (nine.2 q).1 y qc (fun hi mv n1 K2 hK => ?_)
      have e100 := hi.1 100 (by decide)
      have hz : piF (zF F1) = piF F := (pi_e ⟨z_n (by decide), z_n (by decide), z_f (by decide), z_n (by decide), z_n (by decide), z_n (by decide), z_n (by decide)⟩).trans (Hi_pi hi)
      have et : sTrp (zF F1) = sTrp F := by rw [← pi_Trp (zF F1), hz, pi_Trp]
      refine q_176 (fun _ => mv) (fun n => absurd n n1) (fun _ n => absurd A (by rw [e100] at n; exact n)) (fun _ _ F2 G2 v2 qp ev2 => hK F2 G2 v2 qp ?_)
      rw [et] at ev2
      rcases ev with ⟨e1, e2⟩ | ⟨e1, e2⟩ <;> rcases ev2 with ⟨e3, e4⟩ | ⟨e3, e4⟩
      · rw [e1, e3]
      · exact absurd e2 e4
      · exact absurd e4 e2
      · rw [e1, e3]
    rcases ev with ⟨e1, e2⟩ | ⟨e1, e2⟩ <;> subst e1
    · exact cd_f (by decide) ⟨_, _, _, rfl, hk 0 _ _ _ (fin 1 (Or.inl ⟨rfl, e2⟩))⟩
    · exact cd_t rfl ⟨_, _, _, rfl, hk 0 _ _ _ (fin 0 (Or.inr ⟨rfl, e2⟩))⟩
set_option maxRecDepth 100000 in
theorem law_37 {K : Int → FS → FI → FJ → Prop} {sc : Nat → Int} {n0 : Nat} {x1 x2 x3 : Int} {S : FS} {F : FI} {G : FJ} (hB : BI sc n0 S F G) (hk : ∀ v S1 F1 G1, Rd sc n0 v S1 F1 G1 (fun K2 => calL 9 191 [.inr (.inr (.inl 97)), .inl x1, .inl x2, .inl x3] (mm S1 F1 G1) K2 nof) → K v S1 F1 G1) : calI 9 332 [.inr (.inr (.inl 1)), .inl x1, .inl x2, .inl x3, .inr (.inr (.inl 128))] (mm S F G) K nof := by
  obtain ⟨a, a', b, b', h⟩ := hB
  have nine := BI_9 h
  have hM := BI_MV h
  refine sg_332_0 (p_38 (l := F 100) (s := F 112) (w := mL F) (F0 := F) ⟨rfl, rfl, rfl⟩ ⟨h.1.1.1, h.1.2.2.1⟩ (fun q => (nine.2 q).2) (fun q => ex_3 ⟨_, _, _, rfl, hk 3 _ _ _ (rd_rf h (by decide) (fun K2 hK => ?_))⟩) (fun q n => ex_0 ⟨_, _, _, rfl, hk 1 _ _ _ (rd_rf h (by decide) (fun K2 hK => ?_))⟩) (fun q c1 n => ex_0 ⟨_, _, _, rfl, hk 1 _ _ _ (rd_rf h (by decide) (fun K2 hK => ?_))⟩) (fun q c1 c2 n => ex_2 ⟨_, _, _, rfl, hk 2 _ _ _ (rd_rf h (by decide) (fun K2 hK => ?_))⟩) (fun q c1 c2 c3 S1 F1 G1 y qc => ⟨_, _, _, rfl, hk 0 _ _ _ (rd_ok h (nine.2 q).1 y qc (fun hi mv n1 K2 hK => ?_))⟩))
  · have hi : Hi F (rfc F 3) G G := rfc_h
    have e97 := hi.1 97 (by decide)
    have z := nine.1.mp q
    exact q_191 (fun q => by rw [e97] at q; exact Hi_MV hi (hM q)) (fun _ => hK _) (fun n => absurd (by rw [e97]; exact z) n) (fun n => absurd (by rw [e97]; exact z) n) (fun n => absurd (by rw [e97]; exact z) n)
  · have hi : Hi F (rfc F 0) G G := rfc_h
    have e97 := hi.1 97 (by decide)
    have e100 := hi.1 100 (by decide)
    have z := (nine.2 q).1
    exact q_191 (fun q => by rw [e97] at q; exact Hi_MV hi (hM q)) (fun n => absurd (by rw [e97] at n; exact n) z) (fun _ _ => hK _) (fun _ A => by rw [e100] at A; omega) (fun _ A => by rw [e100] at A; omega)
  · have hi : Hi F (rfc F 0) G G := rfc_h
    have e97 := hi.1 97 (by decide)
    have e100 := hi.1 100 (by decide)
    have z := (nine.2 q).1
    exact q_191 (fun q => by rw [e97] at q; exact Hi_MV hi (hM q)) (fun n => absurd (by rw [e97] at n; exact n) z) (fun _ _ => hK _) (fun _ _ A => by rw [e100] at A; omega) (fun _ _ A => by rw [e100] at A; omega)
  · have hi : Hi F (rfc F 2) G G := rfc_h
    have e97 := hi.1 97 (by decide)
    have e100 := hi.1 100 (by decide)
    have z := (nine.2 q).1
    exact q_191 (fun q => by rw [e97] at q; exact Hi_MV hi (hM q)) (fun n => absurd (by rw [e97] at n; exact n) z) (fun _ n => by rw [e100] at n; omega) (fun _ _ _ _ => hK _) (fun _ _ _ A => absurd A n)
  · have e100 := hi.1 100 (by decide)
    have eG : sGn F1 = sGn F := by rw [← pi_Gn F1, Hi_pi hi, pi_Gn]
    have eB : cBs F1 = cBs F := by unfold cBs; rw [e100, hi.1 112 (by decide), Hi_L hi]
    refine q_191 (fun _ => mv) (fun n => absurd n n1) (fun _ n => by rw [e100] at n; omega) (fun _ _ _ n => absurd c3 n) (fun _ _ _ _ F2 G2 qp => hK F2 G2 _ qp ?_)
    rw [eG, eB]
