/-! ===== what is set, code by code: the calls ===== -/
set_option maxRecDepth 100000 in
theorem law_7 {K : Int → FS → FI → FJ → Prop} {sc : Nat → Int} {n0 : Nat} {x1 x2 : Int} {S : FS} {F : FI} {G : FJ} (hB : BI sc n0 S F G) (hk : ∀ v S1 F1 G1, Rd sc n0 v S1 F1 G1 (fun K2 => calI 2 117 [.inr (.inr (.inl 97)), .inl x1, .inl x2] (mm S1 F1 G1) K2 nof) → K v S1 F1 G1) : calI 2 304 [.inr (.inr (.inl 1)), .inl x1, .inl x2, .inr (.inr (.inl 128))] (mm S F G) K nof := by
  obtain ⟨a, a', b, b', h⟩ := hB
  obtain ⟨⟨m0, m1, m2⟩, b0, b1, b2⟩ := BI_num h
  have r0 : (rfc F 0) 100 = F 100 := rfc_h (G := G).1 100 (by decide)
  have r2 : (rfc F 2) 100 = F 100 := rfc_h (G := G).1 100 (by decide)
  have pr := h.2.2.2.2.2.2.2.2.2.2.1
  have sx := h.2.2.2.2.2.2.2.2.2.1
  refine sg_304_0 (p_8 h.1.1.1 h.1.2.2.1 (by omega) (fun n => ex_0 ⟨_, _, _, rfl, hk 1 _ _ _ (rd_rf h (by decide) (fun K2 hK => ?_))⟩) (fun A n => ex_2 ⟨_, _, _, rfl, hk 2 _ _ _ (rd_rf h (by decide) (fun K2 hK => ?_))⟩) (fun A A2 => ⟨_, _, _, rfl, hk 0 _ _ _ (rd_set (F2 := u2 (zF (u2 (u2 F 32 x1.toNat x2) 1 17 0)) 112 x1.toNat x2) h (fun h2 => BI_set1 h2 (Or.inl ⟨rfl, by omega, rfl⟩) (SX_u sx (by omega) (fun _ => A2) (by omega) (by omega) (by omega))) (by rw [u2_o (by decide), u2_o (by decide)]) (by rw [u2_o (by decide)]; exact z_0) (fun K2 hK => ?_))⟩))
  · exact q_117 (by rw [r0]; exact b2) (fun _ => hK _) (fun A => by rw [r0] at A; omega) (fun A => by rw [r0] at A; omega)
  · exact q_117 (by rw [r2]; exact b2) (fun n => by rw [r2] at n; omega) (fun _ _ => hK _) (fun _ A => absurd A n)
  · have e100 : (u2 (u2 F 32 x1.toNat x2) 1 17 0) 100 = F 100 := by rw [u2_o (by decide), u2_o (by decide)]
    have e112 : (u2 (u2 F 32 x1.toNat x2) 1 17 0) 112 = F 112 := by rw [u2_o (by decide), u2_o (by decide)]
    refine q_117 (by rw [e100]; exact b2) (fun n => by rw [e100] at n; omega) (fun _ n => absurd A2 n) (fun _ _ => hK _ ?_)
    rw [e112]
    exact (pr.1 x1 A.1 (by omega)).symm
set_option maxRecDepth 100000 in
theorem law_8 {K : Int → FS → FI → FJ → Prop} {sc : Nat → Int} {n0 : Nat} {x1 x2 : Int} {S : FS} {F : FI} {G : FJ} (hB : BI sc n0 S F G) (hk : ∀ v S1 F1 G1, Rd sc n0 v S1 F1 G1 (fun K2 => calI 2 118 [.inr (.inr (.inl 97)), .inl x1, .inl x2] (mm S1 F1 G1) K2 nof) → K v S1 F1 G1) : calI 2 305 [.inr (.inr (.inl 1)), .inl x1, .inl x2, .inr (.inr (.inl 128))] (mm S F G) K nof := by
  obtain ⟨a, a', b, b', h⟩ := hB
  obtain ⟨⟨m0, m1, m2⟩, b0, b1, b2⟩ := BI_num h
  have r2 : (rfc F 2) 100 = F 100 := rfc_h (G := G).1 100 (by decide)
  have pr := h.2.2.2.2.2.2.2.2.2.2.1
  have sx := h.2.2.2.2.2.2.2.2.2.1
  refine sg_305_0 (p_9 h.1.1.1 h.1.2.2.1 (fun n => ex_2 ⟨_, _, _, rfl, hk 1 _ _ _ (rd_rf h (by decide) (fun K2 hK => ?_))⟩) (fun A => ⟨_, _, _, rfl, hk 0 _ _ _ (rd_set (F2 := u2 (zF (u2 (u2 F 33 x1.toNat x2) 1 17 0)) 112 (5 + x1).toNat x2) h (fun h2 => BI_set1 h2 (Or.inr (Or.inl ⟨rfl, by omega, by omega⟩)) (SX_u sx (by omega) (by omega) (fun _ _ => by omega) (by omega) (by omega))) (by rw [u2_o (by decide), u2_o (by decide)]) (by rw [u2_o (by decide)]; exact z_0) (fun K2 hK => ?_))⟩))
  · exact q_118 (fun _ => hK _) (fun A => by rw [r2] at A; omega)
  · have e100 : (u2 (u2 F 33 x1.toNat x2) 1 17 0) 100 = F 100 := by rw [u2_o (by decide), u2_o (by decide)]
    have e112 : (u2 (u2 F 33 x1.toNat x2) 1 17 0) 112 = F 112 := by rw [u2_o (by decide), u2_o (by decide)]
    refine q_118 (fun n => by rw [e100] at n; omega) (fun _ => hK _ ?_)
    rw [e112]
    exact (pr.2.1 x1 A.1.1 (by omega)).symm
set_option maxRecDepth 100000 in
theorem law_9 {K : Int → FS → FI → FJ → Prop} {sc : Nat → Int} {n0 : Nat} {x1 x2 : Int} {S : FS} {F : FI} {G : FJ} (hB : BI sc n0 S F G) (hk : ∀ v S1 F1 G1, Rd sc n0 v S1 F1 G1 (fun K2 => calI 3 119 [.inr (.inr (.inl 97)), .inl x1, .inl x2] (mm S1 F1 G1) K2 nof) → K v S1 F1 G1) : calI 3 306 [.inr (.inr (.inl 1)), .inl x1, .inl x2, .inr (.inr (.inl 128))] (mm S F G) K nof := by
  obtain ⟨a, a', b, b', h⟩ := hB
  obtain ⟨⟨m0, m1, m2⟩, b0, b1, b2⟩ := BI_num h
  have r0 : (rfc F 0) 100 = F 100 := rfc_h (G := G).1 100 (by decide)
  have r2 : (rfc F 2) 100 = F 100 := rfc_h (G := G).1 100 (by decide)
  have pr := h.2.2.2.2.2.2.2.2.2.2.1
  have sx := h.2.2.2.2.2.2.2.2.2.1
  refine sg_306_0 (p_10 h.1.1.1 h.1.2.2.1 (by omega) (fun n => ex_0 ⟨_, _, _, rfl, hk 1 _ _ _ (rd_rf h (by decide) (fun K2 hK => ?_))⟩) (fun A n => ex_2 ⟨_, _, _, rfl, hk 2 _ _ _ (rd_rf h (by decide) (fun K2 hK => ?_))⟩) (fun A A2 => ⟨_, _, _, rfl, hk 0 _ _ _ (rd_set (F2 := u2 (zF (u2 (u2 F 34 x1.toNat x2) 1 17 0)) 112 (29 + x1).toNat x2) h (fun h2 => BI_set1 h2 (Or.inr (Or.inr (Or.inl ⟨rfl, by omega, by omega⟩))) (SX_u sx (by omega) (by omega) (by omega) (fun _ _ => by omega) (by omega))) (by rw [u2_o (by decide), u2_o (by decide)]) (by rw [u2_o (by decide)]; exact z_0) (fun K2 hK => ?_))⟩))
  · exact q_119 (by rw [r0]; exact b2) (fun _ => hK _) (fun A => by rw [r0] at A; omega) (fun A => by rw [r0] at A; omega)
  · exact q_119 (by rw [r2]; exact b2) (fun n => by rw [r2] at n; omega) (fun _ _ => hK _) (fun _ A => absurd A n)
  · have e100 : (u2 (u2 F 34 x1.toNat x2) 1 17 0) 100 = F 100 := by rw [u2_o (by decide), u2_o (by decide)]
    have e112 : (u2 (u2 F 34 x1.toNat x2) 1 17 0) 112 = F 112 := by rw [u2_o (by decide), u2_o (by decide)]
    refine q_119 (by rw [e100]; exact b2) (fun n => by rw [e100] at n; omega) (fun _ n => absurd A2 n) (fun _ _ => hK _ ?_)
    rw [e112]
    exact (pr.2.2.1 x1 A2.1 A2.2).symm
set_option maxRecDepth 100000 in
theorem law_10 {K : Int → FS → FI → FJ → Prop} {sc : Nat → Int} {n0 : Nat} {x1 : Int} {S : FS} {F : FI} {G : FJ} (hB : BI sc n0 S F G) (hk : ∀ v S1 F1 G1, Rd sc n0 v S1 F1 G1 (fun K2 => calI 1 120 [.inr (.inr (.inl 97)), .inl x1] (mm S1 F1 G1) K2 nof) → K v S1 F1 G1) : calI 2 307 [.inr (.inr (.inl 1)), .inl x1, .inr (.inr (.inl 128))] (mm S F G) K nof := by
  obtain ⟨a, a', b, b', h⟩ := hB
  have pr := h.2.2.2.2.2.2.2.2.2.2.1
  have sx := h.2.2.2.2.2.2.2.2.2.1
  refine sg_307_0 (p_11 (fun n => ex_2 ⟨_, _, _, rfl, hk 1 _ _ _ (rd_rf h (by decide) (fun K2 hK => ?_))⟩) (fun A => ⟨_, _, _, rfl, hk 0 _ _ _ (rd_set (F2 := u2 (zF (u2 (u2 F 31 7 x1) 1 17 0)) 112 53 x1) h (fun h2 => BI_set1 h2 (Or.inr (Or.inr (Or.inr ⟨rfl, rfl, rfl⟩))) (SX_u sx (by decide) (by omega) (by omega) (by omega) (fun _ => A))) (by rw [u2_o (by decide), u2_o (by decide)]) (by rw [u2_o (by decide)]; exact z_0) (fun K2 hK => ?_))⟩))
  · exact q_120 (fun _ => hK _) (fun A => absurd A n)
  · have e112 : (u2 (u2 F 31 7 x1) 1 17 0) 112 = F 112 := by rw [u2_o (by decide), u2_o (by decide)]
    refine q_120 (fun n => absurd A n) (fun _ => hK _ ?_)
    rw [e112]
    exact pr.2.2.2.1.symm
set_option maxRecDepth 100000 in
theorem law_19 {K : Int → FS → FI → FJ → Prop} {sc : Nat → Int} {n0 : Nat} {x1 x2 : Int} {S : FS} {F : FI} {G : FJ} (hB : BI sc n0 S F G) (hk : ∀ v S1 F1 G1, Rd sc n0 v S1 F1 G1 (fun K2 => calI 1 157 [.inr (.inr (.inl 97)), .inl x1, .inl x2] (mm S1 F1 G1) K2 nof) → K v S1 F1 G1) : calI 2 316 [.inr (.inr (.inl 1)), .inl x1, .inl x2, .inr (.inr (.inl 128))] (mm S F G) K nof := by
  obtain ⟨a, a', b, b', h⟩ := hB
  have pr := h.2.2.2.2.2.2.2.2.2.2.1
  have sx := h.2.2.2.2.2.2.2.2.2.1
  have r2 : (rfc F 2) 112 = F 112 := rfc_h (G := G).1 112 (by decide)
  refine sg_316_0 (p_20 (fun n => ex_2 ⟨_, _, _, rfl, hk 1 _ _ _ (rd_rf h (by decide) (fun K2 hK => ?_))⟩) (fun A => ⟨_, _, _, rfl, hk 0 _ _ _ (rd_pl h (fun K2 hK => ?_))⟩))
  · exact q_157 (fun q => by rw [r2] at q ⊢; exact (sx.2 q).2) (fun _ => hK _) (fun A => absurd A n)
  · refine q_157 (fun q => (sx.2 q).2) (fun n => absurd A n) (fun _ => hK _ ?_)
    obtain ⟨p1, p2, p3, p4, p5, p6, p7, p8, p9, p10⟩ := pr
    unfold sWas cWas
    by_cases z : F 112 79 = 0
    · rw [if_pos z] at p7
      rw [if_pos z, p7, if_pos (by omega)]
    · rw [if_neg z] at p7
      rw [if_neg z, p7]
      by_cases y : F 112 80 < x1
      · rw [if_pos y, if_pos y]
      · rw [if_neg y, if_neg y]
        by_cases w : x2 = 2 ∧ x1 = F 112 80
        · rw [if_pos w, if_pos w]
        · rw [if_neg w, if_neg w]
          have b9 := p9 z x1 A.1.1 (by omega)
          have e : x2 = 0 ∨ x2 = 1 ∨ x2 = 2 := by omega
          rcases e with e | e | e <;> subst e
          · exact b9.1.symm
          · exact b9.2.symm
          · exact (p10 z x1 A.1.1 (by omega)).symm
/-- told by both alike, without out -/
def Ru (sc : Nat → Int) (n0 : Nat) (v : Int) (S1 : FS) (F1 : FI) (G1 : FJ) (cr : (Int → FS → FI → FJ → Prop) → Prop) : Prop := F1 1000000 = sc ∧ (S1 1000000 0 = n0 ∧ G1 = G1) ∧ ∀ K2 : Int → FS → FI → FJ → Prop, (∀ v16 S2 F2 G2, BI sc n0 S2 F2 G2 → v16 = v → K2 v16 S2 F2 G2) → cr K2
theorem ru_set {sc : Nat → Int} {n0 : Nat} {S : FS} {F F1 F2 : FI} {G : FJ} {a a' b b' : Nat} {v : Int} {cr : (Int → FS → FI → FJ → Prop) → Prop} (h : BIa sc n0 S F G a a' b b') (bi : BIa sc n0 S F2 G a a' b b') (h1 : F1 1000000 = F 1000000) (run : ∀ K2 : Int → FS → FI → FJ → Prop, (∀ v2, v2 = v → K2 v2 S F2 G) → cr K2) : Ru sc n0 v S F1 G cr :=
  ⟨h1.trans h.2.2.1.1, ⟨h.2.2.1.2, rfl⟩, fun K2 hk => run K2 (fun v2 ev => hk v2 _ _ _ ⟨a, a', b, b', bi⟩ ev)⟩
theorem law_3 {K : Int → FS → FI → FJ → Prop} {sc : Nat → Int} {n0 : Nat} {S : FS} {F : FI} {G : FJ} (hB : BI sc n0 S F G) (hk : ∀ v S1 F1 G1, Ru sc n0 v S1 F1 G1 (fun K2 => calI 0 85 [.inr (.inr (.inl 97))] (mm S1 F1 G1) K2 nof) → K v S1 F1 G1) : calI 0 4 [.inr (.inr (.inl 1))] (mm S F G) K nof := by
  obtain ⟨a, a', b, b', h⟩ := hB
  exact p_4 (hk _ _ _ _ (ru_set h (BI_z h).1 rfl (fun K2 hK => q_85 (hK _ h.2.2.2.1.2.2.2.symm))))
theorem law_20 {K : Int → FS → FI → FJ → Prop} {sc : Nat → Int} {n0 : Nat} {S : FS} {F : FI} {G : FJ} (hB : BI sc n0 S F G) (hk : ∀ v S1 F1 G1, Ru sc n0 v S1 F1 G1 (fun K2 => calI 0 158 [.inr (.inr (.inl 97))] (mm S1 F1 G1) K2 nof) → K v S1 F1 G1) : calI 0 21 [.inr (.inr (.inl 1))] (mm S F G) K nof := by
  obtain ⟨a, a', b, b', h⟩ := hB
  have pr := h.2.2.2.2.2.2.2.2.2.2.1
  have sx := h.2.2.2.2.2.2.2.2.2.1
  refine p_21 (hk _ _ _ _ (ru_set h (BI_z h).1 rfl (fun K2 hK => q_158 (hK _ ?_))))
  have p7 := pr.2.2.2.2.2.2.1
  have p8 := pr.2.2.2.2.2.2.2.1
  by_cases z : F 112 79 = 0
  · rw [if_pos z] at p7
    rw [if_pos z, if_pos p7]
  · rw [if_neg z] at p7
    have := (sx.2 z).1
    rw [if_neg z, if_neg (by omega)]
    exact (p8 z).2
theorem law_48 {K : Int → FS → FI → FJ → Prop} {sc : Nat → Int} {n0 : Nat} {x1 : Int} {S : FS} {F : FI} {G : FJ} (hB : BI sc n0 S F G) (hk : ∀ v S1 F1 G1, Ru sc n0 v S1 F1 G1 (fun K2 => calI 1 199 [.inr (.inr (.inl 97)), .inl x1] (mm S1 F1 G1) K2 nof) → K v S1 F1 G1) : calI 0 49 [.inr (.inr (.inl 1)), .inl x1] (mm S F G) K nof := by
  obtain ⟨a, a', b, b', h⟩ := hB
  refine p_49 (fun n => hk _ _ _ _ (ru_set h (BI_z h).1 rfl (fun K2 hK => ?_))) (fun A => hk _ _ _ _ (ru_set h (BI_z h).1 rfl (fun K2 hK => ?_)))
  · exact q_199 (fun _ => hK _ rfl) (fun A => absurd A n)
  · exact q_199 (fun n => absurd A n) (fun _ => hK _ (h.2.2.2.2.1 _ (by omega)).symm)
