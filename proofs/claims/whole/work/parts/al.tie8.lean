/-! ===== images ===== -/
set_option maxRecDepth 100000 in
theorem law_46 {K : Int → FS → FI → FJ → Prop} {sc : Nat → Int} {n0 : Nat} {S : FS} {F : FI} {G : FJ} (hB : BI sc n0 S F G) (hk : ∀ v S1 F1 G1, Ru sc n0 v S1 F1 G1 (fun K2 => calI 0 197 [.inr (.inr (.inl 97))] (mm S1 F1 G1) K2 nof) → K v S1 F1 G1) : calI 1 47 [.inr (.inr (.inl 1))] (mm S F G) K nof := by
  obtain ⟨a, a', b, b', h⟩ := hB
  have im := h.2.2.2.2.2.2.2.2.2.2.2.1
  have pr := h.2.2.2.2.2.2.2.2.2.2.1
  have sx := h.2.2.2.2.2.2.2.2.2.1
  obtain ⟨i1, i2, i3⟩ := id im
  obtain ⟨n, en⟩ : ∃ n, n = F 97 27 := ⟨_, rfl⟩
  rw [← en] at i1 i2
  refine p_47 i2 i1.1 (fun full => hk _ _ _ _ (ru_set h (BI_z h).1 rfl (fun K2 hK => ?_))) (fun nf F' cp => hk _ _ _ _ ?_)
  · exact q_197 (by rw [← en]; exact i1) (fun _ => hK _ rfl) (fun q => by omega)
  · obtain ⟨c1, c2, c3, c4⟩ := id cp
    have ei : imC n = 73 + 8 * n.toNat := rfl
    have f1 : ∀ c, c < 73 ∨ 97 ≤ c → F' c = F c := fun c hc => c1 c (by omega)
    obtain ⟨F1, e1⟩ : ∃ F1, F1 = u2 F' 1 16 (n + 1) := ⟨_, rfl⟩
    rw [← e1]
    have g1 : ∀ c, c ≠ 1 → F1 c = F' c := fun c hc => by rw [e1, u2_o hc]
    have o97 : F1 97 = F 97 := by rw [g1 97 (by decide)]; exact f1 97 (by omega)
    refine ⟨by rw [g1 _ (by decide), f1 _ (by omega)]; exact h.2.2.1.1, ⟨h.2.2.1.2, rfl⟩, fun K2 hK => ?_⟩
    refine q_197 (by rw [o97, ← en]; exact i1) (fun q => by rw [o97] at q; omega) (fun _ Fc cq => ?_)
    obtain ⟨k1, k2⟩ := cq
    rw [o97, ← en] at k1 ⊢
    obtain ⟨F2, e2⟩ : ∃ F2, F2 = u2 Fc 97 27 (n + 1) := ⟨_, rfl⟩
    rw [← e2]
    refine hK _ S F2 G ⟨a, a', b, b', ?_⟩ rfl
    have o2 : ∀ c, c ≠ 97 → c ≠ 113 → F2 c = F1 c := fun c h1 h2 => by rw [e2, u2_o h1, k2 c h2, z_n h1]
    have o : ∀ c, c ≠ 1 → c ≠ 97 → c ≠ 113 → c < 73 ∨ 97 ≤ c → F2 c = F c := fun c h1 h2 h3 h4 => by rw [o2 c h2 h3, g1 c h1]; exact f1 c h4
    have e97 : ∀ k, k ≠ 0 → k ≠ 27 → F2 97 k = F 97 k := fun k hk0 hk => by rw [e2, u2_n hk, k2 97 (by decide), z_f hk0, o97]
    have e27 : F2 97 27 = n + 1 := by rw [e2, u2_s]
    have e1' : ∀ k, F2 1 k = if k = 16 then n + 1 else F 1 k := fun k => by rw [o2 1 (by decide) (by decide), e1, u2_k, f1 1 (by omega)]
    have e112 : F2 112 = F 112 := o 112 (by decide) (by decide) (by decide) (by omega)
    have e113 : ∀ j : Nat, F2 113 j = if 156 * n ≤ (j : Int) ∧ (j : Int) < 156 * n + 156 then F 112 (j - 156 * n + 0).toNat else F 113 j := fun j => by
      rw [e2, u2_o (by decide), k1 j, z_n (by decide), z_n (by decide), g1 112 (by decide), g1 113 (by decide), f1 112 (by omega), f1 113 (by omega)]
      rfl
    refine BI_set h (fun c c1' c2' c3' c4' c5 c6 => o c c1' c2' c4' (by omega)) (fun k k1 k2 => by rw [e1', if_neg k1]) (Or.inr ⟨by rw [e1', if_neg (by decide)], fun i _ => by rw [e112]⟩) e97 (by rw [e112]; exact sx) (by rw [e112]; exact PR_c pr (fun i hi => o _ (by omega) (by omega) (by omega) (by omega))) ⟨by rw [e27]; omega, by rw [e1', if_pos rfl, e27], fun m hm => ?_⟩
    rw [e27] at hm
    have e100 : F2 100 = F 100 := o 100 (by decide) (by decide) (by decide) (by omega)
    rw [e100]
    by_cases q : (m : Int) = n
    · have hs : ∀ j, j < 156 → imR F2 m j = F 112 j := fun j hj => by
        show F2 113 (156 * m + j) = _
        rw [e113, if_pos (by omega)]
        congr 1
        omega
      have cp' : cPy F' F (73 + 8 * m) 31 := by
        rw [show 73 + 8 * m = imC n by rw [ei]; omega]
        exact cp
      refine ⟨PR_cg (PR_c (PR_y pr sx.1.2.2.2.2.1 sx.2 cp') (fun i hi => ?_)) hs sx.1.2.2.2.2.1.2 (fun z => (sx.2 z).2), SX_cg sx hs⟩
      rw [o2 _ (by omega) (by omega), g1 _ (by omega)]
    · have hm' : (m : Int) < F 97 27 := by omega
      obtain ⟨j1, j2⟩ := i3 m hm'
      have hs : ∀ j, j < 156 → imR F2 m j = imR F m j := fun j hj => by
        show F2 113 (156 * m + j) = F 113 (156 * m + j)
        rw [e113, if_neg (by omega)]
      refine ⟨PR_cg (PR_c j1 (fun i hi => ?_)) hs j2.1.2.2.2.2.1.2 (fun z => (j2.2 z).2), SX_cg j2 hs⟩
      rw [o2 _ (by omega) (by omega), g1 _ (by omega), c1 _ (by rw [ei]; omega)]
set_option maxRecDepth 100000 in
theorem law_47 {K : Int → FS → FI → FJ → Prop} {sc : Nat → Int} {n0 : Nat} {S : FS} {F : FI} {G : FJ} (hB : BI sc n0 S F G) (hk : ∀ v S1 F1 G1, Ru sc n0 v S1 F1 G1 (fun K2 => calI 0 198 [.inr (.inr (.inl 97))] (mm S1 F1 G1) K2 nof) → K v S1 F1 G1) : calI 1 48 [.inr (.inr (.inl 1))] (mm S F G) K nof := by
  obtain ⟨a, a', b, b', h⟩ := hB
  have im := h.2.2.2.2.2.2.2.2.2.2.2.1
  obtain ⟨i1, i2, i3⟩ := id im
  obtain ⟨n, en⟩ : ∃ n, n = F 97 27 := ⟨_, rfl⟩
  rw [← en] at i1 i2
  refine p_48 i2 i1.1 i1.2 (fun none => hk _ _ _ _ (ru_set h (BI_z h).1 rfl (fun K2 hK => ?_))) (fun some' F' cp => hk _ _ _ _ ?_)
  · exact q_198 (by rw [← en]; exact i1) (fun _ => hK _ rfl) (fun q => by omega)
  · obtain ⟨c1, c2, c3, c4⟩ := id cp
    have ei : imC (n - 1) = 73 + 8 * (n - 1).toNat := rfl
    have f1 : ∀ c, c ≠ 1 → ¬ (31 ≤ c ∧ c ≤ 38) → F' c = F c := fun c hc h2 => by rw [c1 c (by omega), u2_o hc]
    obtain ⟨F1, e1⟩ : ∃ F1, F1 = u2 F' 1 17 0 := ⟨_, rfl⟩
    rw [← e1]
    have g1 : ∀ c, c ≠ 1 → F1 c = F' c := fun c hc => by rw [e1, u2_o hc]
    have o97 : F1 97 = F 97 := by rw [g1 97 (by decide)]; exact f1 97 (by decide) (by decide)
    refine ⟨by rw [g1 _ (by decide), f1 _ (by decide) (by decide)]; exact h.2.2.1.1, ⟨h.2.2.1.2, rfl⟩, fun K2 hK => ?_⟩
    refine q_198 (by rw [o97, ← en]; exact i1) (fun q => by rw [o97] at q; omega) (fun _ F2 cq => ?_)
    obtain ⟨k1, k2⟩ := cq
    rw [o97, ← en] at k1 k2 ⊢
    refine hK _ S F2 G ⟨a, a', b, b', ?_⟩ rfl
    have o2 : ∀ c, c ≠ 97 → c ≠ 112 → F2 c = F1 c := fun c h1 h2 => by rw [k2 c h2, u2_o h1, z_n h1]
    have o : ∀ c, c ≠ 1 → c ≠ 97 → c ≠ 112 → ¬ (31 ≤ c ∧ c ≤ 38) → F2 c = F c := fun c h1 h2 h3 h4 => by rw [o2 c h2 h3, g1 c h1]; exact f1 c h1 h4
    have e97 : ∀ k, k ≠ 0 → k ≠ 27 → F2 97 k = F 97 k := fun k hk0 hk => by rw [k2 97 (by decide), u2_n hk, z_f hk0, o97]
    have e27 : F2 97 27 = n - 1 := by rw [k2 97 (by decide), u2_s]
    have e1' : ∀ k, F2 1 k = if k = 17 then 0 else if k = 16 then n - 1 else F 1 k := fun k => by rw [o2 1 (by decide) (by decide), e1, u2_k, c1 1 (by decide), u2_k]
    have e100 : F2 100 = F 100 := o 100 (by decide) (by decide) (by decide) (by decide)
    have e113 : F2 113 = F 113 := o 113 (by decide) (by decide) (by decide) (by decide)
    obtain ⟨m, em⟩ : ∃ m : Nat, (m : Int) = n - 1 := ⟨(n - 1).toNat, by omega⟩
    obtain ⟨j1, j2⟩ := i3 m (by omega)
    have hs : ∀ j, j < 156 → F2 112 j = imR F m j := fun j hj => by
      rw [k1 j, if_pos (by omega), u2_o (by decide), z_n (by decide), g1 113 (by decide), f1 113 (by decide) (by decide)]
      show F 113 _ = F 113 (156 * m + j)
      congr 1
      omega
    have eim : ∀ q, imR F2 q = imR F q := fun q => by unfold imR; rw [e113]
    refine BI_set h (fun c c1' c2' c3' c4' c5 c6 => o c c1' c2' c3' c5) (fun k k1 k2 => by rw [e1', if_neg k2, if_neg k1]) (Or.inl (by rw [e1', if_pos rfl])) e97 (SX_cg j2 hs) ?_ ⟨by rw [e27]; omega, by rw [e1', if_neg (by decide), if_pos rfl, e27], fun q hq => ?_⟩
    · have p0 : PR (u2 F 1 16 (n - 1)) (imC (n - 1)) (imR F m) := by
        rw [ei, show (n - 1).toNat = m by omega]
        exact PR_c j1 (fun i hi => u2_o (by omega))
      have p1 := PR_y p0 j2.1.2.2.2.2.1 j2.2 cp
      refine PR_cg (PR_c p1 (fun i hi => ?_)) hs j2.1.2.2.2.2.1.2 (fun z => (j2.2 z).2)
      rw [o2 _ (by omega) (by omega), g1 _ (by omega)]
    · rw [e27] at hq
      obtain ⟨q1, q2⟩ := i3 q (by omega)
      rw [eim, e100]
      exact ⟨PR_c q1 (fun i hi => o _ (by omega) (by omega) (by omega) (by omega)), q2⟩
