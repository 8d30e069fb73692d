/-! ===== what is set, code by code ===== -/
theorem sLd_54 {l s s' : Nat → Int} (h : ∀ i, i < 54 → s' i = s i) {x : Int} (h0 : 0 ≤ x) (h1 : x < 24) : sLd l s' x = sLd l s x := by
  unfold sLd
  rw [h _ (by omega), h 53 (by decide)]
theorem CE_54 {l s s' : Nat → Int} {w : La} {st : Int} (hv : LV l) (h : ∀ i, i < 54 → s' i = s i) : CE l st 0 (sCf l s w) (sCf l s' w) := by
  obtain ⟨⟨hv1, hv2⟩, ⟨hv3, hv4⟩, ⟨hv5, hv6⟩, ⟨hv7, hv8⟩, ⟨hv9, hv10⟩, ⟨hv11, hv12⟩, ⟨hv13, hv14⟩, hvw, hvs, hvk, hvc, hvx⟩ := id hv
  exact ⟨fun x a b => (sLd_54 h a (by omega)).symm, fun k a b => (h _ (by omega)).symm, fun x a b => (h _ (by omega)).symm, fun _ _ _ _ _ _ _ _ => rfl, rfl⟩
theorem SOL_54 {F : FI} {G : FJ} {l s s' : Nat → Int} {w : La} (hv : LV l) (hs : SV l s) (hs' : SV l s') (h : ∀ i, i < 54 → s' i = s i) (so : SOL F G l s w) : SOL F G l s' w := by
  have hv' := hv
  obtain ⟨⟨hv1, hv2⟩, ⟨hv3, hv4⟩, ⟨hv5, hv6⟩, ⟨hv7, hv8⟩, ⟨hv9, hv10⟩, ⟨hv11, hv12⟩, ⟨hv13, hv14⟩, hvw, hvs, hvk, hvc, hvx⟩ := id hv
  obtain ⟨s1, s2, s3, s4⟩ := so
  have ce := CE_54 (w := w) (st := l 4) hv' h
  have c1 := sCf_v (w := w) (l 4) hv' hs
  have c2 := sCf_v (w := w) (l 4) hv' hs'
  refine ⟨fun x a b => (s1 x a b).trans (sLd_54 h a b).symm, s2, fun x p n hw o ho => ?_, fun x p n hw => (s4 x p n hw).trans (sTk_ce hv' (by omega) (by omega) (by omega) c1 c2 ce hw.1 hw)⟩
  have ho' := YV_ce ce ho
  obtain ⟨w1, w2, w3, w4, w5, w6⟩ := id hw
  rw [s3 x p n hw o ho']
  exact fC_cc hv' (by omega) (by omega) (by omega) c1 c2 ce (by omega) w3 w4 w5 w6 ho'
theorem BI_set {sc : Nat → Int} {n0 : Nat} {S : FS} {F F2 : FI} {G : FJ} {a a' b b' : Nat} (h : BIa sc n0 S F G a a' b b') (lo : ∀ c, c ≠ 1 → c ≠ 97 → c ≠ 112 → c ≠ 113 → ¬ (31 ≤ c ∧ c ≤ 38) → ¬ (73 ≤ c ∧ c ≤ 96) → F2 c = F c) (h1 : ∀ i, i ≠ 16 → i ≠ 17 → F2 1 i = F 1 i) (h17 : F2 1 17 = 0 ∨ (F2 1 17 = F 1 17 ∧ ∀ i, i < 54 → F2 112 i = F 112 i)) (h97 : ∀ i, i ≠ 0 → i ≠ 27 → F2 97 i = F 97 i) (sx : SX (F 100) (F2 112)) (pr : PR F2 31 (F2 112)) (im : Im2 F2) : BIa sc n0 S F2 G a a' b b' := by
  obtain ⟨p, tx, ⟨s1, s2⟩, ⟨t1, t2, t3, t4⟩, r2, ⟨l1, l2, l3, l4⟩, ⟨c1, c2⟩, kn, gb, sx0, pr0, im0, ld⟩ := h
  have k : ∀ c, (c = 2 ∨ c = 3 ∨ c = 6 ∨ c = 7 ∨ c = 16 ∨ c = 18 ∨ c = 19 ∨ c = 22 ∨ c = 23 ∨ c = 24 ∨ c = 40 ∨ (41 ≤ c ∧ c ≤ 72) ∨ (98 ≤ c ∧ c ≤ 111) ∨ 114 ≤ c) → F2 c = F c := fun c hc => lo c (by omega) (by omega) (by omega) (by omega) (by omega) (by omega)
  have eL : mL F2 = mL F := mL_c (h97 13 (by decide) (by decide)) (k _ (by decide)) (k _ (by decide)) (k _ (by decide)) (k _ (by decide))
  have e100 := k 100 (by decide)
  refine ⟨p, fun t i a b => ?_, ⟨by rw [k _ (by decide)]; exact s1, s2⟩, ⟨?_, ?_, ?_, ?_⟩, fun i hi => ?_, ⟨?_, ?_, ?_, ?_⟩, ⟨?_, ?_⟩, ?_, gb, ?_, pr, im, ?_⟩
  · rw [k (2000000 + t) (by omega)]; exact tx t i a b
  · rw [h97 2 (by decide) (by decide)]; exact t1
  · rw [k 2 (by decide), h97 2 (by decide) (by decide)]; exact t2
  · rw [k 3 (by decide), h97 2 (by decide) (by decide), k 99 (by decide)]; exact t3
  · rw [k 2 (by decide), h97 8 (by decide) (by decide)]; exact t4
  · rw [k 40 (by decide), k 98 (by decide)]; exact r2 i hi
  · rw [eL]; exact l1
  · rw [eL]; exact WR_c l2 (fun i hi => k _ (by have := p.2.1.1; omega))
  · rw [k _ (by have := p.2.1.1; omega)]; exact l3
  · rw [k _ (by have := p.2.1.2.1; omega)]; exact l4
  · rw [k 16 (by decide)]; exact c1
  · rw [k 19 (by decide)]; exact c2
  · exact KNO_e kn (fun i hi => h97 i (by omega) (by omega)) e100 eL (k _ (by decide)) (k _ (by decide)) rfl rfl
  · rw [e100]; exact sx
  · rcases ld with ⟨n1, n2, n3⟩ | ⟨d1, d2⟩
    · refine Or.inl ⟨by rw [h97 12 (by decide) (by decide)]; exact n1, fun i x y => ?_, fun j hj => by rw [e100]; exact n3 j hj⟩
      rw [k a (by have := p.1.1; omega)]
      exact n2 i x y
    · refine Or.inr ⟨by rw [h97 12 (by decide) (by decide)]; exact d1, ?_⟩
      rw [e100, eL]
      obtain ⟨ha, hb, ks, g1, g2, g3, g4, g5, g6, v1, v2, v3, v4, v5, v6⟩ := d2
      refine ⟨ha, hb, ks, g1, sx.1, g3, LR_c g4 (fun i hi => k _ (by omega)) rfl, WR_c g5 (fun i hi => k _ (by omega)), pr, by rw [k 23 (by decide)]; exact v1, ?_, by rw [k 16 (by decide)]; exact v3, by rw [k 19 (by decide)]; exact v4, ?_, fun q => ?_⟩
      · unfold RK
        rw [k 22 (by decide), k 24 (by decide)]
        exact v2
      · rcases h17 with z | ⟨z, -⟩
        · exact Or.inl z
        · rw [z]; exact v5
      · rcases h17 with z | ⟨z, z2⟩
        · rw [z] at q
          exact absurd q (by decide)
        · rw [z] at q
          have := SOL_54 g1 g2 sx.1 z2 (v6 q)
          unfold SOL at this ⊢
          rw [k 7 (by decide), k 6 (by decide), k 18 (by decide)]
          exact this
theorem Im2_k {F F2 : FI} (h : Im2 F) (h97 : F2 97 27 = F 97 27) (h16 : F2 1 16 = F 1 16) (h100 : F2 100 = F 100) (h113 : F2 113 = F 113) (lo : ∀ c, 73 ≤ c → c ≤ 96 → F2 c = F c) : Im2 F2 := by
  obtain ⟨i1, i2, i3⟩ := h
  refine ⟨by rw [h97]; exact i1, by rw [h16, h97]; exact i2, fun n hn => ?_⟩
  rw [h97] at hn
  have e : imR F2 n = imR F n := by unfold imR; rw [h113]
  rw [e, h100]
  obtain ⟨j1, j2⟩ := i3 n hn
  exact ⟨PR_c j1 (fun i hi => lo _ (by omega) (by omega)), j2⟩
theorem u2_uL {F : FI} {i : Nat} {v : Int} {a : Nat} : u2 F a i v a = uL (F a) i v := by
  funext j
  rw [u2_k]
  rfl
theorem SX_u {l s : Nat → Int} {i : Nat} {v : Int} (h : SX l s) (hi : i < 54) (h1 : i < 5 → 0 ≤ v ∧ v ≤ 5) (h2 : 5 ≤ i → i < 29 → 0 ≤ v ∧ v ≤ l 1) (h3 : 29 ≤ i → i < 53 → -1 ≤ v ∧ v < l 2) (h4 : i = 53 → 1 ≤ v ∧ v ≤ 12) : SX l (uL s i v) := by
  obtain ⟨⟨s1, s2, s3, s4, s5, s6⟩, s7⟩ := h
  have u : ∀ j, uL s i v j = if j = i then v else s j := fun _ => rfl
  have un : ∀ j, j ≠ i → uL s i v j = s j := fun j hj => if_neg hj
  refine ⟨⟨fun k k0 k1 => ?_, fun x x0 x1 => ?_, fun x x0 x1 => ?_, ?_, ?_, fun k k0 k1 => ?_⟩, fun q => ?_⟩
  · rw [u]; split
    · exact h1 (by omega)
    · exact s1 k k0 k1
  · rw [u]; split
    · exact h2 (by omega) (by omega)
    · exact s2 x x0 x1
  · rw [u]; split
    · exact h3 (by omega) (by omega)
    · exact s3 x x0 x1
  · rw [u]; split
    · exact h4 (by omega)
    · exact s4
  · rw [un 54 (by omega)]; exact s5
  · rw [un 54 (by omega)] at k1
    rw [un _ (by omega)]; exact s6 k k0 k1
  · rw [un 79 (by omega)] at q
    rw [un 80 (by omega)]; exact s7 q
/-- the party's cells, one of them set -/
theorem PR_u {F F2 : FI} {s : Nat → Int} {c j i : Nat} {v : Int} (h : PR F 31 s) (hc : (c = 32 ∧ j < 5 ∧ i = j) ∨ (c = 33 ∧ j < 24 ∧ i = 5 + j) ∨ (c = 34 ∧ j < 24 ∧ i = 29 + j) ∨ (c = 31 ∧ j = 7 ∧ i = 53)) (hs : s 54 ≤ 24) (hF : ∀ d, 31 ≤ d → d ≤ 38 → F2 d = u2 F c j v d) : PR F2 31 (uL s i v) := by
  obtain ⟨p1, p2, p3, p4, p5, p6, p7, p8, p9, p10⟩ := h
  have u : ∀ j, uL s i v j = if j = i then v else s j := fun _ => rfl
  have un : ∀ j, j ≠ i → uL s i v j = s j := fun j hj => if_neg hj
  refine ⟨fun k k0 k1 => ?_, fun x x0 x1 => ?_, fun x x0 x1 => ?_, ?_, ?_, fun k k0 k1 => ?_, ?_, fun q => ?_, fun q k k0 k1 => ?_, fun q k k0 k1 => ?_⟩
  · rw [hF _ (by decide) (by decide), u]
    by_cases q : c = 32
    · subst q
      rw [u2_k]
      by_cases z : k.toNat = j
      · rw [if_pos z, if_pos (by omega)]
      · rw [if_neg z, if_neg (by omega)]; exact p1 k k0 k1
    · rw [u2_o (by omega), if_neg (by omega)]; exact p1 k k0 k1
  · rw [hF _ (by decide) (by decide), u]
    by_cases q : c = 33
    · subst q
      rw [u2_k]
      by_cases z : x.toNat = j
      · rw [if_pos z, if_pos (by omega)]
      · rw [if_neg z, if_neg (by omega)]; exact p2 x x0 x1
    · rw [u2_o (by omega), if_neg (by omega)]; exact p2 x x0 x1
  · rw [hF _ (by decide) (by decide), u]
    by_cases q : c = 34
    · subst q
      rw [u2_k]
      by_cases z : x.toNat = j
      · rw [if_pos z, if_pos (by omega)]
      · rw [if_neg z, if_neg (by omega)]; exact p3 x x0 x1
    · rw [u2_o (by omega), if_neg (by omega)]; exact p3 x x0 x1
  · rw [hF 31 (by decide) (by decide), u]
    by_cases q : c = 31
    · subst q
      have e : j = 7 ∧ i = 53 := by omega
      rw [e.1, e.2, u2_s, if_pos rfl]
    · rw [u2_o (by omega), if_neg (by omega)]; exact p4
  · rw [hF 31 (by decide) (by decide), un 54 (by omega)]
    by_cases q : c = 31
    · subst q
      rw [u2_n (by omega)]; exact p5
    · rw [u2_o (by omega)]; exact p5
  · rw [un 54 (by omega)] at k1
    rw [hF _ (by decide) (by decide), u2_o (by omega), un _ (by omega)]; exact p6 k k0 k1
  · rw [hF 31 (by decide) (by decide), un 79 (by omega), un 80 (by omega)]
    by_cases q : c = 31
    · subst q
      rw [u2_n (by omega)]; exact p7
    · rw [u2_o (by omega)]; exact p7
  · rw [un 79 (by omega)] at q
    rw [hF 31 (by decide) (by decide), un 81 (by omega)]
    by_cases z : c = 31
    · subst z
      rw [u2_n (by omega)]; exact p8 q
    · rw [u2_o (by omega)]; exact p8 q
  · rw [un 79 (by omega)] at q
    rw [un 80 (by omega)] at k1
    rw [hF _ (by decide) (by decide), hF _ (by decide) (by decide), u2_o (by omega), u2_o (by omega), un _ (by omega), un _ (by omega)]; exact p9 q k k0 k1
  · rw [un 79 (by omega)] at q
    rw [un 80 (by omega)] at k1
    rw [hF _ (by decide) (by decide), u2_o (by omega), un _ (by omega)]; exact p10 q k k0 k1
theorem rd_set {sc : Nat → Int} {n0 : Nat} {S : FS} {F F1 F2 : FI} {G : FJ} {a a' b b' : Nat} {v : Int} {cr : (Int → FS → FI → FJ → Prop) → Prop} (h : BIa sc n0 S F G a a' b b') (bi : BIa sc n0 S F (u2 G 128 0 v) a a' b b' → BIa sc n0 S F2 (u2 G 128 0 v) a a' b b') (h1 : F1 1000000 = F 1000000) (z0 : F2 97 0 = 0) (run : ∀ K2 : Int → FS → FI → FJ → Prop, (∀ v2, v2 = v → K2 v2 S F2 (u2 G 128 0 v)) → cr K2) : Rd sc n0 0 S F1 (u2 G 128 0 v) cr :=
  ⟨h1.trans h.2.2.1.1, ⟨h.2.2.1.2, rfl⟩, fun K2 hk => run K2 (fun v2 ev => hk v2 _ _ _ ⟨a, a', b, b', bi (BI_out v h)⟩ z0 (fun _ => by rw [u2_s, ev]))⟩
/-- one number of the party is set, by both -/
theorem BI_set1 {sc : Nat → Int} {n0 : Nat} {S : FS} {F : FI} {G : FJ} {a a' b b' c j i : Nat} {v : Int} (h : BIa sc n0 S F G a a' b b') (hc : (c = 32 ∧ j < 5 ∧ i = j) ∨ (c = 33 ∧ j < 24 ∧ i = 5 + j) ∨ (c = 34 ∧ j < 24 ∧ i = 29 + j) ∨ (c = 31 ∧ j = 7 ∧ i = 53)) (sx : SX (F 100) (uL (F 112) i v)) : BIa sc n0 S (u2 (zF (u2 (u2 F c j v) 1 17 0)) 112 i v) G a a' b b' := by
  have o : ∀ d, d ≠ 1 → d ≠ 97 → d ≠ 112 → u2 (zF (u2 (u2 F c j v) 1 17 0)) 112 i v d = u2 F c j v d := fun d d1 d2 d3 => by rw [u2_o d3, z_n d2, u2_o d1]
  have e112 : u2 (zF (u2 (u2 F c j v) 1 17 0)) 112 i v 112 = uL (F 112) i v := by
    rw [u2_uL, z_n (by decide), u2_o (by decide), u2_o (by omega)]
  have e97 : ∀ k, k ≠ 0 → u2 (zF (u2 (u2 F c j v) 1 17 0)) 112 i v 97 k = F 97 k := fun k hk => by rw [u2_o (by decide), z_f hk, u2_o (by decide), u2_o (by omega)]
  have e1 : ∀ k, u2 (zF (u2 (u2 F c j v) 1 17 0)) 112 i v 1 k = if k = 17 then 0 else F 1 k := fun k => by
    rw [u2_o (by decide), z_n (by decide), u2_k, u2_o (by omega)]
  refine BI_set h (fun d d1 d2 d3 d4 d5 d6 => by rw [o d d1 d2 d3, u2_o (by omega)]) (fun k k1 k2 => by rw [e1, if_neg k2]) (Or.inl (by rw [e1, if_pos rfl])) (fun k k0 _ => e97 k k0) (by rw [e112]; exact sx) ?_ (Im2_k h.2.2.2.2.2.2.2.2.2.2.2.1 (e97 27 (by decide)) (by rw [e1, if_neg (by decide)]) (by rw [o 100 (by decide) (by decide) (by decide), u2_o (by omega)]) (by rw [o 113 (by decide) (by decide) (by decide), u2_o (by omega)]) (fun d d1 d2 => by rw [o d (by omega) (by omega) (by omega), u2_o (by omega)]))
  rw [e112]
  exact PR_u h.2.2.2.2.2.2.2.2.2.2.1 hc h.2.2.2.2.2.2.2.2.2.1.1.2.2.2.2.1.2 (fun d d1 d2 => o d (by omega) (by omega) (by omega))
