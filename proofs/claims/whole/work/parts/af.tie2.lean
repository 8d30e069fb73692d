/-! ===== refusals; what a call leaves ===== -/
theorem BI_upd {sc : Nat → Int} {n0 : Nat} {S : FS} {F F' : FI} {G : FJ} {a a' b b' : Nat} (h : BIa sc n0 S F G a a' b b') (hF : ∀ c, c ≠ 40 → c ≠ 97 → c ≠ 98 → F' c = F c) (h97 : ∀ i, i ≠ 0 → F' 97 i = F 97 i) (hr : Rf2 F') : BIa sc n0 S F' G a a' b b' := by
  obtain ⟨p, tx, ⟨s1, s2⟩, ⟨t1, t2, t3, t4⟩, r2, ⟨l1, l2, l3, l4⟩, ⟨c1, c2⟩, kn, gb, sx, pr, ⟨i1, i2, i3⟩, ld⟩ := h
  have eL : mL F' = mL F := mL_c (h97 13 (by decide)) (hF _ (by decide) (by decide) (by decide)) (hF _ (by decide) (by decide) (by decide)) (hF _ (by decide) (by decide) (by decide)) (hF _ (by decide) (by decide) (by decide))
  have e100 := hF 100 (by decide) (by decide) (by decide)
  have e112 := hF 112 (by decide) (by decide) (by decide)
  have lo : ∀ c, c < 97 → c ≠ 40 → F' c = F c := fun c h1 h2 => hF c h2 (by omega) (by omega)
  have eim : ∀ n, imR F' n = imR F n := fun n => by
    unfold imR
    rw [hF 113 (by decide) (by decide) (by decide)]
  refine ⟨p, fun t i a b => ?_, ⟨by rw [hF _ (by decide) (by decide) (by decide)]; exact s1, s2⟩, ⟨?_, ?_, ?_, ?_⟩, hr, ⟨?_, ?_, ?_, ?_⟩, ⟨?_, ?_⟩, ?_, gb, ?_, ?_, ⟨?_, ?_, fun n hn => ?_⟩, ?_⟩
  · rw [hF (2000000 + t) (by omega) (by omega) (by omega)]; exact tx t i a b
  · rw [h97 2 (by decide)]; exact t1
  · rw [lo 2 (by decide) (by decide), h97 2 (by decide)]; exact t2
  · rw [lo 3 (by decide) (by decide), h97 2 (by decide), hF 99 (by decide) (by decide) (by decide)]; exact t3
  · rw [lo 2 (by decide) (by decide), h97 8 (by decide)]; exact t4
  · rw [eL]; exact l1
  · rw [eL]; exact WR_c l2 (fun i hi => lo _ (by have := p.2.1.1; omega) (by have := p.2.1.1; omega))
  · rw [lo _ (by have := p.2.1.1; omega) (by have := p.2.1.1; omega)]; exact l3
  · rw [lo _ (by have := p.2.1.2.1; omega) (by have := p.2.1.2.1; omega)]; exact l4
  · rw [lo 16 (by decide) (by decide)]; exact c1
  · rw [lo 19 (by decide) (by decide)]; exact c2
  · exact KNO_e kn (fun i hi => h97 i (by omega)) e100 eL (hF _ (by decide) (by decide) (by decide)) (hF _ (by decide) (by decide) (by decide)) rfl rfl
  · rw [e100, e112]; exact sx
  · rw [e112]; exact PR_c pr (fun i hi => lo _ (by omega) (by omega))
  · rw [h97 27 (by decide)]; exact i1
  · rw [lo 1 (by decide) (by decide), h97 27 (by decide)]; exact i2
  · rw [h97 27 (by decide)] at hn
    obtain ⟨j1, j2⟩ := i3 n hn
    rw [eim, e100]
    exact ⟨PR_c j1 (fun i hi => lo _ (by omega) (by omega)), j2⟩
  · rcases ld with ⟨n1, n2, n3⟩ | ⟨d1, d2⟩
    · refine Or.inl ⟨by rw [h97 12 (by decide)]; exact n1, fun i x y => ?_, fun j hj => by rw [e100]; exact n3 j hj⟩
      rw [lo a (by have := p.1.1; omega) (by have := p.1.1; omega)]
      exact n2 i x y
    · refine Or.inr ⟨by rw [h97 12 (by decide)]; exact d1, ?_⟩
      rw [e100, e112, eL]
      obtain ⟨ha, hb, k, h1, h2, h3, h4, h5, h6, v1, v2, v3, v4, v5, v6⟩ := d2
      refine ⟨ha, hb, k, h1, h2, h3, LR_c h4 (fun i hi => lo _ (by omega) (by omega)) rfl, WR_c h5 (fun i hi => lo _ (by omega) (by omega)), PR_c h6 (fun i hi => lo _ (by omega) (by omega)), by rw [lo 23 (by decide) (by decide)]; exact v1, ?_, by rw [lo 16 (by decide) (by decide)]; exact v3, by rw [lo 19 (by decide) (by decide)]; exact v4, by rw [lo 1 (by decide) (by decide)]; exact v5, fun q => ?_⟩
      · unfold RK
        rw [lo 22 (by decide) (by decide), lo 24 (by decide) (by decide)]
        exact v2
      · rw [lo 1 (by decide) (by decide)] at q
        have := v6 q
        unfold SOL at this ⊢
        rw [lo 7 (by decide) (by decide), lo 6 (by decide) (by decide), lo 18 (by decide) (by decide)]
        exact this
/-- refused by both -/
theorem BI_rf {sc : Nat → Int} {n0 : Nat} {S : FS} {F : FI} {G : FJ} {a a' b b' : Nat} (h : BIa sc n0 S F G a a' b b') (i : Nat) (c : Int) : BIa sc n0 S (rfs (zF (rfc F i)) c i) G a a' b b' ∧ rfs (zF (rfc F i)) c i 97 0 = c := by
  have r2 := h.2.2.2.2.1
  have ez : zF (rfc F i) 98 i = F 98 i := by rw [z_n (by decide)]; unfold rfc; rw [u2_o (by decide)]
  refine ⟨BI_upd h (fun d d1 d2 d3 => ?_) (fun j hj => ?_) (fun j hj => ?_), ?_⟩
  · unfold rfs rfc
    rw [u2_o d3, u2_o d2, z_n d2, u2_o d1]
  · unfold rfs rfc
    rw [u2_o (by decide), u2_n hj, z_f hj, u2_o (by decide)]
  · unfold rfs
    rw [u2_o (by decide), u2_o (by decide), z_n (by decide), u2_k, ez, u2_o (by decide), z_n (by decide)]
    unfold rfc
    rw [u2_k, u2_o (by decide)]
    by_cases q : j = i
    · rw [if_pos q, if_pos q, ← q, r2 j hj]
    · rw [if_neg q, if_neg q, r2 j hj]
  · unfold rfs
    rw [u2_o (by decide), u2_s]
/-- the class has answered, the reference will the same -/
def Rd (sc : Nat → Int) (n0 : Nat) (v : Int) (S1 : FS) (F1 : FI) (G1 : FJ) (cr : (Int → FS → FI → FJ → Prop) → Prop) : Prop := F1 1000000 = sc ∧ (S1 1000000 0 = n0 ∧ G1 = G1) ∧ ∀ K2 : Int → FS → FI → FJ → Prop, (∀ v16 S2 F2 G2, BI sc n0 S2 F2 G2 → F2 97 0 = v → (v = 0 → G2 128 0 = v16) → K2 v16 S2 F2 G2) → cr K2
theorem rfc_h {F : FI} {G : FJ} {i : Nat} : Hi F (rfc F i) G G := ⟨fun c hc => u2_o (by omega), fun _ _ _ => rfl⟩
theorem rd_rf {sc : Nat → Int} {n0 : Nat} {S : FS} {F : FI} {G : FJ} {a a' b b' i : Nat} {c : Int} {cr : (Int → FS → FI → FJ → Prop) → Prop} (h : BIa sc n0 S F G a a' b b') (hc : c ≠ 0) (run : ∀ K2 : Int → FS → FI → FJ → Prop, (∀ v, K2 v S (rfs (zF (rfc F i)) c i) G) → cr K2) : Rd sc n0 c S (rfc F i) G cr := by
  refine ⟨?_, ⟨h.2.2.1.2, rfl⟩, fun K2 hk => run K2 (fun v => hk v _ _ _ ⟨a, a', b, b', (BI_rf h i c).1⟩ (BI_rf h i c).2 (fun q => absurd q hc))⟩
  rw [rfc_h (G := G).1 1000000 (by decide)]
  exact h.2.2.1.1
theorem rd_ok {sc : Nat → Int} {n0 : Nat} {S S1 : FS} {F F1 : FI} {G G1 : FJ} {a a' b b' : Nat} {v : Int} {cr : (Int → FS → FI → FJ → Prop) → Prop} (h : BIa sc n0 S F G a a' b b') (hn : F 97 12 ≠ 0) (y : YK S1 F1 G1 a b (F 100) (F 112) (mL F)) (q : QC S S1 F F1 G G1) (run : Hi F F1 G G1 → MV F1 (u2 G1 128 0 v) → F1 97 12 ≠ 0 → ∀ K2 : Int → FS → FI → FJ → Prop, (∀ F2 G2 v2, QP F1 F2 (u2 G1 128 0 v) G2 → v2 = v → K2 v2 S1 F2 G2) → cr K2) : Rd sc n0 0 S1 F1 (u2 G1 128 0 v) cr := by
  obtain ⟨h1, hi⟩ := BI_cls h hn y q
  have h2 := BI_out v h1
  have n1 : F1 97 12 ≠ 0 := by rw [hi.1 97 (by decide)]; exact hn
  refine ⟨h2.2.2.1.1, ⟨h2.2.2.1.2, rfl⟩, fun K2 hk => run hi (BI_MV h2 n1) n1 K2 (fun F2 G2 v2 qp ev => ?_)⟩
  obtain ⟨b1, b2, b3⟩ := BI_ref h2 n1 qp
  exact hk v2 _ _ _ ⟨a, a', b, b', b1⟩ b2 (fun _ => by rw [b3, u2_s, ev])
