/-! ===== class and reference, tied ===== -/
def SX (l s : Nat → Int) : Prop := SV l s ∧ (s 79 ≠ 0 → 0 ≤ s 80 ∧ s 80 ≤ 24)
def imR (F : FI) (n : Nat) : Nat → Int := fun j => F 113 (156 * n + j)
def Tx2 (F : FI) : Prop := (0 ≤ F 97 2 ∧ F 97 2 ≤ 600) ∧ F 2 1 = F 97 2 ∧ (∀ i : Nat, (i : Int) < F 97 2 → F 3 i = F 99 i) ∧ F 2 8 = F 97 8
def Rf2 (F : FI) : Prop := ∀ i, i < 4 → F 40 i = F 98 i
def Im2 (F : FI) : Prop := (0 ≤ F 97 27 ∧ F 97 27 ≤ 3) ∧ F 1 16 = F 97 27 ∧ ∀ n : Nat, (n : Int) < F 97 27 → PR F (73 + 8 * n) (imR F n) ∧ SX (F 100) (imR F n)
def Pl (S : FS) (a a' b b' : Nat) : Prop := (oL a ∧ oL a' ∧ a' ≠ a) ∧ (oW b ∧ oW b' ∧ b' ≠ b) ∧ S 1 0 = a ∧ S 1 1 = a' ∧ S 1 2 = b ∧ S 1 3 = b'
def Lw2 (F : FI) (b b' : Nat) : Prop := LW (mL F) ∧ WR F b (mL F) ∧ F (b + 2) 0 = 0 ∧ F (b' + 2) 0 = 0
def Nol (F : FI) (a : Nat) : Prop := F 97 12 = 0 ∧ (∀ i, 9 ≤ i → i ≤ 15 → F a i = 0) ∧ ∀ j, j < 7 → F 100 j = 0
def Lnd (S : FS) (F : FI) (G : FJ) (a b : Nat) : Prop := F 97 12 ≠ 0 ∧ YK S F G a b (F 100) (F 112) (mL F)
def BIa (sc : Nat → Int) (n0 : Nat) (S : FS) (F : FI) (G : FJ) (a a' b b' : Nat) : Prop := Pl S a a' b b' ∧ TX F ∧ (F 1000000 = sc ∧ S 1000000 0 = n0) ∧ Tx2 F ∧ Rf2 F ∧ Lw2 F b b' ∧ (F 16 0 = 1 ∧ F 19 0 = 0) ∧ KNO F G ∧ GB G ∧ SX (F 100) (F 112) ∧ PR F 31 (F 112) ∧ Im2 F ∧ (Nol F a ∨ Lnd S F G a b)
def BI (sc : Nat → Int) (n0 : Nat) (S : FS) (F : FI) (G : FJ) : Prop := ∃ a a' b b', BIa sc n0 S F G a a' b b'
/-- the reference's cells, and what never changes, stay -/
def Hi (F F' : FI) (G G' : FJ) : Prop := (∀ c, 97 ≤ c → F' c = F c) ∧ ∀ c, 97 ≤ c → c ≠ 128 → G' c = G c
theorem KNO_e {F F' : FI} {G G' : FJ} (h : KNO F G) (h97 : ∀ i, i = 28 ∨ i = 32 ∨ i = 33 ∨ i = 34 ∨ i = 35 → F' 97 i = F 97 i) (h100 : F' 100 = F 100) (hL : mL F' = mL F) (h116 : F' 116 = F 116) (h122 : F' 122 = F 122) (g1 : G' 118 = G 118) (g2 : G' 120 = G 120) : KNO F' G' := by
  obtain ⟨⟨o1, o2, o3, o4⟩, k1, k2⟩ := h
  refine ⟨⟨by rw [h97 32 (by omega)]; exact o1, by rw [h97 33 (by omega)]; exact o2, by rw [h97 34 (by omega)]; exact o3, by rw [h97 35 (by omega)]; exact o4⟩, by rw [h97 28 (by omega)]; exact k1, fun q => ?_⟩
  rw [h97 28 (by omega)] at q
  rw [h100, hL]
  exact RDY_c (k2 q) h116 h122 g1 g2
theorem Hi_L {F F' : FI} {G G' : FJ} (h : Hi F F' G G') : mL F' = mL F := mL_c (by rw [h.1 97 (by decide)]) (h.1 _ (by decide)) (h.1 _ (by decide)) (h.1 _ (by decide)) (h.1 _ (by decide))
theorem Hi_K {F F' : FI} {G G' : FJ} (h : Hi F F' G G') (k : KNO F G) : KNO F' G' := KNO_e k (fun i _ => by rw [h.1 97 (by decide)]) (h.1 100 (by decide)) (Hi_L h) (h.1 116 (by decide)) (h.1 122 (by decide)) (h.2 118 (by decide) (by decide)) (h.2 120 (by decide) (by decide))
theorem Hi_G {F F' : FI} {G G' : FJ} (h : Hi F F' G G') (k : GB G) : GB G' := by
  unfold GB at k ⊢
  rw [h.2 119 (by decide) (by decide), h.2 120 (by decide) (by decide), h.2 121 (by decide) (by decide)]
  exact k
theorem Hi_X {F F' : FI} {G G' : FJ} (h : Hi F F' G G') (k : TX F) : TX F' := by
  intro t i a b
  rw [h.1 (2000000 + t) (by omega)]
  exact k t i a b
theorem Hi_pi {F F' : FI} {G G' : FJ} (h : Hi F F' G G') : piF F' = piF F := pi_e ⟨h.1 100 (by decide), h.1 112 (by decide), by rw [h.1 97 (by decide)], h.1 102 (by decide), h.1 103 (by decide), h.1 106 (by decide), h.1 107 (by decide)⟩
/-- the class's cells stay -/
def Lo (F F' : FI) (G G' : FJ) : Prop := (∀ c, c < 97 → F' c = F c) ∧ ∀ c, c < 97 → G' c = G c
theorem Lo_V {F F' : FI} {G G' : FJ} {l s : Nat → Int} {w : La} (h : Lo F F' G G') (v : VC F G l s w) : VC F' G' l s w := by
  obtain ⟨v1, v2, v3, v4, v5, v6⟩ := v
  refine ⟨by rw [h.1 23 (by decide)]; exact v1, ?_, by rw [h.1 16 (by decide)]; exact v3, by rw [h.1 19 (by decide)]; exact v4, by rw [h.1 1 (by decide)]; exact v5, fun q => ?_⟩
  · unfold RK
    rw [h.1 22 (by decide), h.1 24 (by decide)]
    exact v2
  · rw [h.1 1 (by decide)] at q
    have := v6 q
    unfold SOL GS at this ⊢
    rw [h.1 7 (by decide), h.1 6 (by decide), h.1 18 (by decide), h.2 (16 + 1) (by decide)]
    exact this
theorem Lo_Y {S : FS} {F F' : FI} {G G' : FJ} {a b : Nat} {l s : Nat → Int} {w : La} (h : Lo F F' G G') (y : YK S F G a b l s w) : YK S F' G' a b l s w := by
  obtain ⟨ha, hb, k, h1, h2, h3, h4, h5, h6, h7⟩ := y
  exact ⟨ha, hb, k, h1, h2, h3, LR_c h4 (fun i hi => h.1 _ (by omega)) (h.2 _ (by omega)), WR_c h5 (fun i hi => h.1 _ (by omega)), PR_c h6 (fun i hi => h.1 _ (by omega)), Lo_V h h7⟩
theorem SX_79 {l s s' : Nat → Int} (h : ∀ i, i < 79 → s' i = s i) (hs : SV l s) (h80 : s' 79 ≠ 0 → 0 ≤ s' 80 ∧ s' 80 ≤ 24) : SX l s' := ⟨SV_79 h hs, h80⟩
theorem BI_MV {sc : Nat → Int} {n0 : Nat} {S : FS} {F : FI} {G : FJ} {a a' b b' : Nat} (h : BIa sc n0 S F G a a' b b') : F 97 12 ≠ 0 → MV F G := by
  obtain ⟨p, tx, s, t2, r2, ⟨l1, l2⟩, cs, kn, gb, sx, pr, im, ld⟩ := h
  intro q
  rcases ld with ld | ld
  · exact absurd ld.1 q
  · exact ⟨ld.2.2.2.2.1, sx.1, l1, kn, gb⟩
theorem BI_9 {sc : Nat → Int} {n0 : Nat} {S : FS} {F : FI} {G : FJ} {a a' b b' : Nat} (h : BIa sc n0 S F G a a' b b') : (F a 9 < 1 ↔ F 97 12 = 0) ∧ (1 ≤ F a 9 → F 97 12 ≠ 0 ∧ YK S F G a b (F 100) (F 112) (mL F)) := by
  obtain ⟨p, tx, s, t2, r2, l2, cs, kn, gb, sx, pr, im, ld⟩ := h
  rcases ld with ⟨n1, n2, n3⟩ | ⟨d1, d2⟩
  · have e := n2 9 (by decide) (by decide)
    exact ⟨⟨fun _ => n1, fun _ => by omega⟩, fun q => by omega⟩
  · have hv := d2.2.2.2.1
    have e : F a 9 = F 100 0 := d2.2.2.2.2.2.2.1.1.1
    have := hv.1.1
    exact ⟨⟨fun q => by omega, fun q => absurd q d1⟩, fun _ => ⟨d1, d2⟩⟩
theorem Hi_MV {F F' : FI} {G G' : FJ} (h : Hi F F' G G') (k : MV F G) : MV F' G' := by
  obtain ⟨h1, h2, h3, h4, h5⟩ := k
  exact ⟨by rw [h.1 100 (by decide)]; exact h1, by rw [h.1 100 (by decide), h.1 112 (by decide)]; exact h2, by rw [Hi_L h]; exact h3, Hi_K h h4, Hi_G h h5⟩
/-- the class has answered a question -/
theorem BI_cls {sc : Nat → Int} {n0 : Nat} {S S1 : FS} {F F1 : FI} {G G1 : FJ} {a a' b b' : Nat} (h : BIa sc n0 S F G a a' b b') (hn : F 97 12 ≠ 0) (y : YK S1 F1 G1 a b (F 100) (F 112) (mL F)) (q : QC S S1 F F1 G G1) : BIa sc n0 S1 F1 G1 a a' b b' ∧ Hi F F1 G G1 := by
  obtain ⟨⟨pa, pb, p1, p2, p3, p4⟩, tx, ⟨s1, s2⟩, ⟨t1, t2, t3, t4⟩, r2, ⟨l1, l2, l3, l4⟩, cs, kn, gb, sx, pr, ⟨i1, i2, i3⟩, ld⟩ := h
  have hi : Hi F F1 G G1 := ⟨fun c hc => q.1 c (by unfold kpC; omega), fun c hc _ => q.2.2.1 c (by omega)⟩
  have e97 := hi.1 97 (by decide)
  have e100 := hi.1 100 (by decide)
  have e112 := hi.1 112 (by decide)
  have eL := Hi_L hi
  have ss : ∀ x i, x ≠ 22 → S1 x i = S x i := fun x i hx => q.2.2.2 x i (fun z => hx z.1)
  have eim : ∀ n, imR F1 n = imR F n := fun n => by
    unfold imR
    rw [hi.1 113 (by decide)]
  refine ⟨⟨⟨pa, pb, by rw [ss 1 0 (by decide)]; exact p1, by rw [ss 1 1 (by decide)]; exact p2, by rw [ss 1 2 (by decide)]; exact p3, by rw [ss 1 3 (by decide)]; exact p4⟩, Hi_X hi tx, ⟨by rw [hi.1 _ (by decide)]; exact s1, by rw [ss _ _ (by decide)]; exact s2⟩, ⟨?_, ?_, ?_, ?_⟩, fun i hi' => ?_, ⟨?_, ?_, ?_, ?_⟩, ?_, Hi_K hi kn, Hi_G hi gb, ?_, ?_, ⟨?_, ?_, fun n hn => ?_⟩, Or.inr ⟨?_, ?_⟩⟩, hi⟩
  · rw [e97]; exact t1
  · rw [q.1 2 (by unfold kpC; omega), e97]; exact t2
  · rw [q.1 3 (by unfold kpC; omega), e97, hi.1 99 (by decide)]; exact t3
  · rw [q.1 2 (by unfold kpC; omega), e97]; exact t4
  · rw [q.1 40 (by unfold kpC; omega), hi.1 98 (by decide)]; exact r2 i hi'
  · rw [eL]; exact l1
  · rw [eL]; exact WR_c l2 (fun i hi => q.1 _ (kpW pb.1 hi))
  · rw [q.1 _ (kpW pb.1 (by decide))]; exact l3
  · rw [q.1 _ (kpW pb.2.1 (by decide))]; exact l4
  · have v := y.2.2.2.2.2.2.2.2.2
    exact ⟨v.2.2.1, v.2.2.2.1⟩
  · rw [e100, e112]; exact sx
  · rw [e112]; exact PR_c pr (fun i hi => q.1 _ (kpP hi))
  · rw [e97]; exact i1
  · rw [q.2.1 16 (by decide), e97]; exact i2
  · rw [e97] at hn
    obtain ⟨j1, j2⟩ := i3 n hn
    rw [eim, e100]
    exact ⟨PR_c j1 (fun i hi => q.1 _ (by unfold kpC; omega)), j2⟩
  · rw [e97]; exact hn
  · rw [e100, e112, eL]; exact y
/-- the answer is put down -/
theorem BI_out {sc : Nat → Int} {n0 : Nat} {S : FS} {F : FI} {G : FJ} {a a' b b' : Nat} (v : Int) (h : BIa sc n0 S F G a a' b b') : BIa sc n0 S F (u2 G 128 0 v) a a' b b' := by
  obtain ⟨p, tx, s, t2, r2, l2, cs, kn, gb, sx, pr, im, ld⟩ := h
  have hi : Hi F F G (u2 G 128 0 v) := ⟨fun _ _ => rfl, fun c _ h2 => u2_o h2⟩
  refine ⟨p, tx, s, t2, r2, l2, cs, Hi_K hi kn, Hi_G hi gb, sx, pr, im, ?_⟩
  rcases ld with ld | ld
  · exact Or.inl ld
  · exact Or.inr ⟨ld.1, Lo_Y ⟨fun _ _ => rfl, fun c hc => u2_o (by omega)⟩ ld.2⟩
/-- the reference has answered a question -/
theorem BI_ref {sc : Nat → Int} {n0 : Nat} {S : FS} {F F1 : FI} {G G1 : FJ} {a a' b b' : Nat} (h : BIa sc n0 S F G a a' b b') (hn : F 97 12 ≠ 0) (q : QP F F1 G G1) : BIa sc n0 S F1 G1 a a' b b' ∧ F1 97 0 = 0 ∧ G1 128 = G 128 := by
  obtain ⟨p, tx, ⟨s1, s2⟩, ⟨t1, t2, t3, t4⟩, r2, ⟨l1, l2, l3, l4⟩, ⟨c1, c2⟩, kn, gb, sx, pr, ⟨i1, i2, i3⟩, ld⟩ := h
  obtain ⟨pm, kn', gb'⟩ := q
  have o : ∀ c, kpM c → F1 c = F c := fun c hc => by rw [pm.1 c hc]; exact z_n hc.1
  have lo : ∀ c, c < 97 → F1 c = F c := fun c hc => o c (by unfold kpM; omega)
  have glo : ∀ c, c < 97 → G1 c = G c := fun c hc => pm.2.2 c (by unfold kpG; omega)
  have f97 : ∀ i, i = 2 ∨ i = 8 ∨ i = 12 ∨ i = 13 ∨ i = 27 → F1 97 i = F 97 i := fun i hi => by rw [pm.2.1 i (by unfold kpF; omega)]; exact z_f (by omega)
  have eL : mL F1 = mL F := by rw [PM_L pm, z_L]
  have e100 := o 100 (by unfold kpM; omega)
  have e112 := o 112 (by unfold kpM; omega)
  have eim : ∀ n, imR F1 n = imR F n := fun n => by
    unfold imR
    rw [o 113 (by unfold kpM; omega)]
  refine ⟨⟨p, fun t i a b => ?_, ⟨by rw [o _ (by unfold kpM; omega)]; exact s1, s2⟩, ⟨?_, ?_, ?_, ?_⟩, fun i hi' => ?_, ⟨?_, ?_, ?_, ?_⟩, ⟨?_, ?_⟩, kn', gb', ?_, ?_, ⟨?_, ?_, fun n hn => ?_⟩, Or.inr ⟨?_, ?_⟩⟩, ?_, ?_⟩
  · rw [o (2000000 + t) (by unfold kpM; omega)]; exact tx t i a b
  · rw [f97 2 (by omega)]; exact t1
  · rw [lo 2 (by decide), f97 2 (by omega)]; exact t2
  · rw [lo 3 (by decide), f97 2 (by omega), o 99 (by unfold kpM; omega)]; exact t3
  · rw [lo 2 (by decide), f97 8 (by omega)]; exact t4
  · rw [lo 40 (by decide), o 98 (by unfold kpM; omega)]; exact r2 i hi'
  · rw [eL]; exact l1
  · rw [eL]; exact WR_c l2 (fun i hi => lo _ (by have := p.2.1.1; omega))
  · rw [lo _ (by have := p.2.1.1; omega)]; exact l3
  · rw [lo _ (by have := p.2.1.2.1; omega)]; exact l4
  · rw [lo 16 (by decide)]; exact c1
  · rw [lo 19 (by decide)]; exact c2
  · rw [e100, e112]; exact sx
  · rw [e112]; exact PR_c pr (fun i hi => lo _ (by omega))
  · rw [f97 27 (by omega)]; exact i1
  · rw [lo 1 (by decide), f97 27 (by omega)]; exact i2
  · rw [f97 27 (by omega)] at hn
    obtain ⟨j1, j2⟩ := i3 n hn
    rw [eim, e100]
    exact ⟨PR_c j1 (fun i hi => lo _ (by omega)), j2⟩
  · rw [f97 12 (by omega)]; exact hn
  · rw [e100, e112, eL]
    rcases ld with ld | ld
    · exact absurd ld.1 hn
    · exact Lo_Y ⟨lo, glo⟩ ld.2
  · rw [pm.2.1 0 (by unfold kpF; omega)]; exact z_0
  · exact pm.2.2 128 (by unfold kpG; omega)
