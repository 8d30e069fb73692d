/-! ===== the class answers: the end, longer turns, rounds, needs ===== -/
theorem m_try2 {k : FS → FI → FJ → Prop} {a b : Nat} {l s : Nat → Int} {w : La} {g : Cf} {st x3 : Int} {S : FS} {F F2 : FI} {G G2 : FJ} (hk0 : YK S F G a b l s w) (f : ∀ c, ¬ (11 ≤ c ∧ c ≤ 15) → F2 c = F c) (hG2 : ∀ i, i ≠ 20 → G2 i = G i) (hr : SR F2 11 l w g) (h4 : F2 11 4 = st) (hs0 : 0 ≤ st) (hst : st ≤ 12) (hc : CV l st g) (hcw : CW l g) (h3 : -1 ≤ x3) (h3' : x3 ≤ l 3)
    (ht : x3 < l 3 → ∀ p n, vs l st (x3 + 1) p n → GS G2 19 l g st (x3 + 1) p n)
    (hk : ∀ S' F' G', YK S' F' G' a b l s w → QC S S' F F' G G' → F' 1 17 = F 1 17 → TRY F' G' l g st → (∀ i, 11 ≤ i → i ≤ 15 → F' i = F2 i) → k S' F' G') : calV 6 257 [.inr (.inr (.inl 22)), .inr (.inr (.inl 11)), .inr (.inr (.inl 19)), .inl x3] (mm S F2 G2) k nof := by
  obtain ⟨ha, hb, ⟨k1, k2, k3, k4⟩, hv, hs, hw, hl, hrw, hpr, v1, v2, v3, v4, v5, v6⟩ := id hk0
  have fk : ∀ i, kpC i → F2 i = F i := fun i hi => f i (by unfold kpC at hi; omega)
  have hx := YK_Y (c := 11) (d := 19) (st := st) hk0 (Or.inr rfl) (Or.inr rfl) fk h4 (by rw [f 19 (by decide)]) hs0 hst
  have hx2 : YX (lk2S S 11 19) F2 G2 a b 11 19 l w st := YX_k hx (fun _ _ _ _ _ _ _ => rfl) hG2
  refine c_257r hx2 hr hc hcw (by rw [f 23 (by decide)]; exact v1) ?_ h3 h3' ht (fun F' G' g1 g2 g2' g3 g4 g5 g6 => ?_)
  · unfold RK
    rw [f 22 (by decide), f 24 (by decide)]
    exact v2
  · have o1 : ∀ i, i ≠ 22 → i ≠ 23 → i ≠ 24 → i ≠ 25 → i ≠ b + 4 → i ≠ b + 5 → i ≠ 21 → ¬ (11 ≤ i ∧ i ≤ 15) → F' i = F i := fun i i1 i2 i3 i4 i5 i6 i7 i8 => (g1 i i1 i2 i3 i4 i5 i6 i7).trans (f i i8)
    have q : QC S (lk2S S 11 19) F F' G G' := by
      refine QC_t (F1 := F) (G1 := G) QC_S ⟨fun c hc => ?_, fun i hi => ?_, fun c hc => (g4 c (by omega)).trans (hG2 c (by omega)), fun _ _ _ => rfl⟩
      · unfold kpC at hc
        exact o1 c (by omega) (by omega) (by omega) (by omega) (by omega) (by omega) (by omega) (by omega)
      · rw [o1 1 (by omega) (by omega) (by omega) (by omega) (by omega) (by omega) (by omega) (by omega)]
    have e1 : F' 1 = F 1 := o1 1 (by omega) (by omega) (by omega) (by omega) (by omega) (by omega) (by omega) (by omega)
    refine hk _ F' G' (YK_q hk0 q ⟨g5, Or.inr ⟨?_, ?_⟩, ?_, ?_, ?_, fun z => ?_⟩) q (by rw [e1]) ⟨?_, g6⟩ (fun i i1 i2 => g1 i (by omega) (by omega) (by omega) (by omega) (by omega) (by omega) (by omega))
    · rw [g3.1]
      exact hs0
    · rw [g3.1]
      exact g3.2
    · rw [o1 16 (by omega) (by omega) (by omega) (by omega) (by omega) (by omega) (by omega) (by omega)]
      exact v3
    · rw [o1 19 (by omega) (by omega) (by omega) (by omega) (by omega) (by omega) (by omega) (by omega)]
      exact v4
    · rw [e1]
      exact v5
    · rw [e1] at z
      obtain ⟨s1, s2, s3, s4⟩ := v6 z
      have g17 : G' 17 = G 17 := (g4 17 (by decide)).trans (hG2 17 (by decide))
      refine ⟨?_, ?_, fun h p n hw o ho => ?_, ?_⟩
      · rw [o1 7 (by omega) (by omega) (by omega) (by omega) (by omega) (by omega) (by omega) (by omega)]
        exact s1
      · rw [o1 6 (by omega) (by omega) (by omega) (by omega) (by omega) (by omega) (by omega) (by omega)]
        exact s2
      · rw [show (16 : Nat) + 1 = 17 from rfl, g17]
        exact s3 h p n hw o ho
      · rw [o1 18 (by omega) (by omega) (by omega) (by omega) (by omega) (by omega) (by omega) (by omega)]
        exact s4
    · rw [g1 11 (by omega) (by omega) (by omega) (by omega) (by omega) (by omega) (by omega)]
      exact h4
theorem sTo_e {F0 : FI} {e : Int} {G : FJ} {d : Nat} {g : Cf} {st : Int} (hv : LV (F0 100)) (h0 : e = 1 ∨ e = 2) (h : GS G d (F0 100) g st 0 (F0 100 6) st) : G (d + 1) (sp d 0 (F0 100 6) st * 12 + (e - 1)).toNat = sCh (F0 100) g st e (F0 100 3).toNat (F0 100 6) st := by
  obtain ⟨⟨hv1, hv2⟩, ⟨hv3, hv4⟩, ⟨hv5, hv6⟩, ⟨hv7, hv8⟩, ⟨hv9, hv10⟩, ⟨hv11, hv12⟩, ⟨hv13, hv14⟩, hvw, hvs, hvk, hvc, hvx⟩ := id hv
  rw [h (e - 1) ⟨by omega, Or.inl (by omega)⟩, show F0 100 3 - 0 = F0 100 3 by omega]
  unfold fC
  rcases h0 with q | q <;> subst q
  · rw [if_pos (by decide)]
  · rw [if_neg (by decide), if_pos (by decide)]
theorem p_34 {k : Int → FS → FI → FJ → Prop} {kx : Nat → FS → FI → FJ → Prop} {a b : Nat} {l s : Nat → Int} {w : La} {x1 : Int} {F0 : FI} {S : FS} {F : FI} {G : FJ} (hR : F0 100 = l ∧ F0 112 = s ∧ mL F0 = w) (hL : hasL S F a) (hK : 1 ≤ F a 9 → YK S F G a b l s w) (noL : F a 9 < 1 → kx 3 S (rfc F 3) G) (noA : 1 ≤ F a 9 → ¬ (0 ≤ x1 ∧ x1 ≤ 1) → kx 2 S (rfc F 2) G)
    (ok : 1 ≤ F a 9 → 0 ≤ x1 ∧ x1 ≤ 1 → ∀ S' F' G', YK S' F' G' a b l s w → QC S S' F F' G G' → k (sEd F0 (x1 + 1)) S' F' G') : calL 8 34 [.inr (.inr (.inl 1)), .inl x1] (mm S F G) k kx := by
  obtain ⟨rfl, rfl, rfl⟩ := hR
  refine sg_34_0 (c_51 hL.1 hL.2 (fun q => ?_) (fun q => ex_3 ⟨_, _, _, rfl, noL q⟩))
  have hk0 := hK q
  have hv := hk0.2.2.2.1
  have hv' := hv
  obtain ⟨⟨hv1, hv2⟩, ⟨hv3, hv4⟩, ⟨hv5, hv6⟩, ⟨hv7, hv8⟩, ⟨hv9, hv10⟩, ⟨hv11, hv12⟩, ⟨hv13, hv14⟩, hvw, hvs, hvk, hvc, hvx⟩ := id hv
  have fin : ∀ e : Int, e = 1 ∨ e = 2 → ∀ S1 F1 G1, YK S1 F1 G1 a b (F0 100) (F0 112) (mL F0) → F1 1 17 = 1 → ∀ kz : Int → FS → FI → FJ → Prop, (0 ≤ sp 16 0 (F0 100 6) (F0 100 4) * 12 ∧ sp 16 0 (F0 100 6) (F0 100 4) * 12 ≤ 46788 → G1 17 (sp 16 0 (F0 100 6) (F0 100 4) * 12 + (e - 1)).toNat = sEd F0 e → kz (sp 16 0 (F0 100 6) (F0 100 4) * 12) S1 F1 G1) → calI 1 61 [.inr (.inr (.inl 1)), .inr (.inr (.inl 16)), .inr (.inr (.inl 6))] (mm S1 F1 G1) kz nof := by
    intro e he S1 F1 G1 y1 z1 kz hkz
    obtain ⟨ha, hb, ⟨k1, k2, k3, k4⟩, -, hs, hw, hl, hrw, hpr, v1, v2, v3, v4, v5, v6⟩ := id y1
    obtain ⟨so1, so2, so3, so4⟩ := v6 z1
    have sb := sp_b (d := 16) (h := 0) (p := F0 100 6) (n := F0 100 4) (Or.inl rfl) (by omega) (by omega) hv13 (by omega) (by omega) (by omega)
    have t16 : tN 16 = 46800 := rfl
    refine sg_61_0 ?_
    simp only [k1, lk ha, lk1 ha, lk2 ha, lk3 ha, lk4 ha, lk5 ha, lk6 ha, lk7 ha, lk8 ha, lk9 ha, lr0 ha, lr1 ha, lr2 ha, lr3 ha, lr4 ha, lr5 ha, lr6 ha, lr7 ha, lr8 ha, hl.1.2.2.2.2.2.2, so2, show kk 16 = (0, 7) from rfl, show kk 6 = (0, 5) from rfl]
    refine ck_i rfl (ck_i rfl (ck_i rfl (c_271 (Or.inl rfl) v3 hv13 (by omega) (by omega) (by omega) (by omega) (by omega) (fun v ev => ⟨_, _, _, rfl, ?_⟩))))
    rw [ev, wr_id (by omega) (by omega)]
    exact hkz ⟨by omega, by omega⟩ (sTo_e hv' he (so3 0 (F0 100 6) (F0 100 4) ⟨by omega, by omega, hv13, hv14, by omega, Int.le_refl _⟩))
  have w0 : ∀ x : Int, 0 ≤ x ∧ x ≤ 46788 → wr (x + 0) = x := fun x h => by
    rw [wr_id (by omega) (by omega)]
    omega
  have w1 : ∀ x : Int, 0 ≤ x ∧ x ≤ 46788 → wr (x + 1) = x + 1 := fun x h => wr_id (by omega) (by omega)
  refine cn_i (fun y => c_55_1 ?_) (fun y => cn_i (fun y2 => c_55_1 ?_) (fun y2 => c_55_0 (ex_2 ⟨_, _, _, rfl, noA q (by omega)⟩)))
  · refine c_60 hk0 (fun S1 F1 G1 y1 q1 z1 => cd_t y (fin 1 (Or.inl rfl) S1 F1 G1 y1 z1 _ (fun b1 b2 => ?_)))
    rw [w0 _ b1]
    rw [show sp 16 0 (F0 100 6) (F0 100 4) * 12 + (1 - 1) = sp 16 0 (F0 100 6) (F0 100 4) * 12 by omega] at b2
    rw [b2]
    have := ok q (by omega) S1 F1 G1 y1 q1
    rw [y] at this
    exact ck_i (jb_i b1.1 (by omega)) ⟨_, _, _, rfl, this⟩
  · refine c_60 hk0 (fun S1 F1 G1 y1 q1 z1 => cd_f y (fin 2 (Or.inr rfl) S1 F1 G1 y1 z1 _ (fun b1 b2 => ?_)))
    rw [w1 _ b1]
    rw [show sp 16 0 (F0 100 6) (F0 100 4) * 12 + (2 - 1) = sp 16 0 (F0 100 6) (F0 100 4) * 12 + 1 by omega] at b2
    rw [b2]
    have := ok q (by omega) S1 F1 G1 y1 q1
    rw [y2] at this
    exact ck_i (jb_i (by omega) (by omega)) ⟨_, _, _, rfl, this⟩
/-- a loaded scene, but for who leads and the round -/
def SLo (F : FI) (l s : Nat → Int) : Prop := (∀ k : Int, 0 ≤ k → k < 5 → F 13 k.toNat = s k.toNat) ∧ (∀ h : Int, 0 ≤ h → h < 24 → F 14 h.toNat = s (5 + h).toNat) ∧ F 11 5 = -1 ∧ F 11 6 = 0
theorem SLo_R {F : FI} {F0 : FI} {g1 : Int → Int} (hv : LV (F0 100)) (h : SLo F (F0 100) (F0 112)) (h1 : ∀ x, 0 ≤ x → x < F0 100 3 → F 12 x.toNat = g1 x) : SR F 11 (F0 100) (mL F0) (g1, (cBs F0).2) := by
  obtain ⟨⟨hv1, hv2⟩, ⟨hv3, hv4⟩, ⟨hv5, hv6⟩, ⟨hv7, hv8⟩, ⟨hv9, hv10⟩, ⟨hv11, hv12⟩, ⟨hv13, hv14⟩, hvw, hvs, hvk, hvc, hvx⟩ := id hv
  refine ⟨h1, fun k k0 k1 => ?_, fun x x0 x1 => h.2.1 x x0 (by omega), ?_, fun q => absurd rfl q⟩
  · show F 13 k.toNat = if (0 : Int) = 1 then 7 else if k = -1 ∨ k = -1 then 6 else F0 112 k.toNat
    rw [if_neg (by decide), if_neg (by omega)]
    exact h.1 k k0 (by omega)
  · show sMask (F0 100) (mL F0) (-1) = _
    rw [h.2.2.1]
theorem SLo_k {F F' : FI} {l s : Nat → Int} (h : SLo F l s) (h1 : F' 13 = F 13) (h2 : F' 14 = F 14) (h3 : F' 11 5 = F 11 5) (h4 : F' 11 6 = F 11 6) : SLo F' l s := by
  unfold SLo at h ⊢
  rw [h1, h2, h3, h4]
  exact h
/-- leaders told anew, and tried -/
theorem m_led {k : Int → FS → FI → FJ → Prop} {a b : Nat} {F0 : FI} {G0 : FJ} {n x1 : Int} {f : Int → Int} {S : FS} {F : FI} {G : FJ} (hm : MV F0 G0) (hk0 : YK S F G a b (F0 100) (F0 112) (mL F0)) (h4 : F 11 4 = F0 100 4) (hsl : SLo F (F0 100) (F0 112)) (n1 : 1 ≤ n) (n2 : n ≤ 12) (p0 : -1 ≤ x1) (p1 : x1 < F0 100 2)
    (hf : ∀ h, 0 ≤ h → h < F0 100 3 → f h = F 15 (Int.tmod (Int.tdiv h n) (F0 100 2)).toNat) (hfb : ∀ h, 0 ≤ h → h < F0 100 3 → 0 ≤ f h ∧ f h < F0 100 2)
    (hk : ∀ S' F' G', YK S' F' G' a b (F0 100) (F0 112) (mL F0) → QC S S' F F' G G' → F' 11 4 = F0 100 4 → SLo F' (F0 100) (F0 112) → F' 15 = F 15 → k (sTo (F0 100) (cLw F0 f) (F0 100 4) x1) S' F' G') :
    calV 0 249 [.inr (.inr (.inl 11)), .inr (.inr (.inl a)), .inr (.inr (.inl 31)), .inl n] (mm S F G) (fun S1 F1 G1 => chk (kq (kk (S1 1 0)) 0 0) (calV 6 257 [.inr (.inr (.inl 22)), .inr (.inr (.inl 11)), .inr (.inr (.inl 19)), .inl (F1 (S1 1 0) 12)] (mm S1 F1 G1) (fun S2 F2 G2 => calL 2 62 [.inr (.inr (.inl 1)), .inr (.inr (.inl 19)), .inr (.inr (.inl 11)), .inl x1] (mm S2 F2 G2) k nof) nof)) nof := by
  obtain ⟨ha, hb, ⟨k1, k2, k3, k4⟩, hv, hs, hlw, hl, hrw, hpr, -⟩ := id hk0
  have hv' := hv
  obtain ⟨⟨hv1, hv2⟩, ⟨hv3, hv4⟩, ⟨hv5, hv6⟩, ⟨hv7, hv8⟩, ⟨hv9, hv10⟩, ⟨hv11, hv12⟩, ⟨hv13, hv14⟩, hvw, hvs, hvk, hvc, hvx⟩ := id hv
  have cv := cLw_v hm hfb
  refine c_249 ha (Or.inr rfl) n1 n2 hl.1.2.2.1 hv5 hv6 (fun F1 f1 f2 => ?_)
  have o1 : ∀ c, ¬ (11 ≤ c ∧ c ≤ 15) → F1 c = F c := fun c hc => f1 c (by omega)
  simp only [k1, lk ha, lk1 ha, lk2 ha, lk3 ha, lk4 ha, lk5 ha, lk6 ha, lk7 ha, lk8 ha, lk9 ha, lr0 ha, lr1 ha, lr2 ha, lr3 ha, lr4 ha, lr5 ha, lr6 ha, lr7 ha, lr8 ha]
  rw [o1 a (by omega), hl.1.2.2.2.1]
  have sl1 : SLo F1 (F0 100) (F0 112) := SLo_k hsl (f1 13 (by decide)) (f1 14 (by decide)) (by rw [f1 11 (by decide)]) (by rw [f1 11 (by decide)])
  refine ck_i rfl (m_try2 (g := cLw F0 f) (st := F0 100 4) hk0 o1 (fun _ _ => rfl) (SLo_R hv' sl1 (fun x x0 x1' => ?_)) (by rw [f1 11 (by decide)]; exact h4) (by omega) (by omega) cv (sCf_w (w := mL F0) hs hv') (by omega) (by omega) (fun q => absurd q (by omega)) (fun S' F' G' y1 y2 y3 y4 y5 => ?_))
  · have e := f2 x x0 (by omega)
    have e2 := hpr.2.2.1 x x0 (by omega)
    unfold ldR at e
    rw [show (31 : Nat) + 3 = 34 from rfl] at e2
    rw [show (11 : Nat) + 1 = 12 from rfl, show (11 : Nat) + 4 = 15 from rfl, e2, ← hf x x0 x1'] at e
    rw [e]
    rfl
  · have hl' := y1.2.2.2.2.2.2.1
    refine c_62 ha (Or.inr rfl) (Or.inr rfl) y1.2.2.1.1 hv' ⟨hl'.1.2.2.1, hl'.1.2.2.2.2.2.2⟩ (by omega) (by omega) cv y4.2 y4.1 y1.2.2.2.2.2.2.2.2.2.2.2.2.1 p0 p1 ?_
    exact hk S' F' G' y1 y2 y4.1 (SLo_k sl1 (y5 13 (by decide) (by decide)) (y5 14 (by decide) (by decide)) (by rw [y5 11 (by decide) (by decide)]) (by rw [y5 11 (by decide) (by decide)])) ((y5 15 (by decide) (by decide)).trans (f1 15 (by decide)))
theorem l_30 {Q : Rs → Mm → Prop} {a b : Nat} {F0 : FI} {G0 : FJ} {x1 x2 y3 x5 : Int} {S S0 : FS} {F Fz : FI} {G Gz : FJ} (hm : MV F0 G0) (hk0 : YK S F G a b (F0 100) (F0 112) (mL F0)) (hq : QC S0 S Fz F Gz G) (h4 : F 11 4 = F0 100 4) (hsl : SLo F (F0 100) (F0 112)) (h15 : ∀ i : Int, 0 ≤ i → i < 5 → F 15 i.toNat = i) (p0 : -1 ≤ x1) (p1 : x1 < F0 100 2) (h5 : 1 ≤ x5) (h5' : x5 ≤ 13) (e2 : x2 = sLn F0 x1 (x5 - 1).toNat) (e3 : x2 ≠ -1 → y3 = sLnV F0 x1 x2)
    (hk : ∀ S' F' G', YK S' F' G' a b (F0 100) (F0 112) (mL F0) → QC S0 S' Fz F' Gz G' → Q (.inl (some (.inl (sLn F0 x1 12)))) (mm S' F' G')) : wph 7 30 31 [.inr (.inr (.inl 1)), .inl x1, .inl x2, .inr (.inl y3), jk, .inl x5] [] (mm S F G) (2, 12) Q := by
  obtain ⟨ha, hb, ⟨k1, k2, k3, k4⟩, hv, hs, hlw, hl, hrw, hpr, -⟩ := id hk0
  have hv' := hv
  obtain ⟨⟨hv1, hv2⟩, ⟨hv3, hv4⟩, ⟨hv5, hv6⟩, ⟨hv7, hv8⟩, ⟨hv9, hv10⟩, ⟨hv11, hv12⟩, ⟨hv13, hv14⟩, hvw, hvs, hvk, hvc, hvx⟩ := id hv
  refine tg_30_31 ?_
  simp only [k1]
  refine cn_i (fun y => ?_) (fun y => ?_)
  · rw [e2, show (x5 - 1).toNat = 12 by omega]
    exact hk S F G hk0 hq
  · have fb : ∀ h, 0 ≤ h → h < F0 100 3 → 0 ≤ fLn F0 x5 h ∧ fLn F0 x5 h < F0 100 2 := fun h h0 h1 => by
      have d := div_b (d := x5) h0 h5
      exact mod_b d.1 hv5
    have en : sLn F0 x1 (x5 + 1 - 1).toNat = if x2 = -1 ∨ sLnV F0 x1 x2 < sLnV F0 x1 x5 then x5 else x2 := by
      rw [show (x5 + 1 - 1).toNat = (x5 - 1).toNat + 1 by omega, e2]
      show (if _ then (((x5 - 1).toNat : Nat) : Int) + 1 else _) = _
      rw [show (((x5 - 1).toNat : Nat) : Int) + 1 = x5 by omega]
    refine m_led (f := fLn F0 x5) hm hk0 h4 hsl h5 (by omega) p0 p1 (fun h h0 h1 => ?_) fb (fun S' F' G' y1 y2 y3' y4 y5 => ?_)
    · have := fb h h0 h1
      unfold fLn at this ⊢
      exact (h15 _ this.1 (by omega)).symm
    · rw [wr_id (a := x5 + 1) (by omega) (by omega)]
      have ev : sTo (F0 100) (cLw F0 (fLn F0 x5)) (F0 100 4) x1 = sLnV F0 x1 x5 := rfl
      rw [ev]
      rw [← y5] at h15
      refine cn_i (fun u => ?_) (fun u => cn_i (fun u2 => ?_) (fun u2 => ?_))
      · exact l_30 hm y1 (QC_t hq y2) y3' y4 h15 p0 p1 (by omega) (by omega) (by rw [en, if_pos (Or.inl u)]) (fun _ => rfl) hk
      · rw [e3 u] at u2
        exact l_30 hm y1 (QC_t hq y2) y3' y4 h15 p0 p1 (by omega) (by omega) (by rw [en, if_pos (Or.inr (lc_p.mp u2))]) (fun _ => rfl) hk
      · rw [e3 u] at u2
        exact l_30 hm y1 (QC_t hq y2) y3' y4 h15 p0 p1 (by omega) (by omega) (by rw [en, if_neg (fun r => r.elim u (fun r => u2 (lc_p.mpr r)))]) e3 hk
termination_by (13 - x5).toNat
decreasing_by all_goals omega
/-- a scene is loaded to be tried -/
theorem m_load {k : FS → FI → FJ → Prop} {a b : Nat} {F0 : FI} {S : FS} {F : FI} {G : FJ} (hk0 : YK S F G a b (F0 100) (F0 112) (mL F0))
    (hk : ∀ F', YK S F' G a b (F0 100) (F0 112) (mL F0) → QC S S F F' G G → F' 11 4 = F0 100 4 → SLo F' (F0 100) (F0 112) → (∀ i : Int, 0 ≤ i → i < 5 → F' 15 i.toNat = i) → (∀ h : Int, 0 ≤ h → h < 24 → F' 12 h.toNat = sLd (F0 100) (F0 112) h) → k S F' G) : calV 1 247 [.inr (.inr (.inl 11)), .inr (.inr (.inl a)), .inr (.inr (.inl 31))] (mm S F G) k nof := by
  obtain ⟨ha, hb, ⟨k1, k2, k3, k4⟩, hv, hs, hlw, hl, hrw, hpr, v1, v2, v3, v4, v5, v6⟩ := id hk0
  refine c_247 ha (Or.inr rfl) hv hs hl hpr (fun F1 f1 f2 f3 f4 => ?_)
  have o1 : ∀ c, ¬ (11 ≤ c ∧ c ≤ 15) → F1 c = F c := fun c hc => f1 c (by omega) (by omega) (by omega) (by omega) (by omega)
  have q : QC S S F F1 G G := ⟨fun c hc => o1 c (by unfold kpC at hc; omega), fun i _ => by rw [o1 1 (by decide)], fun _ _ => rfl, fun _ _ _ => rfl⟩
  refine hk F1 (YK_q hk0 q ⟨?_, ?_, ?_, ?_, ?_, fun z => ?_⟩) q f4.2.1 ⟨fun k k0 k1 => f3 k k0 k1, f4.1, f4.2.2.1, f4.2.2.2.1⟩ f4.2.2.2.2 f2
  · rw [o1 23 (by decide)]; exact v1
  · unfold RK
    rw [o1 22 (by decide), o1 24 (by decide)]
    exact v2
  · rw [o1 16 (by decide)]; exact v3
  · rw [o1 19 (by decide)]; exact v4
  · rw [o1 1 (by decide)]; exact v5
  · rw [o1 1 (by decide)] at z
    have := v6 z
    unfold SOL at this ⊢
    rw [o1 7 (by decide), o1 6 (by decide), o1 18 (by decide)]
    exact this
theorem p_30 {k : Int → FS → FI → FJ → Prop} {kx : Nat → FS → FI → FJ → Prop} {a b : Nat} {l s : Nat → Int} {w : La} {x1 : Int} {F0 : FI} {G0 : FJ} {S : FS} {F : FI} {G : FJ} (hR : F0 100 = l ∧ F0 112 = s ∧ mL F0 = w) (hM : 1 ≤ F a 9 → MV F0 G0) (hL : hasL S F a) (hK : 1 ≤ F a 9 → YK S F G a b l s w) (noL : F a 9 < 1 → kx 3 S (rfc F 3) G) (noP : 1 ≤ F a 9 → ¬ (-1 ≤ x1 ∧ x1 < l 2) → kx 0 S (rfc F 0) G)
    (ok : 1 ≤ F a 9 → -1 ≤ x1 ∧ x1 < l 2 → ∀ S' F' G', YK S' F' G' a b l s w → QC S S' F F' G G' → k (sLn F0 x1 12) S' F' G') : calI 7 30 [.inr (.inr (.inl 1)), .inl x1] (mm S F G) k kx := by
  obtain ⟨rfl, rfl, rfl⟩ := hR
  refine sg_30_0 (c_51 hL.1 hL.2 (fun q => ?_) (fun q => ex_3 ⟨_, _, _, rfl, noL q⟩))
  have hk0 := hK q
  obtain ⟨ha, hb, ⟨k1, k2, k3, k4⟩, hv, hs, hw, hl, hrw, hpr, -⟩ := id hk0
  have hv' := hv
  obtain ⟨⟨hv1, hv2⟩, ⟨hv3, hv4⟩, ⟨hv5, hv6⟩, ⟨hv7, hv8⟩, ⟨hv9, hv10⟩, ⟨hv11, hv12⟩, ⟨hv13, hv14⟩, hvw, hvs, hvk, hvc, hvx⟩ := id hv
  refine c_53 ha k1 hl.1.2.2.1 (by omega) (fun p => ?_) (fun p => ex_0 ⟨_, _, _, rfl, noP q p⟩)
  simp only [k1]
  exact m_load hk0 (fun F1 y1 q1 h4 hsl h15 _ => l_30 (hM q) y1 q1 h4 hsl h15 p.1 p.2 (by omega) (by omega) rfl (fun u => absurd rfl u) (fun S' F' G' y2 q2 => ⟨_, _, _, rfl, ok q p S' F' G' y2 q2⟩))
theorem l_46 {Q : Rs → Mm → Prop} {a b : Nat} {F0 : FI} {S0 : FS} {Fz : FI} {Gz : FJ} (hk : ∀ S' F' G', YK S' F' G' a b (F0 100) (F0 112) (mL F0) → QC S0 S' Fz F' Gz G' → Q (.inl (some (.inl (sNf (sSu F0) 12)))) (mm S' F' G')) : ∀ (K j : Nat) (S : FS) (F : FI) (G : FJ), K + j = 12 → YK S F G a b (F0 100) (F0 112) (mL F0) → QC S0 S Fz F Gz G → SLo F (F0 100) (F0 112) → (∀ h : Int, 0 ≤ h → h < 24 → F 12 h.toNat = sLd (F0 100) (F0 112) h) → sNf (sSu F0) j = -1 →
    wph 7 46 21 [.inr (.inr (.inl 1)), .inl ((j : Int) + 1)] [] (mm S F G) (1, 6) Q := by
  intro K
  induction K with
  | zero =>
    intro j S F G hj hk0 hq hsl h12 hn
    refine tg_46_21 (cd_t (by omega) ?_)
    have := hk S F G hk0 hq
    rw [show (12 : Nat) = j by omega, hn] at this
    exact this
  | succ K ih =>
    intro j S F G hj hk0 hq hsl h12 hn
    obtain ⟨ha, hb, ⟨k1, k2, k3, k4⟩, hv, hs, hlw, hl, hrw, hpr, -⟩ := id hk0
    have hv' := hv
    obtain ⟨⟨hv1, hv2⟩, ⟨hv3, hv4⟩, ⟨hv5, hv6⟩, ⟨hv7, hv8⟩, ⟨hv9, hv10⟩, ⟨hv11, hv12⟩, ⟨hv13, hv14⟩, hvw, hvs, hvk, hvc, hvx⟩ := id hv
    refine tg_46_21 (cd_f (by omega) ?_)
    simp only [k1, lk ha, lk1 ha, lk2 ha, lk3 ha, lk4 ha, lk5 ha, lk6 ha, lk7 ha, lk8 ha, lk9 ha, lr0 ha, lr1 ha, lr2 ha, lr3 ha, lr4 ha, lr5 ha, lr6 ha, lr7 ha, lr8 ha]
    have o1 : ∀ c, ¬ (11 ≤ c ∧ c ≤ 15) → u2 F 11 4 ((j : Int) + 1) c = F c := fun c hc => u2_o (by omega)
    rw [o1 a (by omega), hl.1.2.2.2.1]
    have sl1 : SLo (u2 F 11 4 ((j : Int) + 1)) (F0 100) (F0 112) := SLo_k hsl (u2_o (by decide)) (u2_o (by decide)) (u2_n (by decide)) (u2_n (by decide))
    have cv := sCf_v (w := mL F0) ((j : Int) + 1) hv' hs
    refine ck_i rfl (m_try2 (g := cBs F0) (st := (j : Int) + 1) hk0 o1 (fun _ _ => rfl) (SLo_R (g1 := fun h => sLd (F0 100) (F0 112) h) hv' sl1 (fun x x0 x1' => by rw [u2_o (by decide)]; exact h12 x x0 (by omega))) u2_s (by omega) (by omega) cv (sCf_w (w := mL F0) hs hv') (by omega) (by omega) (fun q => absurd q (by omega)) (fun S' F' G' y1 y2 y3 y4 y5 => ?_))
    obtain ⟨-, -, ⟨k1', -, -, -⟩, -, -, -, hl', -, -, v1, v2, v3, v4, v5, v6⟩ := id y1
    have sb := sp_b (d := 19) (h := 0) (p := F0 100 6) (n := (j : Int) + 1) (Or.inr rfl) (by omega) (by omega) hv13 (by omega) (by omega) (by omega)
    have t19 : tN 19 = 3744 := rfl
    refine sg_61_0 ?_
    simp only [k1', lk ha, lk1 ha, lk2 ha, lk3 ha, lk4 ha, lk5 ha, lk6 ha, lk7 ha, lk8 ha, lk9 ha, lr0 ha, lr1 ha, lr2 ha, lr3 ha, lr4 ha, lr5 ha, lr6 ha, lr7 ha, lr8 ha, hl'.1.2.2.2.2.2.2, y4.1, show kk 19 = (0, 7) from rfl, show kk 11 = (0, 5) from rfl]
    refine ck_i rfl (ck_i rfl (ck_i rfl (c_271 (Or.inr rfl) v4 hv13 (by omega) (by omega) (by omega) (by omega) (by omega) (fun v ev => ⟨_, _, _, rfl, ?_⟩))))
    simp only [k1', lk ha, lk1 ha, lk2 ha, lk3 ha, lk4 ha, lk5 ha, lk6 ha, lk7 ha, lk8 ha, lk9 ha, lr0 ha, lr1 ha, lr2 ha, lr3 ha, lr4 ha, lr5 ha, lr6 ha, lr7 ha, lr8 ha]
    have es := sTo_e (e := 1) hv' (Or.inl rfl) y4.2
    rw [show (19 : Nat) + 1 = 20 from rfl, show sp 19 0 (F0 100 6) ((j : Int) + 1) * 12 + (1 - 1) = sp 19 0 (F0 100 6) ((j : Int) + 1) * 12 by omega] at es
    have sc := hl'.2.2.2.2.2.2.1 0 (by omega) (by omega)
    have sc' : G' (a + 8) 0 = sScH (F0 100) 0 := sc
    rw [ev, wr_id (a := sp 19 0 (F0 100 6) ((j : Int) + 1) * 12) (by omega) (by omega), wr_id (a := sp 19 0 (F0 100 6) ((j : Int) + 1) * 12 + 0) (by omega) (by omega), show sp 19 0 (F0 100 6) ((j : Int) + 1) * 12 + 0 = sp 19 0 (F0 100 6) ((j : Int) + 1) * 12 by omega, es, sc', wr_id (a := (j : Int) + 1 + 1) (by omega) (by omega)]
    have en : sNf (sSu F0) (j + 1) = @ite _ (sSu F0 ((j : Int) + 1)) (Classical.propDecidable _) ((j : Int) + 1) (-1) := by
      show (if sNf (sSu F0) j = -1 then _ else _) = _
      rw [if_pos hn]
    refine ck_i (jb_i (by omega) (by omega)) (ck_i rfl (ck_i rfl (ck_i rfl (cn_i (fun u => ?_) (fun u => ?_)))))
    · have hs' : sSu F0 ((j : Int) + 1) := lc_z.mp u
      rw [if_pos hs'] at en
      have := hk S' F' G' y1 (QC_t hq y2)
      rw [sNf_k (j := j + 1) (k := 12) (by rw [en]; omega) (by omega), en] at this
      exact this
    · have hs' : ¬ sSu F0 ((j : Int) + 1) := fun r => u (lc_z.mpr r)
      rw [if_neg hs'] at en
      rw [show (j : Int) + 1 = ((j + 1 : Nat) : Int) by omega]
      exact ih (j + 1) S' F' G' (by omega) y1 (QC_t hq y2) (SLo_k sl1 (y5 13 (by decide) (by decide)) (y5 14 (by decide) (by decide)) (by rw [y5 11 (by decide) (by decide)]) (by rw [y5 11 (by decide) (by decide)])) (fun h h0 h1 => by rw [y5 12 (by decide) (by decide), u2_o (by decide)]; exact h12 h h0 h1) en
theorem p_46 {k : Int → FS → FI → FJ → Prop} {kx : Nat → FS → FI → FJ → Prop} {a b : Nat} {l s : Nat → Int} {w : La} {F0 : FI} {S : FS} {F : FI} {G : FJ} (hR : F0 100 = l ∧ F0 112 = s ∧ mL F0 = w) (hL : hasL S F a) (hK : 1 ≤ F a 9 → YK S F G a b l s w) (noL : F a 9 < 1 → kx 3 S (rfc F 3) G)
    (ok : 1 ≤ F a 9 → ∀ S' F' G', YK S' F' G' a b l s w → QC S S' F F' G G' → k (sNf (sSu F0) 12) S' F' G') : calI 7 46 [.inr (.inr (.inl 1))] (mm S F G) k kx := by
  obtain ⟨rfl, rfl, rfl⟩ := hR
  refine sg_46_0 (c_51 hL.1 hL.2 (fun q => ?_) (fun q => ex_3 ⟨_, _, _, rfl, noL q⟩))
  have hk0 := hK q
  simp only [hk0.2.2.1.1]
  exact m_load hk0 (fun F1 y1 q1 h4 hsl h15 h12 => l_46 (fun S' F' G' y2 q2 => ⟨_, _, _, rfl, ok q S' F' G' y2 q2⟩) 12 0 S F1 G rfl y1 q1 hsl h12 rfl)
