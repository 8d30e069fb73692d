/-! ===== the class answers: arrivals, visits ===== -/
theorem iv_no {l : Nat → Int} {st : Int} {p k : Nat} (h1 : (st : Int) + 1 ≤ (k : Int) - p * 13) (h2 : k < (p + 1) * 13) : ¬ iv l st k := fun q => by
  have := q.2
  unfold iN at this
  omega
set_option maxRecDepth 100000 in
theorem l_297_89 {Q : Rs → Mm → Prop} {a b : Nat} {F0 : FI} {h p : Nat} {S S0 : FS} {Fz : FI} {Gz : FJ} (hv : LV (F0 100)) (hh : (h : Int) ≤ F0 100 3) (hp : (p : Int) < F0 100 0)
    (hk : ∀ F' G', FA S F' G' a b F0 h (p + 1) 0 → QC S0 S Fz F' Gz G' → wph 3 297 77 [.inr (.inr (.inl 26)), .inr (.inr (.inl a)), .inr (.inr (.inl 16)), .inl (h : Int), .inl ((p : Int) + 1)] [] (mm S F' G') (0, 0) Q) :
    ∀ (K n : Nat) (F : FI) (G : FJ), (K : Int) = F0 100 4 + 1 - n → FA S F G a b F0 h p n → QC S0 S Fz F Gz G → wph 3 297 89 [.inr (.inr (.inl 26)), .inr (.inr (.inl a)), .inr (.inr (.inl 16)), .inl (h : Int), .inl (p : Int), .inl (n : Int)] [] (mm S F G) (0, 0) Q := by
  have hv' := hv
  obtain ⟨⟨hv1, hv2⟩, ⟨hv3, hv4⟩, ⟨hv5, hv6⟩, ⟨hv7, hv8⟩, ⟨hv9, hv10⟩, ⟨hv11, hv12⟩, ⟨hv13, hv14⟩, hvw, hvs, hvk, hvc, hvx⟩ := id hv
  intro K
  induction K with
  | zero =>
    intro n F G hK fa q1
    have hl := fa.1.1.2.2.2.2.2.2.1
    have ha := fa.1.1.1
    refine sg_297_89 ?_
    simp only [lk ha, lk1 ha, lk2 ha, lk3 ha, lk4 ha, lk5 ha, lk6 ha, lk7 ha, lk8 ha, lk9 ha, lr0 ha, lr1 ha, lr2 ha, lr3 ha, lr4 ha, lr5 ha, lr6 ha, lr7 ha, lr8 ha, hl.1.2.2.2.2.1]
    rw [wr_id (a := (p : Int) + 1) (by omega) (by omega)]
    refine ck_i rfl (cd_t (by omega) (hk F G ⟨fa.1, ?_, ?_, SY_p fa.2.2.2 (by omega)⟩ q1))
    · exact FW_z fa.2.1 (by omega) (fun k k1 k2 p' n' => iW_n (fun x => iv_no (p := p) (by omega) (by omega) x.1))
    · exact AR_z fa.2.2.1 (by omega) (fun k k1 k2 e e1 e2 => iW_n (iv_no (p := p) (by omega) (by omega)))
  | succ K ih =>
    intro n F G hK fa q1
    obtain ⟨kL, fw, ar, sy⟩ := id fa
    obtain ⟨ha, hb, ⟨k1, k2, k3, k4⟩, -, hs, hlw, hl, hrw, hpr, v1, v2, v3, v4, v5, v6⟩ := id kL.1
    have hw : vs (F0 100) (F0 100 4) h p n := ⟨by omega, hh, by omega, hp, by omega, by omega⟩
    have cv := sCf_v (w := mL F0) (F0 100 4) hv' hs
    have hT : TK (F0 100) (sTk (F0 100) (cBs F0) (F0 100 4)) (F0 100 4) := TK_c hv' cv
    have mb := sMs_b (h := h) (p := (p : Int)) (n := (n : Int)) hv' (by omega) (by omega) hT hh (by omega) hp (by omega) (by omega)
    have scb := sScH_b hv' (h := (h : Int)) (by omega) hh
    have sb := sp_b (d := 16) (h := (h : Int)) (p := (p : Int)) (n := (n : Int)) (Or.inl rfl) (by omega) (by omega) (by omega) (by omega) (by omega) (by omega)
    have t16 : tM 16 = 3900 := rfl
    have am : G 28 (sp 16 h p n).toNat = sMs (F0 100) (sTk (F0 100) (cBs F0) (F0 100 4)) (F0 100 4) h p n * sScH (F0 100) h := by
      obtain ⟨g, fl, eg⟩ := fw
      have gM := (fl h p n hw).1 (Int.le_refl _)
      have := eg h p n hw
      rw [gM, show ((h : Int)).toNat = h by omega] at this
      exact this
    refine sg_297_89 ?_
    simp only [lk ha, lk1 ha, lk2 ha, lk3 ha, lk4 ha, lk5 ha, lk6 ha, lk7 ha, lk8 ha, lk9 ha, lr0 ha, lr1 ha, lr2 ha, lr3 ha, lr4 ha, lr5 ha, lr6 ha, lr7 ha, lr8 ha, hl.1.2.2.2.2.1, show kk 16 = (0, 7) from rfl]
    rw [wr_id (a := (n : Int) + 1) (by omega) (by omega)]
    refine ck_i rfl (cd_f (by omega) (ck_i rfl (c_271 (Or.inl rfl) v3 (by omega) (by omega) (by omega) (by omega) (by omega) (by omega) (fun v ev => ?_))))
    subst ev
    rw [am, show (n : Int) + 1 = ((n + 1 : Nat) : Int) by omega]
    refine ck_i (jb_i (by omega) (by omega)) (cn_i (fun z => ?_) (fun z => ?_))
    · have z0 := lc_z.mp z
      have M0 : sMs (F0 100) (sTk (F0 100) (cBs F0) (F0 100 4)) (F0 100 4) h p n = 0 := by
        rcases Int.mul_eq_zero.mp z0 with q | q
        · exact q
        · omega
      exact ih (n + 1) F G (by omega) ⟨kL, fl_0 (by omega) M0 fw ar sy⟩ q1
    · exact c_298 fa hw (fun F' G' fa' q2 => ih (n + 1) F' G' (by omega) fa' (QC_t q1 q2))
theorem l_297_77 {Q : Rs → Mm → Prop} {a b : Nat} {F0 : FI} {h : Nat} {S S0 : FS} {Fz : FI} {Gz : FJ} (hv : LV (F0 100)) (hh : (h : Int) ≤ F0 100 3)
    (hk : ∀ F' G', FA S F' G' a b F0 (h + 1) 0 0 → QC S0 S Fz F' Gz G' → wph 3 297 66 [.inr (.inr (.inl 26)), .inr (.inr (.inl a)), .inr (.inr (.inl 16)), .inl ((h : Int) + 1)] [] (mm S F' G') (0, 0) Q) :
    ∀ (K p : Nat) (F : FI) (G : FJ), (K : Int) = F0 100 0 - p → FA S F G a b F0 h p 0 → QC S0 S Fz F Gz G → wph 3 297 77 [.inr (.inr (.inl 26)), .inr (.inr (.inl a)), .inr (.inr (.inl 16)), .inl (h : Int), .inl (p : Int)] [] (mm S F G) (0, 0) Q := by
  have hv' := hv
  obtain ⟨⟨hv1, hv2⟩, ⟨hv3, hv4⟩, ⟨hv5, hv6⟩, ⟨hv7, hv8⟩, ⟨hv9, hv10⟩, ⟨hv11, hv12⟩, ⟨hv13, hv14⟩, hvw, hvs, hvk, hvc, hvx⟩ := id hv
  intro K
  induction K with
  | zero =>
    intro p F G hK fa q1
    have hl := fa.1.1.2.2.2.2.2.2.1
    have ha := fa.1.1.1
    refine sg_297_77 ?_
    simp only [lk ha, lk1 ha, lk2 ha, lk3 ha, lk4 ha, lk5 ha, lk6 ha, lk7 ha, lk8 ha, lk9 ha, lr0 ha, lr1 ha, lr2 ha, lr3 ha, lr4 ha, lr5 ha, lr6 ha, lr7 ha, lr8 ha, hl.1.1]
    rw [wr_id (a := (h : Int) + 1) (by omega) (by omega)]
    have no : ∀ k, p * 13 + 0 ≤ k → ¬ iv (F0 100) (F0 100 4) k := fun k k1 q => by
      have := q.1
      unfold iP at this
      omega
    refine ck_i rfl (cd_f (by omega) (hk F G ⟨fa.1, ?_, ?_, SY_h fa.2.2.2 (by omega)⟩ q1))
    · exact FW_n (FW_z fa.2.1 (by omega) (fun k k1 k2 p' n' => iW_n (fun x => no k k1 x.1)))
    · exact AR_n (AR_z fa.2.2.1 (by omega) (fun k k1 k2 e e1 e2 => iW_n (no k k1)))
  | succ K ih =>
    intro p F G hK fa q1
    have hl := fa.1.1.2.2.2.2.2.2.1
    have ha := fa.1.1.1
    refine sg_297_77 ?_
    simp only [lk ha, lk1 ha, lk2 ha, lk3 ha, lk4 ha, lk5 ha, lk6 ha, lk7 ha, lk8 ha, lk9 ha, lr0 ha, lr1 ha, lr2 ha, lr3 ha, lr4 ha, lr5 ha, lr6 ha, lr7 ha, lr8 ha, hl.1.1]
    exact ck_i rfl (cd_t (by omega) (l_297_89 hv' hh (by omega) (fun F' G' fa' q2 => ih (p + 1) F' G' (by omega) fa' q2) (F0 100 4 + 1).toNat 0 F G (by omega) fa q1))
theorem l_297_66 {Q : Rs → Mm → Prop} {a b : Nat} {F0 : FI} {S S0 : FS} {Fz : FI} {Gz : FJ} (hv : LV (F0 100))
    (hk : ∀ F' G', FA S F' G' a b F0 ((F0 100 3).toNat + 1) 0 0 → QC S0 S Fz F' Gz G' → Q (.inl none) (mm S F' G')) :
    ∀ (K h : Nat) (F : FI) (G : FJ), (K : Int) = F0 100 3 + 1 - h → FA S F G a b F0 h 0 0 → QC S0 S Fz F Gz G → wph 3 297 66 [.inr (.inr (.inl 26)), .inr (.inr (.inl a)), .inr (.inr (.inl 16)), .inl (h : Int)] [] (mm S F G) (0, 0) Q := by
  have hv' := hv
  obtain ⟨⟨hv1, hv2⟩, ⟨hv3, hv4⟩, ⟨hv5, hv6⟩, ⟨hv7, hv8⟩, ⟨hv9, hv10⟩, ⟨hv11, hv12⟩, ⟨hv13, hv14⟩, hvw, hvs, hvk, hvc, hvx⟩ := id hv
  intro K
  induction K with
  | zero =>
    intro h F G hK fa q1
    have hl := fa.1.1.2.2.2.2.2.2.1
    have ha := fa.1.1.1
    refine sg_297_66 ?_
    simp only [lk ha, lk1 ha, lk2 ha, lk3 ha, lk4 ha, lk5 ha, lk6 ha, lk7 ha, lk8 ha, lk9 ha, lr0 ha, lr1 ha, lr2 ha, lr3 ha, lr4 ha, lr5 ha, lr6 ha, lr7 ha, lr8 ha, hl.1.2.2.2.1]
    rw [show h = (F0 100 3).toNat + 1 by omega] at fa
    exact ck_i rfl (cd_t (by omega) (hk F G fa q1))
  | succ K ih =>
    intro h F G hK fa q1
    have hl := fa.1.1.2.2.2.2.2.2.1
    have ha := fa.1.1.1
    refine sg_297_66 ?_
    simp only [lk ha, lk1 ha, lk2 ha, lk3 ha, lk4 ha, lk5 ha, lk6 ha, lk7 ha, lk8 ha, lk9 ha, lr0 ha, lr1 ha, lr2 ha, lr3 ha, lr4 ha, lr5 ha, lr6 ha, lr7 ha, lr8 ha, hl.1.2.2.2.1]
    exact ck_i rfl (cd_f (by omega) (l_297_77 hv' (by omega) (fun F' G' fa' q2 => by
      rw [show (h : Int) + 1 = ((h + 1 : Nat) : Int) by omega]
      exact ih (h + 1) F' G' (by omega) fa' q2) (F0 100 0).toNat 0 F G (by omega) fa q1))
set_option maxRecDepth 100000 in
theorem c_297 {k : FS → FI → FJ → Prop} {a b : Nat} {F0 : FI} {S : FS} {F : FI} {G : FJ} (kL : LK S F G a b F0)
    (hk : ∀ F' G', FA S F' G' a b F0 ((F0 100 3).toNat + 1) 0 0 → QC S S F F' G G' → k S F' G') : calV 3 297 [.inr (.inr (.inl 26))] (mm S F G) k nof := by
  obtain ⟨ha, hb, ⟨k1, k2, k3, k4⟩, hv, hs, hlw, hl, hrw, hpr, v1, v2, v3, v4, v5, v6⟩ := id kL.1
  have hv' := hv
  obtain ⟨⟨hv1, hv2⟩, ⟨hv3, hv4⟩, ⟨hv5, hv6⟩, ⟨hv7, hv8⟩, ⟨hv9, hv10⟩, ⟨hv11, hv12⟩, ⟨hv13, hv14⟩, hvw, hvs, hvk, hvc, hvx⟩ := id hv
  refine sg_297_0 (c_344 (n := 3900) rfl (by decide) (c_344 (n := 100) rfl (by decide) (c_344 (n := 12) rfl (by decide) ?_)))
  obtain ⟨G3, eG3⟩ : ∃ G3, G3 = yfl (yfl (yfl G 28 3900 0) 29 100 0) 30 12 0 := ⟨_, rfl⟩
  rw [← eG3]
  have o3 : ∀ c, ¬ (28 ≤ c ∧ c ≤ 30) → G3 c = G c := fun c hc => by rw [eG3, yfl_o (by omega), yfl_o (by omega), yfl_o (by omega)]
  have e28 : ∀ i, i < 3900 → G3 28 i = 0 := fun i hi => by rw [eG3, yfl_o (by decide), yfl_o (by decide), yfl_i hi]
  have e29 : ∀ i, i < 100 → G3 29 i = 0 := fun i hi => by rw [eG3, yfl_o (by decide), yfl_i hi]
  have e30 : ∀ i, i < 12 → G3 30 i = 0 := fun i hi => by rw [eG3, yfl_i hi]
  rw [k3, kL.2.2.2, lk ha, lr7 ha, lk8 ha, hl.1.2.2.2.2.1, hl.1.2.2.2.2.2.2, show kk 16 = (0, 7) from rfl]
  refine ck_i rfl (ck_i rfl (ck_i rfl (c_271 (Or.inl rfl) v3 hv13 (by omega) (by omega) (by omega) (by omega) (by omega) (fun v ev => ?_))))
  have sb := sp_b (d := 16) (h := 0) (p := F0 100 6) (n := F0 100 4) (Or.inl rfl) (by omega) (by omega) hv13 (by omega) (by omega) (by omega)
  have t16 : tM 16 = 3900 := rfl
  subst ev
  have sc := hl.2.2.2.2.2.2.1 0 (by omega) (by omega)
  have sc' : G3 (a + 8) 0 = sScH (F0 100) 0 := by rw [o3 (a + 8) (by omega)]; exact sc
  rw [sc']
  obtain ⟨G4, eG4⟩ : ∃ G4, G4 = u2 G3 28 (sp 16 0 (F0 100 6) (F0 100 4)).toNat (sScH (F0 100) 0) := ⟨_, rfl⟩
  rw [← eG4]
  obtain ⟨kL4, q4⟩ := LK_w (F' := F) (G' := G4) kL (fun _ _ => rfl) (fun c hc => by rw [eG4, u2_o (by omega)]; exact o3 c hc)
  have spi : sp 16 0 (F0 100 6) (F0 100 4) = (0 * 12 + F0 100 6) * 13 + F0 100 4 := rfl
  refine ck_i rfl (ck_i rfl (ck_i rfl (ck_i (jb_i (by omega) (by omega)) (l_297_66 (S0 := S) (Fz := F) (Gz := G) hv' (fun F' G' fa q => ⟨_, _, _, rfl, hk F' G' fa q⟩) (F0 100 3 + 1).toNat 0 F G4 (by omega) ⟨kL4, ⟨fun i => if i = (sp 16 0 (F0 100 6) (F0 100 4)).toNat then 1 else 0, fun h' p' n' w => ?_, fun h' p' n' w => ?_⟩, fun h' e a b c => ?_, fun p' a => ?_⟩ q4))))
  · obtain ⟨w1, w2, w3, w4, w5, w6⟩ := id w
    refine ⟨fun e => ?_, fun e => ?_, fun e => ?_⟩
    · have : h' = 0 := by omega
      subst this
      show (if _ then (1 : Int) else 0) = (if F0 100 6 = p' ∧ F0 100 4 = n' then (1 : Int) else 0)
      by_cases q : F0 100 6 = p' ∧ F0 100 4 = n'
      · rw [if_pos q, if_pos (by omega)]
      · rw [if_neg q, if_neg (by omega)]
    · show (if _ then (1 : Int) else 0) = _
      rw [if_neg (by omega)]
      rfl
    · show (if _ then (1 : Int) else 0) = _
      rw [if_neg (by omega)]
  · obtain ⟨w1, w2, w3, w4, w5, w6⟩ := id w
    rw [eG4, u2_k, e28 _ (by omega)]
    show _ = (if _ then (1 : Int) else 0) * _
    by_cases q : ((h' * 12 + p') * 13 + n').toNat = (sp 16 0 (F0 100 6) (F0 100 4)).toNat
    · rw [if_pos q, if_pos q, Int.one_mul, show h' = 0 by omega]
    · rw [if_neg q, if_neg q, Int.zero_mul]
  · rw [eG4, u2_o (by decide), e29 _ (by omega), if_neg (by omega)]
    split <;> rfl
  · have p12 : p' < 12 := by omega
    rw [eG4, u2_o (by decide), e30 _ p12, if_neg (by omega)]
    show 0 = 0 + (if p' = 0 then (0 : Int) else 0)
    split <;> rfl
set_option maxRecDepth 100000 in
theorem p_41 {k : Int → FS → FI → FJ → Prop} {kx : Nat → FS → FI → FJ → Prop} {a b : Nat} {l s : Nat → Int} {w : La} {x1 x2 : Int} {F0 : FI} {S : FS} {F : FI} {G : FJ} (hR : F0 100 = l ∧ F0 112 = s ∧ mL F0 = w) (hL : hasL S F a) (hK : 1 ≤ F a 9 → YK S F G a b l s w) (noL : F a 9 < 1 → kx 3 S (rfc F 3) G) (noA : 1 ≤ F a 9 → ¬ ((0 ≤ x1 ∧ x1 ≤ l 3) ∧ 0 ≤ x2 ∧ x2 ≤ 2) → kx 2 S (rfc F 2) G)
    (ok : 1 ≤ F a 9 → (0 ≤ x1 ∧ x1 ≤ l 3) ∧ 0 ≤ x2 ∧ x2 ≤ 2 → ∀ S' F' G', YK S' F' G' a b l s w → QC S S' F F' G G' → k (sArr l (sTk l (cBs F0) (l 4)) (l 4) (x2 + 1) x1.toNat) S' F' G') : calL 8 41 [.inr (.inr (.inl 1)), .inl x1, .inl x2] (mm S F G) k kx := by
  obtain ⟨rfl, rfl, rfl⟩ := hR
  refine sg_41_0 (c_51 hL.1 hL.2 (fun q => ?_) (fun q => ex_3 ⟨_, _, _, rfl, noL q⟩))
  have hk0 := hK q
  obtain ⟨ha, hb, ⟨k1, k2, k3, k4⟩, hv, hs, hw, hl, hrw, hpr, -⟩ := id hk0
  have hv' := hv
  obtain ⟨⟨hv1, hv2⟩, ⟨hv3, hv4⟩, ⟨hv5, hv6⟩, ⟨hv7, hv8⟩, ⟨hv9, hv10⟩, ⟨hv11, hv12⟩, ⟨hv13, hv14⟩, hvw, hvs, hvk, hvc, hvx⟩ := id hv
  refine cn_i (fun y => c_55_0 (ex_2 ⟨_, _, _, rfl, noA q (by omega)⟩)) (fun y => ?_)
  simp only [k1, lk ha, lk1 ha, lk2 ha, lk3 ha, lk4 ha, lk5 ha, lk6 ha, lk7 ha, lk8 ha, lk9 ha, lr0 ha, lr1 ha, lr2 ha, lr3 ha, lr4 ha, lr5 ha, lr6 ha, lr7 ha, lr8 ha, hl.1.2.2.2.1]
  refine ck_i rfl (cn_i (fun y2 => c_55_0 (ex_2 ⟨_, _, _, rfl, noA q (by omega)⟩)) (fun y2 => cn_i (fun y3 => c_55_0 (ex_2 ⟨_, _, _, rfl, noA q (by omega)⟩)) (fun y3 => cn_i (fun y4 => c_55_0 (ex_2 ⟨_, _, _, rfl, noA q (by omega)⟩)) (fun y4 => c_55_1 ?_))))
  refine c_60 hk0 (fun S1 F1 G1 y1 q1 z1 => c_255 y1 z1 (fun S2 kL q2 => c_297 kL (fun F' G' fa q3 => ?_)))
  have arr := fa.2.2.1 x1.toNat (x2 + 1) (by omega) (by omega) (by omega)
  rw [if_pos (by omega), show ((x1.toNat : Nat) : Int) = x1 by omega] at arr
  rw [wr_id (a := x1 * 4) (by omega) (by omega), wr_id (a := x1 * 4 + x2) (by omega) (by omega), wr_id (a := x1 * 4 + x2 + 1) (by omega) (by omega), show x1 * 4 + x2 + 1 = x1 * 4 + (x2 + 1) by omega, arr]
  exact ck_i (jb_i (by omega) (by omega)) ⟨_, _, _, rfl, ok q (by omega) S2 F' G' fa.1.1 (QC_t (QC_t q1 q2) q3)⟩
set_option maxRecDepth 100000 in
theorem p_42 {k : Int → FS → FI → FJ → Prop} {kx : Nat → FS → FI → FJ → Prop} {a b : Nat} {l s : Nat → Int} {w : La} {x1 : Int} {F0 : FI} {S : FS} {F : FI} {G : FJ} (hR : F0 100 = l ∧ F0 112 = s ∧ mL F0 = w) (hL : hasL S F a) (hK : 1 ≤ F a 9 → YK S F G a b l s w) (noL : F a 9 < 1 → kx 3 S (rfc F 3) G) (noA : 1 ≤ F a 9 → ¬ (0 ≤ x1 ∧ x1 < l 0) → kx 2 S (rfc F 2) G)
    (ok : 1 ≤ F a 9 → 0 ≤ x1 ∧ x1 < l 0 → ∀ S' F' G', YK S' F' G' a b l s w → QC S S' F F' G G' → k (aS (sVs l (sTk l (cBs F0) (l 4)) (l 4) x1) ((l 3).toNat + 1)) S' F' G') : calL 8 42 [.inr (.inr (.inl 1)), .inl x1] (mm S F G) k kx := by
  obtain ⟨rfl, rfl, rfl⟩ := hR
  refine sg_42_0 (c_51 hL.1 hL.2 (fun q => ?_) (fun q => ex_3 ⟨_, _, _, rfl, noL q⟩))
  have hk0 := hK q
  obtain ⟨ha, hb, ⟨k1, k2, k3, k4⟩, hv, hs, hw, hl, hrw, hpr, -⟩ := id hk0
  have hv' := hv
  obtain ⟨⟨hv1, hv2⟩, ⟨hv3, hv4⟩, ⟨hv5, hv6⟩, ⟨hv7, hv8⟩, ⟨hv9, hv10⟩, ⟨hv11, hv12⟩, ⟨hv13, hv14⟩, hvw, hvs, hvk, hvc, hvx⟩ := id hv
  refine cn_i (fun y => c_55_0 (ex_2 ⟨_, _, _, rfl, noA q (by omega)⟩)) (fun y => ?_)
  simp only [k1, lk ha, lk1 ha, lk2 ha, lk3 ha, lk4 ha, lk5 ha, lk6 ha, lk7 ha, lk8 ha, lk9 ha, lr0 ha, lr1 ha, lr2 ha, lr3 ha, lr4 ha, lr5 ha, lr6 ha, lr7 ha, lr8 ha, hl.1.1]
  refine ck_i rfl (cn_i (fun y2 => c_55_1 ?_) (fun y2 => c_55_0 (ex_2 ⟨_, _, _, rfl, noA q (by omega)⟩)))
  refine c_60 hk0 (fun S1 F1 G1 y1 q1 z1 => c_255 y1 z1 (fun S2 kL q2 => c_297 kL (fun F' G' fa q3 => ?_)))
  have sy := fa.2.2.2 x1.toNat (by omega)
  have e0 : (if x1.toNat < 0 then sVs (F0 100) (sTk (F0 100) (cBs F0) (F0 100 4)) (F0 100 4) ((x1.toNat : Nat) : Int) ((F0 100 3).toNat + 1) else if x1.toNat = 0 then aS (fun n => sMs (F0 100) (sTk (F0 100) (cBs F0) (F0 100 4)) (F0 100 4) ((F0 100 3).toNat + 1) ((x1.toNat : Nat) : Int) n * sScH (F0 100) (((F0 100 3).toNat + 1 : Nat) : Int)) 0 else 0) = 0 := by
    rw [if_neg (by omega)]
    split <;> rfl
  rw [e0, Int.add_zero, show ((x1.toNat : Nat) : Int) = x1 by omega] at sy
  rw [sy]
  exact ck_i (jb_i (by omega) (by omega)) ⟨_, _, _, rfl, ok q (by omega) S2 F' G' fa.1.1 (QC_t (QC_t q1 q2) q3)⟩
