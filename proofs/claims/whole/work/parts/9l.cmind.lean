/-! ===== the class answers: of one mind ===== -/
theorem ST_k2 {F F' : FI} {d : Nat} {l : Nat → Int} {st h p n : Int} (h1 : ST F d l st h p n) (hF : KA 13 F' F) : ST F' d l st h p n := by
  unfold ST at h1 ⊢
  rw [hF.2 8 (by decide), hF.2 9 (by decide), hF.2 10 (by decide), hF.2 11 (by decide), hF.2 12 (by decide)]
  exact h1
/-- the tables stand to be looked at -/
def LK (S : FS) (F : FI) (G : FJ) (a b : Nat) (F0 : FI) : Prop := YK S F G a b (F0 100) (F0 112) (mL F0) ∧ F 1 17 = 1 ∧ S 22 2 = 6 ∧ S 22 3 = 16
theorem LK_G {S : FS} {F F' : FI} {G : FJ} {a b : Nat} {F0 : FI} (h : LK S F G a b F0) (hF : KG b F' F) (hm : MC (F' 23) (F0 100) (mL F0)) : LK S F' G a b F0 ∧ QC S S F F' G G := by
  obtain ⟨y, z, s2, s3⟩ := h
  obtain ⟨y1, y2⟩ := YK_G y hF hm
  exact ⟨⟨y1, by rw [hF.1 1 (by decide) (by decide) (by have := y.2.1; omega) (by have := y.2.1; omega)]; exact z, s2, s3⟩, y2⟩
/-- what one would best do, looked up -/
theorem c_sbp {k : Int → FS → FI → FJ → Prop} {a b : Nat} {F0 : FI} {h p n j cs : Int} {S : FS} {F : FI} {G : FJ} (hk0 : LK S F G a b F0) (hw : vs (F0 100) (F0 100 4) h p n) (he : sEnd (F0 100) h p n = 0) (st0 : ST F 16 (F0 100) (F0 100 4) h p n) (j0 : 0 ≤ j) (j1 : j < F0 100 2) (ec : cs = shl 1 (2 + j))
    (hk : ∀ F', KA 13 F' F → k (sBp (F0 100) (cBs F0) (F0 100 4) (sBt (cBs F0)) h p n j) S F' G) : calI 3 266 [.inr (.inr (.inl 22)), .inl (sNw (F0 100) (F0 112) (mL F0) p h n), .inl cs, .inl 1] (mm S F G) k nof := by
  obtain ⟨y, z1, s2, s3⟩ := hk0
  obtain ⟨ha, hb, -, hv, hs, hlw, hl, hrw, hpr, v1, v2, v3, v4, v5, v6⟩ := id y
  have hv' := hv
  obtain ⟨⟨hv1, hv2⟩, ⟨hv3, hv4⟩, ⟨hv5, hv6⟩, ⟨hv7, hv8⟩, ⟨hv9, hv10⟩, ⟨hv11, hv12⟩, ⟨hv13, hv14⟩, hvw, hvs, hvk, hvc, hvx⟩ := id hv
  obtain ⟨so1, so2, so3, so4⟩ := v6 z1
  obtain ⟨w1, w2, w3, w4, w5, w6⟩ := id hw
  have ce := sEnd_n he
  have cv := sCf_v (w := mL F0) (F0 100 4) hv' hs
  obtain ⟨m1, m2, m3⟩ := sNw_M (s := F0 112) (w := mL F0) hv' he
  have sb := shl_1 (i := 2 + j) (by omega) (by omega)
  rw [← ec] at sb
  have hx := YK_X y (Or.inl rfl) (Or.inl rfl) s2 s3 so2
  have ys := GS_YS hv' (by omega) (by omega) hw he so3
  have ym := YS_M (cs := cs) (M := sNw (F0 100) (F0 112) (mL F0) p h n) hv' (by omega) (by omega) cv w1 (by omega) w3 w4 (by omega) w6 ys m3 (fun o o0 _ ob => by
    rw [ec] at ob
    exact YV_w j0 j1 hv6 o0 ob)
  refine c_266 hx w3 w4 w1 (by omega) (by omega) w6 st0 m1 m2 sb.2.1 sb.2.2 (Or.inl rfl) ym (fun F4 f4 => ?_)
  have e : bst (vE (F0 100) (F0 100 4) h p n (fC (F0 100) (sCf (F0 100) (F0 112) (mL F0)) (F0 100 4) (F0 100 3 - (h + 1)).toNat) cs 1) (sNw (F0 100) (F0 112) (mL F0) p h n) (F0 100 1 + 1).toNat = sBp (F0 100) (cBs F0) (F0 100 4) (sBt (cBs F0)) h p n j := by
    have eb : sNw (F0 100) (F0 112) (mL F0) p h n = sBt (cBs F0) h p n := if_pos he
    rw [ec, bst_v1 (by omega) (by omega), fC_w j0 (by omega), eb]
    rfl
  rw [e]
  exact hk F4 f4
theorem l_296_108 {Q : Rs → Mm → Prop} {a b : Nat} {F0 : FI} {h p n x5 : Int} {S S0 : FS} {Fz : FI} {G Gz : FJ} (f27 : Nat → Int) (hv : LV (F0 100)) (hw : vs (F0 100) (F0 100 4) h p n) (he : sEnd (F0 100) h p n = 0)
    (hy : sOm (F0 100) (cBs F0) (F0 100 4) (sBt (cBs F0)) h p n → ∀ F', LK S F' G a b F0 → QC S0 S Fz F' Gz G → F' 27 = f27 → wph 4 296 37 [.inr (.inr (.inl 26)), .inr (.inr (.inl 31)), .inl h, .inr (.inr (.inl a)), .inl p, .inl x5, .inl (n + 1)] [] (mm S F' G) (0, 0) Q)
    (hn : ¬ sOm (F0 100) (cBs F0) (F0 100 4) (sBt (cBs F0)) h p n → ∀ F', LK S F' G a b F0 → QC S0 S Fz F' Gz G → F' 27 = f27 → Q (.inl (some (.inl 0))) (mm S F' G)) :
    ∀ (K : Nat) (j : Int) (F : FI), (K : Int) = F0 100 2 - j → 0 ≤ j → LK S F G a b F0 → QC S0 S Fz F Gz G → F 27 = f27 → ST F 16 (F0 100) (F0 100 4) h p n → (∀ i, 0 ≤ i → i < j → sBp (F0 100) (cBs F0) (F0 100 4) (sBt (cBs F0)) h p n i = sBp (F0 100) (cBs F0) (F0 100 4) (sBt (cBs F0)) h p n 0) →
      wph 4 296 108 [.inr (.inr (.inl 26)), .inr (.inr (.inl 31)), .inl h, .inr (.inr (.inl a)), .inl p, .inl x5, .inl n, .inl (sNw (F0 100) (F0 112) (mL F0) p h n), .inl (sBp (F0 100) (cBs F0) (F0 100 4) (sBt (cBs F0)) h p n 0), .inl j] [] (mm S F G) (0, 0) Q := by
  have hv' := hv
  obtain ⟨⟨hv1, hv2⟩, ⟨hv3, hv4⟩, ⟨hv5, hv6⟩, ⟨hv7, hv8⟩, ⟨hv9, hv10⟩, ⟨hv11, hv12⟩, ⟨hv13, hv14⟩, hvw, hvs, hvk, hvc, hvx⟩ := id hv
  obtain ⟨w1, w2, w3, w4, w5, w6⟩ := id hw
  intro K
  induction K with
  | zero =>
    intro j F hK j0 kL q1 e27 st0 hall
    have hl := kL.1.2.2.2.2.2.2.1
    have ha := kL.1.1
    refine sg_296_108 ?_
    simp only [lk ha, lk1 ha, lk2 ha, lk3 ha, lk4 ha, lk5 ha, lk6 ha, lk7 ha, lk8 ha, lk9 ha, lr0 ha, lr1 ha, lr2 ha, lr3 ha, lr4 ha, lr5 ha, lr6 ha, lr7 ha, lr8 ha, hl.1.2.2.1]
    rw [wr_id (a := n + 1) (by omega) (by omega)]
    exact ck_i rfl (cd_f (by omega) (hy (fun i i0 i1 => hall i i0 (by omega)) F kL q1 e27))
  | succ K ih =>
    intro j F hK j0 kL q1 e27 st0 hall
    have hl := kL.1.2.2.2.2.2.2.1
    have ha := kL.1.1
    refine sg_296_108 ?_
    simp only [lk ha, lk1 ha, lk2 ha, lk3 ha, lk4 ha, lk5 ha, lk6 ha, lk7 ha, lk8 ha, lk9 ha, lr0 ha, lr1 ha, lr2 ha, lr3 ha, lr4 ha, lr5 ha, lr6 ha, lr7 ha, lr8 ha, hl.1.2.2.1]
    rw [wr_id (a := j + 1) (by omega) (by omega), wr_id (a := 2 + j) (by omega) (by omega)]
    refine ck_i rfl (cd_t (by omega) (c_sbp kL hw he st0 j0 (by omega) rfl (fun F' f1 => ?_)))
    obtain ⟨z1, z2⟩ := LK_G kL (KG_a KG_r f1 (by decide)) (by rw [f1.1 23 (by decide)]; exact kL.1.2.2.2.2.2.2.2.2.2.1)
    have g27 : F' 27 = f27 := (f1.1 27 (by decide)).trans e27
    refine cn_i (fun u => ?_) (fun u => ?_)
    · refine ih (j + 1) F' (by omega) (by omega) z1 (QC_t q1 z2) g27 (ST_k2 st0 f1) (fun i i0 i1 => ?_)
      by_cases e : i = j
      · rw [e]; exact u
      · exact hall i i0 (by omega)
    · exact hn (fun q => u (q j j0 (by omega))) F' z1 (QC_t q1 z2) g27
theorem DS_n {l : Nat → Int} {c : Cf} {st : Int} {B : Int → Int → Int → Int} {t : Nat} {p n : Int} (hst : st ≤ 12) (hw : vs l st t p n) (h : DS l c st B t (p * 13 + n + 1)) : DS l c st B t (p * 13 + n) ∨ (sRe l B (sMy l st) st 0 (l 6) st t p n ∧ sEnd l t p n = 0 ∧ ¬ sOm l c st B t p n) := by
  obtain ⟨q, s, i1, w, r⟩ := h
  by_cases e : q * 13 + s < p * 13 + n
  · exact Or.inl ⟨q, s, e, w, r⟩
  · obtain ⟨u1, u2, u3, u4, u5, u6⟩ := id w
    obtain ⟨x1, x2, x3, x4, x5, x6⟩ := id hw
    have e1 : q = p := by omega
    have e2 : s = n := by omega
    rw [e1, e2] at r
    exact Or.inr r
theorem DS_m {l : Nat → Int} {c : Cf} {st : Int} {B : Int → Int → Int → Int} {t : Nat} {i j : Int} (h : DS l c st B t i) (hij : i ≤ j) : DS l c st B t j := by
  obtain ⟨q, s, i1, w, r⟩ := h
  exact ⟨q, s, by omega, w, r⟩
theorem l_296_37 {Q : Rs → Mm → Prop} {a b : Nat} {F0 : FI} {p x5 h : Int} {t : Nat} {S S0 : FS} {Fz : FI} {G Gz : FJ} (f27 : Nat → Int) (hv : LV (F0 100)) (eh : h = (t : Int)) (hh : h < F0 100 3) (hp0 : 0 ≤ p) (hp1 : p < F0 100 0) (sb : SB (F0 100 4) f27) (ri : RI (F0 100) (sBt (cBs F0)) (sMy (F0 100) (F0 100 4)) (F0 100 4) 0 (F0 100 6) (F0 100 4) (gW f27) t 0 0) (h5 : x5 = f27 (h * 12 + p).toNat)
    (hy : ¬ DS (F0 100) (cBs F0) (F0 100 4) (sBt (cBs F0)) t (p * 13 + F0 100 4 + 1) → ∀ F', LK S F' G a b F0 → QC S0 S Fz F' Gz G → F' 27 = f27 → wph 4 296 11 [.inr (.inr (.inl 26)), .inr (.inr (.inl 31)), .inl h, .inr (.inr (.inl a)), .inl (p + 1)] [] (mm S F' G) (0, 0) Q)
    (hn : DS (F0 100) (cBs F0) (F0 100 4) (sBt (cBs F0)) t 156 → ∀ F', LK S F' G a b F0 → QC S0 S Fz F' Gz G → F' 27 = f27 → Q (.inl (some (.inl 0))) (mm S F' G)) :
    ∀ (K : Nat) (n : Int) (F : FI), (K : Int) = F0 100 4 + 1 - n → 0 ≤ n → LK S F G a b F0 → QC S0 S Fz F Gz G → F 27 = f27 → ¬ DS (F0 100) (cBs F0) (F0 100 4) (sBt (cBs F0)) t (p * 13 + n) →
      wph 4 296 37 [.inr (.inr (.inl 26)), .inr (.inr (.inl 31)), .inl h, .inr (.inr (.inl a)), .inl p, .inl x5, .inl n] [] (mm S F G) (0, 0) Q := by
  have hv' := hv
  obtain ⟨⟨hv1, hv2⟩, ⟨hv3, hv4⟩, ⟨hv5, hv6⟩, ⟨hv7, hv8⟩, ⟨hv9, hv10⟩, ⟨hv11, hv12⟩, ⟨hv13, hv14⟩, hvw, hvs, hvk, hvc, hvx⟩ := id hv
  intro K
  induction K with
  | zero =>
    intro n F hK hn0 kL q1 e27 hd
    have hl := kL.1.2.2.2.2.2.2.1
    have ha := kL.1.1
    refine sg_296_37 ?_
    simp only [lk ha, lk1 ha, lk2 ha, lk3 ha, lk4 ha, lk5 ha, lk6 ha, lk7 ha, lk8 ha, lk9 ha, lr0 ha, lr1 ha, lr2 ha, lr3 ha, lr4 ha, lr5 ha, lr6 ha, lr7 ha, lr8 ha, hl.1.2.2.2.2.1]
    rw [wr_id (a := p + 1) (by omega) (by omega)]
    refine ck_i rfl (cd_t (by omega) (hy ?_ F kL q1 e27))
    rw [show p * 13 + F0 100 4 + 1 = p * 13 + n by omega]
    exact hd
  | succ K ih =>
    intro n F hK hn0 kL q1 e27 hd
    have hl := kL.1.2.2.2.2.2.2.1
    have ha := kL.1.1
    have hw : vs (F0 100) (F0 100 4) h p n := ⟨by omega, by omega, hp0, hp1, hn0, by omega⟩
    have hwt : vs (F0 100) (F0 100 4) (t : Int) p n := by rw [← eh]; exact hw
    have x5b := SB_8 sb (by omega) (h * 12 + p).toNat (by omega)
    rw [← h5] at x5b
    have gi := gW_i (f := f27) (h := h) (p := p) (n := n) (by omega) hp0 hn0 (by omega)
    have rg := RI_g (p := p) (n := n) ri (by rw [Int.zero_add]; exact hwt) (by decide)
    rw [Int.zero_add, ← eh] at rg
    rw [rg, ← h5] at gi
    have nxt : ∀ F', LK S F' G a b F0 → QC S0 S Fz F' Gz G → F' 27 = f27 → ¬ (sRe (F0 100) (sBt (cBs F0)) (sMy (F0 100) (F0 100 4)) (F0 100 4) 0 (F0 100 6) (F0 100 4) t p n ∧ sEnd (F0 100) t p n = 0 ∧ ¬ sOm (F0 100) (cBs F0) (F0 100 4) (sBt (cBs F0)) t p n) → wph 4 296 37 [.inr (.inr (.inl 26)), .inr (.inr (.inl 31)), .inl h, .inr (.inr (.inl a)), .inl p, .inl x5, .inl (n + 1)] [] (mm S F' G) (0, 0) Q := by
      intro F' z1 z2 z3 z4
      refine ih (n + 1) F' (by omega) (by omega) z1 z2 z3 (fun q => ?_)
      rw [show p * 13 + (n + 1) = p * 13 + n + 1 by omega] at q
      exact (DS_n (by omega) hwt q).elim hd z4
    refine sg_296_37 ?_
    simp only [lk ha, lk1 ha, lk2 ha, lk3 ha, lk4 ha, lk5 ha, lk6 ha, lk7 ha, lk8 ha, lk9 ha, lr0 ha, lr1 ha, lr2 ha, lr3 ha, lr4 ha, lr5 ha, lr6 ha, lr7 ha, lr8 ha, hl.1.2.2.2.2.1]
    rw [wr_id (a := n + 1) (by omega) (by omega)]
    refine ck_i rfl (cd_f (by omega) (cn_i (fun z => ?_) (fun z => ?_)))
    · have nb := (bit_z x5b.1 (by omega) hn0 (by omega)).mp z
      exact nxt F kL q1 e27 (fun q => nb (gi.mp q.1))
    · have hb : bit x5 n := Classical.byContradiction (fun q => z ((bit_z x5b.1 (by omega) hn0 (by omega)).mpr q))
      have hr := gi.mpr hb
      refine c_285 kL.1 hp0 hp1 (by omega) (by omega) hn0 (by omega) (fun F' f1 f2 f3 => ?_)
      have hb' := kL.1.2.1
      have e27' : F' 27 = f27 := (f1 27 (by decide) (by omega) (by omega)).trans e27
      have kL' : LK S F' G a b F0 := ⟨f2, by rw [f1 1 (by decide) (by omega) (by omega)]; exact kL.2.1, kL.2.2⟩
      by_cases he : sEnd (F0 100) h p n = 0
      · obtain ⟨m1, m2, m3⟩ := sNw_M (s := F0 112) (w := mL F0) hv' he
        have ce := sEnd_n he
        have so2 := (f2.2.2.2.2.2.2.2.2.2.2.2.2.2.2 kL'.2.1).2.1
        have hx := YK_X f2 (Or.inl rfl) (Or.inl rfl) kL'.2.2.1 kL'.2.2.2 so2
        refine cd_f (by omega) (c_267 hx hp0 hp1 (by omega) hh (by omega) (by omega) (fun F3 f4 st3 => ?_))
        obtain ⟨z1, z2⟩ := LK_G kL' (KG_a KG_r f4 (by decide)) (by rw [f4.1 23 (by decide)]; exact f2.2.2.2.2.2.2.2.2.2.1)
        refine c_sbp (j := 0) z1 hw he st3 (by decide) (by omega) (by decide) (fun F4 f5 => ?_)
        obtain ⟨z3, z4⟩ := LK_G z1 (KG_a KG_r f5 (by decide)) (by rw [f5.1 23 (by decide)]; exact z1.1.2.2.2.2.2.2.2.2.2.1)
        have hnd : ∀ q : ¬ sOm (F0 100) (cBs F0) (F0 100 4) (sBt (cBs F0)) h p n, DS (F0 100) (cBs F0) (F0 100 4) (sBt (cBs F0)) t 156 := fun q => ⟨p, n, by omega, hwt, hr, by rw [← eh]; exact he, by rw [← eh]; exact q⟩
        refine l_296_108 f27 hv' hw he (fun om F' g1 g2 g3 => nxt F' g1 g2 g3 (fun q => q.2.2 (by rw [← eh]; exact om))) (fun om F' g1 g2 g3 => hn (hnd om) F' g1 g2 g3) (F0 100 2 - 1).toNat 1 F4 (by omega) (by omega) z3 (QC_t (QC_t (QC_t q1 f3) z2) z4) ((f5.1 27 (by decide)).trans ((f4.1 27 (by decide)).trans e27')) (ST_k2 st3 f5) (fun i i0 i1 => by rw [show i = 0 by omega])
      · have e0 : sNw (F0 100) (F0 112) (mL F0) p h n = 0 := if_neg he
        exact cd_t e0 (nxt F' kL' (QC_t q1 f3) e27' (fun q => he (by rw [eh]; exact q.2.1)))
theorem l_296_11 {Q : Rs → Mm → Prop} {a b : Nat} {F0 : FI} {h : Int} {t : Nat} {S S0 : FS} {Fz : FI} {G Gz : FJ} (f27 : Nat → Int) (hv : LV (F0 100)) (eh : h = (t : Int)) (hh : h < F0 100 3) (sb : SB (F0 100 4) f27) (ri : RI (F0 100) (sBt (cBs F0)) (sMy (F0 100) (F0 100 4)) (F0 100 4) 0 (F0 100 6) (F0 100 4) (gW f27) t 0 0)
    (hy : ¬ DS (F0 100) (cBs F0) (F0 100 4) (sBt (cBs F0)) t 156 → ∀ F', LK S F' G a b F0 → QC S0 S Fz F' Gz G → F' 27 = f27 → Q (.inl (some (.inl 1))) (mm S F' G))
    (hn : DS (F0 100) (cBs F0) (F0 100 4) (sBt (cBs F0)) t 156 → ∀ F', LK S F' G a b F0 → QC S0 S Fz F' Gz G → F' 27 = f27 → Q (.inl (some (.inl 0))) (mm S F' G)) :
    ∀ (K : Nat) (p : Int) (F1 : FI), (K : Int) = F0 100 0 - p → 0 ≤ p → LK S F1 G a b F0 → QC S0 S Fz F1 Gz G → F1 27 = f27 → ¬ DS (F0 100) (cBs F0) (F0 100 4) (sBt (cBs F0)) t (p * 13) →
      wph 4 296 11 [.inr (.inr (.inl 26)), .inr (.inr (.inl 31)), .inl h, .inr (.inr (.inl a)), .inl p] [] (mm S F1 G) (0, 0) Q := by
  have hv' := hv
  obtain ⟨⟨hv1, hv2⟩, ⟨hv3, hv4⟩, ⟨hv5, hv6⟩, ⟨hv7, hv8⟩, ⟨hv9, hv10⟩, ⟨hv11, hv12⟩, ⟨hv13, hv14⟩, hvw, hvs, hvk, hvc, hvx⟩ := id hv
  intro K
  induction K with
  | zero =>
    intro p F1 hK hp0 kL1 q1 e27 hd
    have hl := kL1.1.2.2.2.2.2.2.1
    have ha := kL1.1.1
    refine sg_296_11 ?_
    simp only [lk ha, lk1 ha, lk2 ha, lk3 ha, lk4 ha, lk5 ha, lk6 ha, lk7 ha, lk8 ha, lk9 ha, lr0 ha, lr1 ha, lr2 ha, lr3 ha, lr4 ha, lr5 ha, lr6 ha, lr7 ha, lr8 ha, hl.1.1]
    refine ck_i rfl (cd_f (by omega) (hy (fun q => hd ?_) F1 kL1 q1 e27))
    obtain ⟨q', s, i1, w, r⟩ := q
    obtain ⟨u1, u2, u3, u4, u5, u6⟩ := id w
    exact ⟨q', s, by omega, w, r⟩
  | succ K ih =>
    intro p F1 hK hp0 kL1 q1 e27 hd
    have hl := kL1.1.2.2.2.2.2.2.1
    have ha := kL1.1.1
    refine sg_296_11 ?_
    simp only [lk ha, lk1 ha, lk2 ha, lk3 ha, lk4 ha, lk5 ha, lk6 ha, lk7 ha, lk8 ha, lk9 ha, lr0 ha, lr1 ha, lr2 ha, lr3 ha, lr4 ha, lr5 ha, lr6 ha, lr7 ha, lr8 ha, hl.1.1]
    rw [wr_id (a := h * 12) (by omega) (by omega), wr_id (a := h * 12 + p) (by omega) (by omega)]
    refine ck_i rfl (cd_t (by omega) (ck_i (jb_i (by omega) (by omega)) (l_296_37 f27 hv' eh hh hp0 (by omega) sb ri (by rw [e27]) (fun hd' F' g1 g2 g3 => ?_) (fun hd' F' g1 g2 g3 => hn hd' F' g1 g2 g3) (F0 100 4 + 1).toNat 0 F1 (by omega) (by omega) kL1 q1 e27 (by rw [Int.add_zero]; exact hd))))
    refine ih (p + 1) F' (by omega) (by omega) g1 g2 g3 (fun q => hd' ?_)
    obtain ⟨q', s, i1, w, r⟩ := q
    obtain ⟨u1, u2, u3, u4, u5, u6⟩ := id w
    exact ⟨q', s, by omega, w, r⟩
theorem c_296 {k : Int → FS → FI → FJ → Prop} {a b : Nat} {F0 : FI} {h : Int} {t : Nat} {S S0 : FS} {F Fz : FI} {G Gz : FJ} (kL : LK S F G a b F0) (hq : QC S0 S Fz F Gz G) (eh : h = (t : Int)) (hh : h < F0 100 3) (sb : SB (F0 100 4) (F 27)) (ri : RI (F0 100) (sBt (cBs F0)) (sMy (F0 100) (F0 100 4)) (F0 100 4) 0 (F0 100 6) (F0 100 4) (gW (F 27)) t 0 0)
    (hy : ¬ DS (F0 100) (cBs F0) (F0 100 4) (sBt (cBs F0)) t 156 → ∀ F', LK S F' G a b F0 → QC S0 S Fz F' Gz G → F' 27 = F 27 → k 1 S F' G)
    (hn : DS (F0 100) (cBs F0) (F0 100 4) (sBt (cBs F0)) t 156 → ∀ F', LK S F' G a b F0 → QC S0 S Fz F' Gz G → F' 27 = F 27 → k 0 S F' G) : calI 4 296 [.inr (.inr (.inl 26)), .inr (.inr (.inl 31)), .inl h] (mm S F G) k nof := by
  have hv := kL.1.2.2.2.1
  have hv' := hv
  obtain ⟨⟨hv1, hv2⟩, ⟨hv3, hv4⟩, ⟨hv5, hv6⟩, ⟨hv7, hv8⟩, ⟨hv9, hv10⟩, ⟨hv11, hv12⟩, ⟨hv13, hv14⟩, hvw, hvs, hvk, hvc, hvx⟩ := id hv
  refine sg_296_0 ?_
  rw [kL.1.2.2.1.2.2.1]
  exact l_296_11 (F 27) hv' eh hh sb ri (fun d F' g1 g2 g3 => ⟨_, _, _, rfl, hy d F' g1 g2 g3⟩) (fun d F' g1 g2 g3 => ⟨_, _, _, rfl, hn d F' g1 g2 g3⟩) (F0 100 0).toNat 0 F (by omega) (by omega) kL hq rfl (fun q => by
    obtain ⟨q', s, i1, w, r⟩ := q
    obtain ⟨u1, u2, u3, u4, u5, u6⟩ := id w
    omega)
theorem sLs_y {l : Nat → Int} {c : Cf} {st : Int} {B : Int → Int → Int → Int} {t : Nat} (h : DS l c st B t 156) : sLs l c st B (t + 1) = (t : Int) + 1 := if_pos h
theorem sLs_n {l : Nat → Int} {c : Cf} {st : Int} {B : Int → Int → Int → Int} {t : Nat} (h : ¬ DS l c st B t 156) : sLs l c st B (t + 1) = sLs l c st B t := if_neg h
theorem l_295 {Q : Rs → Mm → Prop} {a b : Nat} {F0 : FI} {S S0 : FS} {Fz : FI} {G Gz : FJ} (hv : LV (F0 100))
    (hk : ∀ F', YK S F' G a b (F0 100) (F0 112) (mL F0) → QC S0 S Fz F' Gz G → Q (.inl (some (.inl (sLs (F0 100) (cBs F0) (F0 100 4) (sBt (cBs F0)) (F0 100 3).toNat)))) (mm S F' G)) :
    ∀ (K t : Nat) (F : FI), (K : Int) = F0 100 3 - t → LK S F G a b F0 → QC S0 S Fz F Gz G → SB (F0 100 4) (F 27) → RI (F0 100) (sBt (cBs F0)) (sMy (F0 100) (F0 100 4)) (F0 100 4) 0 (F0 100 6) (F0 100 4) (gW (F 27)) t 0 0 →
      wph 5 295 34 [.inr (.inr (.inl 26)), .inr (.inr (.inl 31)), .inr (.inr (.inl a)), .inl (sLs (F0 100) (cBs F0) (F0 100 4) (sBt (cBs F0)) t), .inl (t : Int)] [] (mm S F G) (0, 0) Q := by
  have hv' := hv
  obtain ⟨⟨hv1, hv2⟩, ⟨hv3, hv4⟩, ⟨hv5, hv6⟩, ⟨hv7, hv8⟩, ⟨hv9, hv10⟩, ⟨hv11, hv12⟩, ⟨hv13, hv14⟩, hvw, hvs, hvk, hvc, hvx⟩ := id hv
  intro K
  induction K with
  | zero =>
    intro t F hK kL q1 sb ri
    have hl := kL.1.2.2.2.2.2.2.1
    have ha := kL.1.1
    refine sg_295_34 ?_
    simp only [lk ha, lk1 ha, lk2 ha, lk3 ha, lk4 ha, lk5 ha, lk6 ha, lk7 ha, lk8 ha, lk9 ha, lr0 ha, lr1 ha, lr2 ha, lr3 ha, lr4 ha, lr5 ha, lr6 ha, lr7 ha, lr8 ha, hl.1.2.2.2.1]
    have := hk F kL.1 q1
    rw [show (F0 100 3).toNat = t by omega] at this
    exact ck_i rfl (cd_f (by omega) this)
  | succ K ih =>
    intro t F hK kL q1 sb ri
    have hl := kL.1.2.2.2.2.2.2.1
    have ha := kL.1.1
    refine sg_295_34 ?_
    simp only [lk ha, lk1 ha, lk2 ha, lk3 ha, lk4 ha, lk5 ha, lk6 ha, lk7 ha, lk8 ha, lk9 ha, lr0 ha, lr1 ha, lr2 ha, lr3 ha, lr4 ha, lr5 ha, lr6 ha, lr7 ha, lr8 ha, hl.1.2.2.2.1]
    rw [wr_id (a := (t : Int) + 1) (by omega) (by omega)]
    have nxt : ∀ F', LK S F' G a b F0 → QC S0 S Fz F' Gz G → F' 27 = F 27 → calV 4 293 [.inr (.inr (.inl 26)), .inr (.inr (.inl 31)), .inl (t : Int), .inl 1] (mm S F' G) (fun S3 F3 G3 => wph 5 295 34 [.inr (.inr (.inl 26)), .inr (.inr (.inl 31)), .inr (.inr (.inl a)), .inl (sLs (F0 100) (cBs F0) (F0 100 4) (sBt (cBs F0)) (t + 1)), .inl ((t : Int) + 1)] [] (mm S3 F3 G3) (0, 0) Q) nof := by
      intro F' g1 g2 g3
      refine c_293 g1.1 g2 (h0 := 0) (t := t) (by decide) (by omega) (by omega) (by rw [g3]; exact sb) (by rw [g3, EW_m]; exact ri) (fun F'' u1 u2 u3 u4 u5 => ?_)
      rw [EW_m] at u4
      rw [show (t : Int) + 1 = ((t + 1 : Nat) : Int) by omega]
      exact ih (t + 1) F'' (by omega) ⟨u1, u5.trans g1.2.1, g1.2.2⟩ u2 u3 u4
    refine ck_i rfl (cd_t (by omega) (c_296 kL q1 rfl (by omega) sb ri (fun d F' g1 g2 g3 => ?_) (fun d F' g1 g2 g3 => ?_)))
    · rw [← sLs_n d]
      exact cd_f (by decide) (nxt F' g1 g2 g3)
    · have := nxt F' g1 g2 g3
      rw [sLs_y d] at this
      exact cd_t rfl this
theorem YK_S {S S' : FS} {F : FI} {G : FJ} {a b : Nat} {l s : Nat → Int} {w : La} (h : YK S F G a b l s w) (hS : ∀ x i, ¬ (x = 22 ∧ (i = 2 ∨ i = 3)) → S' x i = S x i) : YK S' F G a b l s w ∧ QC S S' F F G G := by
  obtain ⟨ha, hb, -, -, -, -, -, -, -, v⟩ := id h
  have q : QC S S' F F G G := ⟨fun _ _ => rfl, fun _ _ => rfl, fun _ _ => rfl, hS⟩
  exact ⟨YK_q h q v, q⟩
theorem c_255 {k : FS → FI → FJ → Prop} {a b : Nat} {F0 : FI} {S : FS} {F : FI} {G : FJ} (hk0 : YK S F G a b (F0 100) (F0 112) (mL F0)) (z1 : F 1 17 = 1) (hk : ∀ S', LK S' F G a b F0 → QC S S' F F G G → k S' F G) : calV 0 255 [.inr (.inr (.inl 22)), .inr (.inr (.inl 6)), .inr (.inr (.inl 16))] (mm S F G) k nof := by
  refine sg_255_0 (ck_i rfl (ck_i rfl ⟨_, _, _, rfl, ?_⟩))
  obtain ⟨y1, y2⟩ := YK_S (S' := u2 (u2 S 22 2 6) 22 3 16) hk0 (fun x i h => by
    by_cases q : x = 22
    · rw [q, u2_n (fun z => h ⟨q, Or.inr z⟩), u2_n (fun z => h ⟨q, Or.inl z⟩)]
    · rw [u2_o q, u2_o q])
  exact hk _ ⟨y1, z1, by rw [u2_n (by decide), u2_s], u2_s⟩ y2
theorem p_40 {k : Int → FS → FI → FJ → Prop} {kx : Nat → FS → FI → FJ → Prop} {a b : Nat} {l s : Nat → Int} {w : La} {F0 : FI} {S : FS} {F : FI} {G : FJ} (hR : F0 100 = l ∧ F0 112 = s ∧ mL F0 = w) (hL : hasL S F a) (hK : 1 ≤ F a 9 → YK S F G a b l s w) (noL : F a 9 < 1 → kx 3 S (rfc F 3) G)
    (ok : 1 ≤ F a 9 → ∀ S' F' G', YK S' F' G' a b l s w → QC S S' F F' G G' → k (sLs l (cBs F0) (l 4) (sBt (cBs F0)) (l 3).toNat) S' F' G') : calI 8 40 [.inr (.inr (.inl 1))] (mm S F G) k kx := by
  obtain ⟨rfl, rfl, rfl⟩ := hR
  refine sg_40_0 (c_51 hL.1 hL.2 (fun q => ?_) (fun q => ex_3 ⟨_, _, _, rfl, noL q⟩))
  have hk0 := hK q
  have hv := hk0.2.2.2.1
  have hv' := hv
  obtain ⟨⟨hv1, hv2⟩, ⟨hv3, hv4⟩, ⟨hv5, hv6⟩, ⟨hv7, hv8⟩, ⟨hv9, hv10⟩, ⟨hv11, hv12⟩, ⟨hv13, hv14⟩, hvw, hvs, hvk, hvc, hvx⟩ := id hv
  refine c_60 hk0 (fun S1 F1 G1 y1 q1 z1 => c_255 y1 z1 (fun S2 kL q2 => ?_))
  obtain ⟨ha, hb, ⟨k1, k2, k3, k4⟩, -, hs, hw, hl, hrw, hpr, -⟩ := id kL.1
  refine sg_295_0 (c_343 (n := 300) rfl (by decide) ?_)
  simp only [k3, lk ha, lk1 ha, lk2 ha, lk3 ha, lk4 ha, lk5 ha, lk6 ha, lk7 ha, lk8 ha, lk9 ha, lr0 ha, lr1 ha, lr2 ha, lr3 ha, lr4 ha, lr5 ha, lr6 ha, lr7 ha, lr8 ha]
  rw [yfl_o (by omega), hl.1.2.2.2.2.1, hl.1.2.2.2.2.2.2]
  refine ck_i rfl (ck_i rfl (m_seen kL.1 ⟨by decide, by omega, hv13, hv14, by omega, Int.le_refl _⟩ (fun F' y3 q3 sb ri e1 => ?_)))
  exact l_295 hv' (fun F'' y4 q4 => ⟨_, _, _, rfl, _, _, _, rfl, ok q S2 F'' G1 y4 q4⟩) (F0 100 3).toNat 0 F' (by omega) ⟨y3, e1.trans z1, kL.2.2⟩ (QC_t (QC_t q1 q2) q3) sb (ri _)
