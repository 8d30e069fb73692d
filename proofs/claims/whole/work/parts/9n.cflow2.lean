/-! ===== the class follows the chance, state by state ===== -/
theorem sum_n {l : Nat → Int} {T : Int → Int → Int → Int} {st : Int} {G G' : FJ} {h p n : Nat} {A : Int} (eA : A = sMs l T st h p n * sScH l h) (hs : SY l T st G h p n) (h1 : G' 30 p = G 30 p + A) (h2 : ∀ i, i ≠ p → G' 30 i = G 30 i) (hp : (p : Int) < l 0) : SY l T st G' h p (n + 1) := by
  intro p' a
  by_cases q : p' = p
  · rw [q, h1, hs p hp, if_neg (by omega), if_pos rfl, if_neg (by omega), if_pos rfl, eA]
    show _ = _ + (aS (fun n => sMs l T st h p n * sScH l h) n + sMs l T st h p n * sScH l h)
    omega
  · rw [h2 p' q, hs p' a]
    by_cases q2 : p' < p
    · rw [if_pos q2, if_pos q2]
    · rw [if_neg q2, if_neg q, if_neg q2, if_neg q]
theorem aS_s1 (f : Nat → Int) (k : Nat) : aS f (k + 1) = aS f k + f k := rfl
/-- the state to go on from: all that was done before it, and what is there -/
def FA (S : FS) (F : FI) (G : FJ) (a b : Nat) (F0 : FI) (h p n : Nat) : Prop := LK S F G a b F0 ∧ FW (F0 100) (sTk (F0 100) (cBs F0) (F0 100 4)) (F0 100 4) G h (p * 13 + n) ∧ AR (F0 100) (sTk (F0 100) (cBs F0) (F0 100 4)) (F0 100 4) G h (p * 13 + n) ∧ SY (F0 100) (sTk (F0 100) (cBs F0) (F0 100 4)) (F0 100 4) G h p n
set_option maxRecDepth 100000 in
theorem c_298 {k : FS → FI → FJ → Prop} {a b : Nat} {F0 : FI} {h p n : Nat} {S : FS} {F : FI} {G : FJ} (fa : FA S F G a b F0 h p n) (hw : vs (F0 100) (F0 100 4) h p n)
    (hk : ∀ F' G', FA S F' G' a b F0 h p (n + 1) → QC S S F F' G G' → k S F' G') : calV 2 298 [.inr (.inr (.inl 26)), .inl (p : Int), .inl (h : Int), .inl (n : Int)] (mm S F G) k nof := by
  obtain ⟨kL, fw, ar, sy⟩ := fa
  obtain ⟨ha, hb, ⟨k1, k2, k3, k4⟩, hv, hs, hlw, hl, hrw, hpr, v1, v2, v3, v4, v5, v6⟩ := id kL.1
  have hv' := hv
  obtain ⟨⟨hv1, hv2⟩, ⟨hv3, hv4⟩, ⟨hv5, hv6⟩, ⟨hv7, hv8⟩, ⟨hv9, hv10⟩, ⟨hv11, hv12⟩, ⟨hv13, hv14⟩, hvw, hvs, hvk, hvc, hvx⟩ := id hv
  obtain ⟨so1, so2, so3, so4⟩ := v6 kL.2.1
  obtain ⟨w1, w2, w3, w4, w5, w6⟩ := id hw
  have cv := sCf_v (w := mL F0) (F0 100 4) hv' hs
  have hT : TK (F0 100) (sTk (F0 100) (cBs F0) (F0 100 4)) (F0 100 4) := TK_c hv' cv
  obtain ⟨T, eT⟩ : ∃ T, T = sTk (F0 100) (cBs F0) (F0 100 4) := ⟨_, rfl⟩
  have so4' := so4 h p n hw
  have so4'' : F 18 (sp 16 h p n).toNat = T h p n := by rw [eT]; exact so4'
  rw [← eT] at fw ar sy hT
  have t16 : tM 16 = 3900 := rfl
  have sb := sp_b (d := 16) (h := (h : Int)) (p := (p : Int)) (n := (n : Int)) (Or.inl rfl) w1 (by omega) w3 (by omega) w5 (by omega)
  have spi : ∀ h p n : Int, sp 16 h p n = (h * 12 + p) * 13 + n := fun h p n => rfl
  have mb := sMs_b (h := h) (p := (p : Int)) (n := (n : Int)) hv' (by omega) (by omega) hT (by omega) w3 w4 w5 w6
  have scb := sScH_b hv' (h := (h : Int)) (by omega) (by omega)
  obtain ⟨g, fl, eg⟩ := fw
  have gM := (fl h p n hw).1 (Int.le_refl _)
  have am := eg h p n hw
  rw [gM, show ((h : Int)).toNat = h by omega] at am
  obtain ⟨M, eM⟩ : ∃ M, M = sMs (F0 100) T (F0 100 4) h p n := ⟨_, rfl⟩
  rw [← eM] at am mb
  obtain ⟨A, eA⟩ : ∃ A, A = M * sScH (F0 100) h := ⟨_, rfl⟩
  rw [← eA] at am mb
  have A0 : 0 ≤ A := by rw [eA]; exact Int.mul_nonneg mb.1 (by omega)
  have ei : p * 13 + n = ((p : Int) * 13 + (n : Int)).toNat := by omega
  have i1 := i_of (p := p) (n := n) (by omega) (by omega) (by omega)
  rw [← ei] at i1
  have i2 : iv (F0 100) (F0 100 4) (p * 13 + n) := by rw [ei]; exact iv_of (by omega) w4 (by omega) (by omega) w6
  -- what is counted for the place
  have syb : 0 ≤ G 30 p ∧ G 30 p ≤ 400000000000000 := by
    rw [sy p w4, if_neg (by omega), if_pos rfl]
    have v1 := sVs_b (h := h) (p := (p : Int)) hv' (by omega) (by omega) hT (by omega) w3 w4 n (by omega)
    have v2 : ∀ H : Nat, (H : Int) ≤ F0 100 3 → 0 ≤ aS (sVs (F0 100) T (F0 100 4) p) H ∧ aS (sVs (F0 100) T (F0 100 4) p) H ≤ (H : Int) * 14293651161088 := by
      intro H
      induction H with
      | zero => intro _; exact ⟨Int.le_refl _, Int.le_refl _⟩
      | succ H ihH =>
        intro hH
        have i := ihH (by omega)
        have v := sVs_b (h := H) (p := (p : Int)) hv' (by omega) (by omega) hT (by omega) w3 w4 (F0 100 4 + 1).toNat (by omega)
        have e : aS (sVs (F0 100) T (F0 100 4) p) (H + 1) = aS (sVs (F0 100) T (F0 100 4) p) H + aS (fun n => sMs (F0 100) T (F0 100 4) H p n * sScH (F0 100) H) (F0 100 4 + 1).toNat := rfl
        rw [e]
        have : (((F0 100 4 + 1).toNat : Nat) : Int) * 1099511627776 ≤ 13 * 1099511627776 := Int.mul_le_mul_of_nonneg_right (by omega) (by omega)
        omega
    have v3 := v2 h w2
    have : (n : Int) * 1099511627776 ≤ 13 * 1099511627776 := Int.mul_le_mul_of_nonneg_right (by omega) (by omega)
    have : (h : Int) * 14293651161088 ≤ 24 * 14293651161088 := Int.mul_le_mul_of_nonneg_right (by omega) (by omega)
    omega
  refine sg_298_0 ?_
  rw [kL.2.2.2, show kk 16 = (0, 7) from rfl]
  refine ck_i rfl (c_271 (Or.inl rfl) v3 w3 (by omega) w1 (by omega) w5 (by omega) (fun v ev => ?_))
  subst ev
  rw [k3, lk ha, spi, am]
  have tp : ((p : Int)).toNat = p := by omega
  rw [tp, wl_id (a := G 30 p + A) (by omega) (by omega)]
  obtain ⟨G1, eG1⟩ : ∃ G1, G1 = u2 G 30 p (G 30 p + A) := ⟨_, rfl⟩
  rw [← eG1]
  obtain ⟨kL1, q1⟩ := LK_w (F' := F) (G' := G1) kL (fun _ _ => rfl) (fun c hc => by rw [eG1]; exact u2_o (by omega))
  have sy1 : SY (F0 100) T (F0 100 4) G1 h p (n + 1) := sum_n (A := A) (by rw [eA, eM]) sy (by rw [eG1, u2_s]) (fun i hi => by rw [eG1, u2_n hi]) w4
  have g28 : G1 28 = G 28 := by rw [eG1]; exact u2_o (by decide)
  have g29 : G1 29 = G 29 := by rw [eG1]; exact u2_o (by decide)
  refine ck_i (jb_i (by omega) (by omega)) (ck_i (jb_i w3 (by omega)) (ck_i (jb_i w3 (by omega)) (ck_i rfl (c_208 ha (LR_c hl (fun _ _ => rfl) (by rw [eG1]; exact u2_o (by omega))) hv2 w3 w4 (by omega) (fun v2 ev2 => ?_)))))
  by_cases he : sEnd (F0 100) h p n = 0
  · have ce := sEnd_n he
    have tk := hT h p n hw he
    have tb := tk_bit hv' cv hw he
    have amv := AM_mask hv4 hv3 tk.1 (by rw [eT]; exact tb)
    obtain ⟨m, em⟩ : ∃ m, m = T h p n := ⟨_, rfl⟩
    rw [← em] at tk amv so4''
    have hx := YK_X kL1.1 (Or.inl rfl) (Or.inl rfl) kL1.2.2.1 kL1.2.2.2 so2
    refine cd_t (by rw [ev2]; exact he) (c_267 hx w3 w4 w1 (by omega) (by omega) w6 (fun F3 f3 st3 => ?_))
    have hx3 := YX_a hx f3
    rw [kL.2.2.2, show kk 16 = (0, 7) from rfl, show rr 16 2 = 18 from rfl, show kk 18 = (1, 3900) from rfl, f3.1 18 (by decide)]
    rw [spi] at so4''
    rw [so4'']
    refine ck_i rfl (ck_i rfl (ck_i (jb_i (by omega) (by omega)) (c_268 hx3 w3 w4 w1 (by omega) (by omega) w6 st3 amv (fun F4 f4 ai => ?_))))
    have hx4 := YX_a hx3 f4
    rw [k3, lk ha]
    refine ck_i rfl (c_204 ha hx4.2.2.2.2.2.2.2.1 w1 (by omega) (fun v5 e5 => ?_))
    obtain ⟨kL4, q4⟩ := LK_G kL1 (KG_a (KG_a KG_r f3 (by decide)) f4 (by decide)) (by rw [f4.1 23 (by decide), f3.1 23 (by decide)]; exact kL1.1.2.2.2.2.2.2.2.2.2.1)
    obtain ⟨ai1, ai2, ai3, q, hq, ai4, ai5⟩ := ai
    have qb : 0 ≤ q ∧ q < F0 100 0 := by
      rcases hq with e | ⟨m1, e⟩
      · rw [e]; exact ⟨w3, w4⟩
      · rw [e]; exact sOth_b hv' (by omega) (by omega)
    have ab1 := sAf_b (l := F0 100) (st := F0 100 4) (q := (p : Int)) (n := (n : Int)) (by omega) (by omega) (by omega) w6
    have ab2 := sAf_b (l := F0 100) (st := F0 100 4) (q := q) (n := (n : Int)) (by omega) (by omega) (by omega) w6
    have sS := sSc_s (F0 100) w1 (by omega)
    have scb1 := sScH_b hv' (h := (h : Int) + 1) (by omega) (by omega)
    -- a share of what is there
    have share : ∀ sh : Int, sh = M * sScH (F0 100) ((h : Int) + 1) → ∀ kt : FS → FI → FJ → Prop, (∀ G', FA S F4 G' a b F0 h p (n + 1) → QC S S F F4 G G' → kt S F4 G') → chk (ib (F4 22 12) 3900) (chk (ib (F4 22 12) 3900) (chk (ib (F4 22 13) 3900) (chk (ib (F4 22 13) 3900) (kt S F4 (u2 (u2 G1 28 (F4 22 12).toNat (wl (G1 28 (F4 22 12).toNat + wl (sh * F4 22 14)))) 28 (F4 22 13).toNat (wl ((u2 G1 28 (F4 22 12).toNat (wl (G1 28 (F4 22 12).toNat + wl (sh * F4 22 14)))) 28 (F4 22 13).toNat + wl (sh * F4 22 15)))))))) := by
      intro sh esh kt hkt
      have sA : sh ≤ A := by
        rw [esh, eA, sS]
        refine Int.mul_le_mul_of_nonneg_left ?_ mb.1
        split <;> omega
      have s0 : 0 ≤ sh := by rw [esh]; exact Int.mul_nonneg mb.1 (by omega)
      have wx : ∀ x, 0 ≤ x → x ≤ 16 → wl (sh * x) = sh * x ∧ 0 ≤ sh * x ∧ sh * x ≤ 17592186044416 := by
        intro x a b
        have c : 0 ≤ sh * x := Int.mul_nonneg s0 a
        have d := Int.mul_le_mul (show sh ≤ 1099511627776 by omega) b a (by omega)
        exact ⟨wl_id (by omega) (by omega), c, by omega⟩
      have x14 := wx (F4 22 14) ai2.1 ai2.2
      have x15 := wx (F4 22 15) ai3.1 ai3.2
      have sb1 := sp_b (d := 16) (h := (h : Int) + 1) (p := (p : Int)) (n := sAf (F0 100) (F0 100 4) p n) (Or.inl rfl) (by omega) (by omega) w3 (by omega) ab1.1 (by omega)
      have sb2 := sp_b (d := 16) (h := (h : Int) + 1) (p := q) (n := sAf (F0 100) (F0 100 4) q n) (Or.inl rfl) (by omega) (by omega) qb.1 (by omega) ab2.1 (by omega)
      have gb : ∀ q s, 0 ≤ q → q < F0 100 0 → 0 ≤ s → s ≤ F0 100 4 → 0 ≤ G 28 ((((h : Int) + 1) * 12 + q) * 13 + s).toNat ∧ G 28 ((((h : Int) + 1) * 12 + q) * 13 + s).toNat ≤ 1099511627776 := by
        intro q s a b c d
        have w : vs (F0 100) (F0 100 4) ((h : Int) + 1) q s := ⟨by omega, by omega, a, b, c, d⟩
        rw [eg _ _ _ w, (fl _ _ _ w).2.1 rfl]
        have z := fun i => sCo_n (l := F0 100) (T := T) (st := F0 100 4) (p' := q) (n' := s) (h := h) (i := i) (M := sMs (F0 100) T (F0 100 4) h) hv' hT (by omega) (fun p n => sMs_n hv' hT (by omega) p n)
        have nn := aS_nn (f := sCo (F0 100) T (F0 100 4) h (sMs (F0 100) T (F0 100 4) h) q s) (k := p * 13 + n) (fun i _ => z i)
        have up : aS (sCo (F0 100) T (F0 100 4) h (sMs (F0 100) T (F0 100 4) h) q s) (p * 13 + n) ≤ sMs (F0 100) T (F0 100 4) (h + 1) q s := aS_up (k := 156) (by omega) (fun i _ => z i)
        have mbx := sMs_b (h := h + 1) (p := q) (n := s) hv' (by omega) (by omega) hT (by omega) a b c d
        have e1 : (((h + 1 : Nat) : Int)) = (h : Int) + 1 := by omega
        rw [e1] at mbx
        exact ⟨Int.mul_nonneg nn (by omega), Int.le_trans (Int.mul_le_mul_of_nonneg_right up (by omega)) mbx.2.1⟩
      have gA := gb p _ w3 w4 ab1.1 ab1.2
      have gB := gb q _ qb.1 qb.2 ab2.1 ab2.2
      rw [ai1, ai4, x14.1, x15.1, g28, spi, spi, wl_id (a := G 28 _ + sh * F4 22 14) (by omega) (by omega)]
      obtain ⟨iA, eiA⟩ : ∃ iA, iA = ((((h : Int) + 1) * 12 + p) * 13 + sAf (F0 100) (F0 100 4) p n).toNat := ⟨_, rfl⟩
      obtain ⟨iB, eiB⟩ : ∃ iB, iB = ((((h : Int) + 1) * 12 + q) * 13 + sAf (F0 100) (F0 100 4) q n).toNat := ⟨_, rfl⟩
      rw [spi] at sb1 sb2
      rw [← eiA] at gA
      rw [← eiB] at gB
      rw [← eiA, ← eiB]
      have wz : wl ((u2 G1 28 iA (G 28 iA + sh * F4 22 14)) 28 iB + sh * F4 22 15) = (u2 G1 28 iA (G 28 iA + sh * F4 22 14)) 28 iB + sh * F4 22 15 := by
        rw [u2_k, g28]
        split <;> exact wl_id (by omega) (by omega)
      rw [wz]
      refine ck_i (jb_i (by omega) (by omega)) (ck_i (jb_i (by omega) (by omega)) (ck_i (jb_i (by omega) (by omega)) (ck_i (jb_i (by omega) (by omega)) (hkt _ ?_ ?_))))
      · obtain ⟨kL5, q5⟩ := LK_w (F' := F4) (G' := u2 (u2 G1 28 iA (G 28 iA + sh * F4 22 14)) 28 iB ((u2 G1 28 iA (G 28 iA + sh * F4 22 14)) 28 iB + sh * F4 22 15)) kL4 (fun _ _ => rfl) (fun c hc => by rw [u2_o (by omega), u2_o (by omega)])
        unfold FA
        rw [← eT]
        refine ⟨kL5, ?_, ?_, ?_⟩
        · refine ⟨fun i => g i + M * ((if i = iA then F4 22 14 else 0) + (if i = iB then F4 22 15 else 0)), FL_s fl w4 (by omega) w6 he (fun p' n' a b c d => ?_) (fun h' p' n' w e => ?_), fun h' p' n' w => ?_⟩
          · have ct : sCt (F0 100) (F0 100 4) h p n (T h p n) p' n' = (if ((((h : Int) + 1) * 12 + p') * 13 + n').toNat = iA then F4 22 14 else 0) + (if ((((h : Int) + 1) * 12 + p') * 13 + n').toNat = iB then F4 22 15 else 0) := by
              rw [← em]
              unfold sCt
              rw [← ai5 (fun q s => if q = p' ∧ s = n' then 1 else 0)]
              have d1 : (((((h : Int) + 1) * 12 + p') * 13 + n').toNat = iA) ↔ ((p : Int) = p' ∧ sAf (F0 100) (F0 100 4) p n = n') := by rw [eiA]; omega
              have d2 : (((((h : Int) + 1) * 12 + p') * 13 + n').toNat = iB) ↔ (q = p' ∧ sAf (F0 100) (F0 100 4) q n = n') := by rw [eiB]; omega
              by_cases c1 : (p : Int) = p' ∧ sAf (F0 100) (F0 100 4) p n = n'
              · rw [if_pos (d1.mpr c1), if_pos c1]
                by_cases c2 : q = p' ∧ sAf (F0 100) (F0 100 4) q n = n'
                · rw [if_pos (d2.mpr c2), if_pos c2]; omega
                · rw [if_neg (fun r => c2 (d2.mp r)), if_neg c2]; omega
              · rw [if_neg (fun r => c1 (d1.mp r)), if_neg c1]
                by_cases c2 : q = p' ∧ sAf (F0 100) (F0 100 4) q n = n'
                · rw [if_pos (d2.mpr c2), if_pos c2]; omega
                · rw [if_neg (fun r => c2 (d2.mp r)), if_neg c2]; omega
            show g _ + M * (_ + _) = _
            rw [ct, eM]
          · obtain ⟨u1, u2', u3, u4, u5, u6⟩ := w
            show g _ + M * (_ + _) = _
            rw [if_neg (by omega), if_neg (by omega)]
            omega
          · show _ = (g _ + M * (_ + _)) * _
            obtain ⟨u1, u2', u3, u4, u5, u6⟩ := id w
            have e0 := eg h' p' n' w
            have m14 : M * F4 22 14 * sScH (F0 100) ((h : Int) + 1) = sh * F4 22 14 := by rw [esh, Int.mul_right_comm]
            have m15 : M * F4 22 15 * sScH (F0 100) ((h : Int) + 1) = sh * F4 22 15 := by rw [esh, Int.mul_right_comm]
            obtain ⟨I, eI⟩ : ∃ I, I = ((h' * 12 + p') * 13 + n').toNat := ⟨_, rfl⟩
            rw [← eI] at e0
            rw [← eI, u2_k, u2_k, u2_k, g28, Int.mul_add, Int.add_mul, Int.add_mul, ← e0]
            by_cases c2 : I = iB
            · have hh : h' = (h : Int) + 1 := by omega
              rw [if_pos c2, if_pos c2, hh, m15]
              by_cases c1 : I = iA
              · rw [if_pos c1, if_pos (by omega), m14, c1]
                exact Int.add_assoc _ _ _
              · rw [if_neg c1, if_neg (by omega), c2]
                simp
            · rw [if_neg c2, if_neg c2]
              by_cases c1 : I = iA
              · have hh : h' = (h : Int) + 1 := by omega
                rw [if_pos c1, if_pos c1, c1, hh, m14]
                simp
              · rw [if_neg c1, if_neg c1]
                simp
        · have ar' := AR_z (j := p * 13 + n + 1) ar (by omega) (fun k k1 k2 e e1 e2 => by
            rw [show k = p * 13 + n by omega]
            unfold sAe
            rw [i1.1, i1.2, he, iW_n (c := (0 : Int) = e) (by omega), Int.mul_zero]
            rcases iW_2 (iv (F0 100) (F0 100 4) (p * 13 + n)) with ⟨_, e⟩ | ⟨_, e⟩ <;> rw [e])
          intro h' e a b c
          rw [u2_o (by decide), u2_o (by decide), g29]
          exact ar' h' e a b c
        · intro p' a
          rw [u2_o (by decide), u2_o (by decide)]
          exact sy1 p' a
      · refine QC_t q1 (QC_t q4 ⟨fun _ _ => rfl, fun _ _ => rfl, fun c hc => ?_, fun _ _ _ => rfl⟩)
        rw [u2_o (by omega), u2_o (by omega)]
    unfold sSh at e5
    by_cases sy0 : sSy (F0 100) h = 1
    · rw [if_pos sy0] at e5 sS
      refine cd_t e5 (share _ ?_ (fun S F G => ∃ S1 F1 G1, mm S F G = mm S1 F1 G1 ∧ k S1 F1 G1) (fun G' fa q => ⟨_, _, _, rfl, hk F4 G' fa q⟩))
      rw [sarl_4 A0 (by omega), eA, sS, ← Int.mul_assoc]
      exact Int.mul_ediv_cancel _ (by decide)
    · rw [if_neg sy0] at e5 sS
      refine cd_f (by omega) (share _ ?_ (fun S F G => ∃ S1 F1 G1, mm S F G = mm S1 F1 G1 ∧ k S1 F1 G1) (fun G' fa q => ⟨_, _, _, rfl, hk F4 G' fa q⟩))
      rw [eA, sS, Int.mul_one]
  · have eb := sEnd_03 (l := F0 100) (h := (h : Int)) (p := (p : Int)) (n := (n : Int))
    obtain ⟨e, ee⟩ : ∃ e, e = sEnd (F0 100) h p n := ⟨_, rfl⟩
    rw [← ee] at ev2 eb he
    rw [ev2]
    have are := ar h e w2 (by omega) (by omega)
    rw [if_neg (by omega), if_pos rfl] at are
    have ab := aS_up (f := sAe (F0 100) T (F0 100 4) e h) (j := p * 13 + n) (k := 156) (by omega) (fun i _ => sAe_0 hv' hT w2)
    have arb := sArr_b (e := e) (h := h) hv' (by omega) (by omega) hT w2
    have ab0 := aS_nn (f := sAe (F0 100) T (F0 100 4) e h) (k := p * 13 + n) (fun i _ => sAe_0 hv' hT w2)
    have ab' : aS (sAe (F0 100) T (F0 100 4) e h) (p * 13 + n) ≤ sArr (F0 100) T (F0 100 4) e h := ab
    rw [wr_id (a := (h : Int) * 4) (by omega) (by omega), wr_id (a := (h : Int) * 4 + e) (by omega) (by omega), g29, are, wl_id (a := _ + A) (by omega) (by omega)]
    refine cd_f he (ck_i (jb_i (by omega) (by omega)) (ck_i (jb_i (by omega) (by omega)) ⟨_, _, _, rfl, hk F _ ?_ ?_⟩))
    · obtain ⟨kL5, q5⟩ := LK_w (F' := F) (G' := u2 G1 29 ((h : Int) * 4 + e).toNat (aS (sAe (F0 100) T (F0 100 4) e h) (p * 13 + n) + A)) kL1 (fun _ _ => rfl) (fun c hc => u2_o (by omega))
      have fw' : FW (F0 100) T (F0 100 4) G h (p * 13 + n + 1) := FW_z ⟨g, fl, eg⟩ (by omega) (fun k k1 k2 p' n' => iW_n (fun x => he (by
        rw [show k = p * 13 + n by omega, i1.1, i1.2] at x
        rw [ee]
        exact x.2)))
      unfold FA
      rw [← eT]
      refine ⟨kL5, ?_, fun h' e' a b c => ?_, fun p' a => ?_⟩
      · obtain ⟨g', fl', eg'⟩ := fw'
        refine ⟨g', fl', fun h' p' n' w => ?_⟩
        rw [u2_o (by decide), g28]
        exact eg' h' p' n' w
      · have sae : sAe (F0 100) T (F0 100 4) e' h (p * 13 + n) = if e' = e then A else 0 := by
          unfold sAe
          rw [iW_p i2, i1.1, i1.2, ← eM, ← ee]
          by_cases q : e' = e
          · rw [if_pos q, iW_p q.symm, eA]
          · rw [if_neg q, iW_n (fun r => q r.symm), Int.mul_zero]
        have old := ar h' e' a b c
        rw [u2_k, g29]
        by_cases q : h' = h ∧ e' = e
        · rw [if_pos (by omega), q.1, q.2, if_neg (by omega), if_pos rfl]
          rw [q.2, if_pos rfl] at sae
          rw [show p * 13 + (n + 1) = p * 13 + n + 1 from rfl, aS_s1, sae]
        · rw [if_neg (by omega), old]
          by_cases q1 : h' < h
          · rw [if_pos q1, if_pos q1]
          · rw [if_neg q1, if_neg q1]
            by_cases q2 : h' = h
            · rw [if_pos q2, if_pos q2]
              rw [show p * 13 + (n + 1) = p * 13 + n + 1 from rfl, aS_s1, sae, if_neg (fun r => q ⟨q2, r⟩), Int.add_zero]
            · rw [if_neg q2, if_neg q2]
      · rw [u2_o (by decide)]
        exact sy1 p' a
    · refine QC_t q1 ⟨fun _ _ => rfl, fun _ _ => rfl, fun c hc => ?_, fun _ _ _ => rfl⟩
      rw [u2_o (by omega)]
