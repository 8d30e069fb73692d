/-! ===== the class reads a law, and is told it ===== -/
def CRl (F : FI) (b : Nat) (rl : List (Int × Int)) : Prop := F b 5 = (rl.length : Int) ∧ F (b + 2) 0 = 0 ∧ ∀ i : Nat, i < rl.length → F (b + 1) i = (rl.getD i (0, 0)).1 ∧ F (b + 2) (i + 1) = (rl.getD i (0, 0)).2
def FRw (b : Nat) (F F' : FI) : Prop := (∀ c, c ≠ 2 → ¬ (b ≤ c ∧ c ≤ b + 3) → F' c = F c) ∧ F' 2 1 = F 2 1 ∧ F' (b + 2) 0 = F (b + 2) 0
def FRv (b : Nat) (F F' : FI) : Prop := FRw b F F' ∧ F' 2 8 = F 2 8
theorem FRw_t {b : Nat} {F F1 F2 : FI} (h1 : FRw b F F1) (h2 : FRw b F1 F2) : FRw b F F2 := ⟨fun c x y => (h2.1 c x y).trans (h1.1 c x y), h2.2.1.trans h1.2.1, h2.2.2.trans h1.2.2⟩
theorem FRv_t {b : Nat} {F F1 F2 : FI} (h1 : FRv b F F1) (h2 : FRv b F1 F2) : FRv b F F2 := ⟨FRw_t h1.1 h2.1, h2.2.trans h1.2⟩
theorem FRw_x {b : Nat} {F F' : FI} (hb : oW b) (h : FRx b F F') : FRw b F F' := ⟨fun c x y => h.1 c x (by omega) (by omega), h.2.2, by rw [h.1 (b + 2) (by rcases hb with e | e <;> subst e <;> decide) (by omega) (by omega)]⟩
theorem FRv_y {b : Nat} {F F' : FI} (hb : oW b) (h : FRy b F F') : FRv b F F' := ⟨FRw_x hb h.1, h.2⟩
theorem CRl_x {b : Nat} {F F' : FI} {rl : List (Int × Int)} (hb : oW b) (h : FRx b F F') (hc : CRl F b rl) : CRl F' b rl := by
  unfold CRl at hc ⊢
  rw [h.2.1 5 (by decide), h.1 (b + 2) (by rcases hb with e | e <;> subst e <;> decide) (by omega) (by omega), h.1 (b + 1) (by rcases hb with e | e <;> subst e <;> decide) (by omega) (by omega)]
  exact hc
theorem RUL_x {t : Nat → Int} {n : Int} {K : Nat} {x : Px} {rl : List (Int × Int)} {R : Px × List (Int × Int)} (h : RUL t n K x rl R) (hf : x.1.2.1 ≠ -1) : R = (x, rl) := by
  cases K with
  | zero => exact h
  | succ K =>
    rcases h with ⟨-, h⟩ | ⟨h, -⟩ | ⟨h, -⟩ | ⟨h, -⟩ | ⟨h, -⟩ | ⟨h, -⟩
    · exact h
    all_goals exact absurd h hf
set_option maxRecDepth 100000 in
/-- a rule is closed -/
theorem c_227 {k : FS → FI → FJ → Prop} {t : Nat → Int} {n e go : Int} {b : Nat} {rl prog : List (Int × Int)} {S : FS} {F : FI} {G : FJ} (hb : oW b) (hl : rl.length < 10) (hr : CRl F b rl) (hp : CPr F b prog) (hc : CTk F t n e) (hk : ∀ F', FRv b F F' → CRl F' b (rl ++ [(go, (prog.length : Int))]) → CPr F' b prog → CTk F' t n e → (∀ i, F' (2000000 + i) = F (2000000 + i)) → k S F' G) : calV 0 227 [.inr (.inr (.inl b)), .inl go] (mm S F G) k nof := by
  obtain ⟨r1, r0, r2⟩ := hr
  have kb : kq (kk b) 0 2 = true := by rw [wk hb]; rfl
  have b2 : b ≠ 2 ∧ b ≠ 3 ∧ b + 1 ≠ 2 ∧ b + 1 ≠ 3 ∧ b + 2 ≠ 2 ∧ b + 2 ≠ 3 ∧ b < 100 := by rcases hb with e | e <;> subst e <;> decide
  have lq : (rl ++ [(go, (prog.length : Int))]).length = rl.length + 1 := List.length_append
  refine sg_227_0 (ck_i kb (cd_t (by rw [r1]; omega) ?_))
  rw [wr0 hb, wr1 hb, wk1 hb, wk2 hb, r1, u2_o (show b ≠ b + 1 by omega), r1, wr_id (by omega) (by omega)]
  rw [u2_s, u2_n (show (6 : Nat) ≠ 5 by decide), u2_o (show b ≠ b + 1 by omega), hp.1]
  refine ck_i kb (ck_i kb (ck_i rfl (ck_i (jb_i (by omega) (by omega)) (ck_i kb (ck_i kb (ck_i kb (ck_i kb (ck_i kb (ck_i rfl (ck_i (jb_i (by omega) (by omega)) ⟨_, _, _, rfl, hk _ ⟨⟨fun c c1 c2 => ?_, ?_, ?_⟩, ?_⟩ ⟨?_, ?_, fun i hi => ⟨?_, ?_⟩⟩ ⟨?_, fun i hi => ?_⟩ (CTk_k hc ?_ ?_) (fun i => ?_)⟩))))))))))
  · rw [u2_o (by omega), u2_o (by omega), u2_o (by omega)]
  · rw [u2_o (by omega), u2_o (by omega), u2_o (by omega)]
  · rw [u2_n (by omega), u2_o (by omega), u2_o (by omega)]
  · rw [u2_o (by omega), u2_o (by omega), u2_o (by omega)]
  · rw [u2_o (by omega), u2_s, lq]
    rfl
  · rw [u2_n (by omega), u2_o (by omega), u2_o (by omega)]
    exact r0
  · rw [lq] at hi
    rw [u2_o (by omega), u2_o (by omega), u2_k, show ((rl.length : Int)).toNat = rl.length by omega]
    by_cases z : i = rl.length
    · rw [if_pos z, z, getD_r]
    · rw [if_neg z, getD_l (by omega)]
      exact (r2 i (by omega)).1
  · rw [lq] at hi
    rw [u2_k, show ((rl.length : Int) + 1).toNat = rl.length + 1 by omega]
    by_cases z : i = rl.length
    · rw [if_pos (by omega), z, getD_r]
    · rw [if_neg (by omega), u2_o (by omega), u2_o (by omega), getD_l (by omega)]
      exact (r2 i (by omega)).2
  · rw [u2_o (by omega), u2_n (by decide), u2_o (by omega)]
    exact hp.1
  · rw [u2_o (by omega), u2_o (by omega), u2_o (by omega)]
    exact hp.2 i hi
  · rw [u2_o (by omega), u2_o (by omega), u2_o (by omega)]
  · rw [u2_o (by omega), u2_o (by omega), u2_o (by omega)]
  · rw [u2_o (by omega), u2_o (by omega), u2_o (by omega)]
def EX1 (k : Int → FS → FI → FJ → Prop) (v : Int) (S : FS) (F : FI) (G : FJ) : Prop := ∃ S' F' G', mm S F G = mm S' F' G' ∧ k v S' F' G'
set_option maxRecDepth 100000 in
/-- a rule -/
theorem c_232 {k : Int → FS → FI → FJ → Prop} {t : Nat → Int} {n x1 : Int} {b K : Nat} {x : Px} {rl : List (Int × Int)} {R : Px × List (Int × Int)} {S : FS} {F : FI} {G : FJ} (hb : oW b) (hn : n ≤ 600) (hok : x.1.2.1 = -1) (hx : 0 ≤ x.1.1 ∧ x.1.1 ≤ n) (hl : (x.2.length : Int) ≤ x.1.1) (hc : cXs S F t n b x) (hr : CRl F b rl) (h10 : rl.length ≤ 10) (hx1 : (x1 = 1 ∧ rl.length < 10) ∨ (x1 = 0 ∧ rl.length = 10)) (hlt : pSp t n x.1.1 < n) (hR : RUL t n (K + 1) x rl R)
    (bad : R.1.1.2.1 ≠ -1 → ∀ F', FRw b F F' → F' 2 7 = R.1.1.2.2 → F' 2 8 = R.1.1.2.1 → k 0 S F' G)
    (good : ∀ (x' : Px) (rl' : List (Int × Int)) (F' : FI), RUL t n K x' rl' R → rl'.length = rl.length + 1 → rl.length < 10 → x'.1.2.1 = -1 → 0 ≤ x'.1.1 ∧ x'.1.1 ≤ n → (x'.2.length : Int) ≤ x'.1.1 → cXs S F' t n b x' → CRl F' b rl' → FRv b F F' → k 1 S F' G) : calI 91 232 [.inr (.inr (.inl 5)), .inl x1] (mm S F G) k nof := by
  obtain ⟨s37, s38, s39, -⟩ := tC_same.2
  obtain ⟨b1, b2, bs, -⟩ := rul_b (t := t) hx
  obtain ⟨c1', c2', -, cl'⟩ := rul_b (t := t) b1
  obtain ⟨d1, d2, ds, -⟩ := rul_b (t := t) c2'
  obtain ⟨-, e2', -, el'⟩ := rul_b (t := t) d1
  have ct := hc.2.2.1
  have ne24 : tC 23 ≠ tC 24 := by decide +kernel
  -- a fault at a token
  have flt : ∀ (kd a : Int) (F1 : FI), R.1.1 = (a, a, kd) → a ≠ -1 → FRx b F F1 → k 0 S (cFt F1 kd a) G := by
    intro kd a F1 e ha fr
    have ne : R.1.1.2.1 ≠ -1 := by rw [e]; exact ha
    refine bad ne _ (FRw_x hb (FRx_e hb fr)) ?_ ?_
    · rw [e]; exact cFt_7.1
    · rw [e]; exact cFt_7.2
  -- behind the word
  have body : ∀ (v1 : Int), (v1 = 0 ∧ pWd t n (pSp t n x.1.1) = tC 24) ∨ (v1 = 1 ∧ pWd t n (pSp t n x.1.1) = tC 23) →
      cnd (decide (x1 = 0)) (calI 0 281 [.inr (.inr (.inl 2)), .inl 3] (mm S F G) (fun v4 S4 F4 G4 => chk (zb v4) (EX1 k v4 S4 F4 G4)) nof) (calV 1 276 [.inr (.inr (.inl 2))] (mm S F G) (fun S5 F5 G5 => calI 0 279 [.inr (.inr (.inl 2)), .inr (.inr (.inl 2000039))] (mm S5 F5 G5) (fun v6 S6 F6 G6 => cnd (decide (v6 = 0)) (calI 0 281 [.inr (.inr (.inl 2)), .inl 1] (mm S6 F6 G6) (fun v7 S7 F7 G7 => chk (zb v7) (EX1 k v7 S7 F7 G7)) nof) (calV 1 276 [.inr (.inr (.inl 2))] (mm S6 F6 G6) (fun S8 F8 G8 => calI 90 233 [.inr (.inr (.inl 5)), .inl 0, .inl 0] (mm S8 F8 G8) (fun v9 S9 F9 G9 => cnd (decide (v9 = 0)) (EX1 k 0 S9 F9 G9) (calI 2 283 [.inr (.inr (.inl 2)), .inl 59] (mm S9 F9 G9) (fun v10 S10 F10 G10 => cnd (decide (v10 = 0)) (EX1 k 0 S10 F10 G10) (cnd (decide (v1 = 0)) (chk (kq (kk (S10 5 1)) 0 2) (calV 0 227 [.inr (.inr (.inl (S10 5 1))), .inl 1] (mm S10 F10 G10) (fun S11 F11 G11 => EX1 k 1 S11 F11 G11) nof)) (chk (kq (kk (S10 5 1)) 0 2) (calV 0 227 [.inr (.inr (.inl (S10 5 1))), .inl 0] (mm S10 F10 G10) (fun S12 F12 G12 => EX1 k 1 S12 F12 G12) nof)))) nof)) nof) nof)) nof) nof) := by
    intro v1 hv1
    have hw : pWd t n (pSp t n x.1.1) = tC 23 ∨ pWd t n (pSp t n x.1.1) = tC 24 := hv1.elim (fun q => Or.inr q.2) (fun q => Or.inl q.2)
    obtain ⟨go, eg⟩ : ∃ go : Int, (if pWd t n (pSp t n x.1.1) = tC 24 then 1 else 0) = go := ⟨_, rfl⟩
    have go1 : v1 = 0 → go = 1 := fun q => by rw [← eg, if_pos (hv1.elim (fun z => z.2) (fun z => by omega))]
    have go0 : v1 ≠ 0 → go = 0 := fun q => by
      have z := hv1.resolve_left (fun z => q z.1)
      rw [← eg, if_neg (by rw [z.2]; exact ne24)]
    have ex : ∀ v F1, k v S F1 G → EX1 k v S F1 G := fun v F1 q => ⟨_, _, _, rfl, q⟩
    have te : tE t n (pSp t n x.1.1) = pLe t n (pSp t n x.1.1) := by
      rcases hw with w | w
      · exact tE_w (okW_i (s := 23) (by decide) (by decide)) b1.1 b1.2 w
      · exact tE_w (okW_i (s := 24) (by decide) (by decide)) b1.1 b1.2 w
    rcases hR with ⟨hf, -⟩ | ⟨-, hn', -⟩ | ⟨-, -, hw', -⟩ | ⟨-, -, -, l10, hR⟩ | ⟨-, -, -, l10, h4, hR⟩ | ⟨-, -, -, l10, h4, y, hy, hR⟩
    · exact absurd hok hf
    · omega
    · exact absurd hw (fun q => q.elim hw'.1 hw'.2)
    · refine cd_t (by omega) (c_281 ct (ck_i rfl (ex _ _ (flt 3 _ F ?_ (by omega) FRy_r.1))))
      rw [hR]
      exact pFl_y hok
    · refine cd_f (by omega) (c_adv (r := pAt x.1 (pLe t n (pSp t n x.1.1))) ct te.symm (fun F1 f1 c1 => c_279 (s := 39) rfl (okW_i (by decide) (by decide)) (TX_f hc.2.1 f1) c1 (fun z => absurd (by rw [← s39]; exact z) h4) (fun _ => cd_t rfl (c_281 c1 (ck_i rfl (ex _ _ (flt 1 _ F1 ?_ (by show pSp t n (pLe t n (pSp t n x.1.1)) ≠ -1; omega) (FRy_f hb f1).1)))))))
      rw [hR]
      exact pFl_y hok
    · have te2 : tE t n (pSp t n (pLe t n (pSp t n x.1.1))) = pLe t n (pSp t n (pLe t n (pSp t n x.1.1))) := tE_w (okW_i (s := 25) (by decide) (by decide)) d1.1 d1.2 h4
      refine cd_f (by omega) (c_adv (r := pAt x.1 (pLe t n (pSp t n x.1.1))) ct te.symm (fun F1 f1 c1 => c_279 (s := 39) rfl (okW_i (by decide) (by decide)) (TX_f hc.2.1 f1) c1 (fun _ => cd_f (by decide) ?_) (fun z => absurd (by rw [s39]; exact h4) z)))
      refine c_adv (r := pAt x.1 (pLe t n (pSp t n (pLe t n (pSp t n x.1.1))))) c1 te2.symm (fun F2 f2 c2 => ?_)
      have f12 := TF_t f1 f2
      have cx : cXs S F2 t n b (pAt x.1 (pLe t n (pSp t n (pLe t n (pSp t n x.1.1)))), x.2) := cXs_f hb hc f12 c2 rfl
      have my := GP_m hy e2'
      refine (cls_all hb hn hy hok e2' (by show (x.2.length : Int) ≤ pLe t n (pSp t n (pLe t n (pSp t n x.1.1))); omega) ⟨by decide, by decide⟩).2.2.1 (by unfold rowG; decide) 90 _ S F2 G (by rw [rdc_v.2.2.2.2.2]; decide) cx (fun v F3 ol => ?_)
      rw [eg] at hR
      rcases ol with ⟨q1, q2, q3, q4, q5⟩ | ⟨q1, q2, q3, q4, q5⟩
      · subst q2
        have fy := FRy_t (FRy_f hb f12) q3
        have pe := pEx_p (t := t) (c := 59) my.1.1 my.1.2 (by decide)
        refine cd_f (by decide) (c_283 (p := y.1) q4 q1 (by decide) (fun ep F4 f4 c4 => cd_f (by decide) ?_) (fun q eq hq => cd_t rfl (ex _ _ ?_)))
        · have fz := FRy_t fy (FRy_f hb f4)
          have ok' : (pEx t n y.1 59).2.1 = -1 := by rw [ep]; exact q1
          have q2 := pe.2 ok'
          have m3 : (y.2.length : Int) - x.2.length ≤ y.1.1 - pLe t n (pSp t n (pLe t n (pSp t n x.1.1))) := (my.2 q1).2.2
          have fin : ∀ g, g = go → chk (kq (kk (S 5 1)) 0 2) (calV 0 227 [.inr (.inr (.inl (S 5 1))), .inl g] (mm S F4 G) (fun S11 F11 G11 => EX1 k 1 S11 F11 G11) nof) := by
            intro g eg'
            subst eg'
            refine ck_i (ckb hb hc.1) ?_
            rw [hc.1]
            refine c_227 (go := g) hb (by omega) (CRl_x hb fz.1 hr) (CPr_f hb q5 f4) c4 (fun F5 f5 r5 p5 c5 x5 => ex _ _ (good (pEx t n y.1 59, y.2) _ F5 hR ?_ (by omega) ok' pe.1 ?_ ⟨hc.1, ?_, ?_, p5⟩ r5 (FRv_t (FRv_y hb fz) f5)))
            · rw [List.length_append]; rfl
            · show (y.2.length : Int) ≤ (pEx t n y.1 59).1
              have := q2.2
              omega
            · intro t' i h1 h2
              rw [x5 t']
              exact TX_y hb hc.2.1 fz.1 t' i h1 h2
            · rw [ep]
              exact c5
          exact cn_i (fun z => fin 1 (go1 z).symm) (fun z => fin 0 (go0 z).symm)
        · have e := RUL_x hR (show ((pEx t n y.1 59, y.2) : Px).1.2.1 ≠ -1 by rw [← eq]; exact hq)
          refine bad (by rw [e, ← eq]; exact hq) _ (FRw_x hb (FRx_e hb fy.1)) ?_ ?_
          · rw [e, ← eq]; exact cFt_7.1
          · rw [e, ← eq]; exact cFt_7.2
      · subst q2
        have ey : pEx t n y.1 59 = y.1 := if_pos q1
        rw [ey] at hR
        have e := RUL_x hR q1
        refine cd_t rfl (ex _ _ (bad (by rw [e]; exact q1) F3 (FRw_t (FRw_x hb (FRy_f hb f12).1) (FRw_x hb q3)) ?_ ?_))
        · rw [e]; exact q4
        · rw [e]; exact q5
  refine sg_232_0 (c_279 (s := 37) rfl (okW_i (by decide) (by decide)) hc.2.1 ct (fun z => cd_f (by decide) ?_) (fun z => cd_t rfl (c_279 (s := 38) rfl (okW_i (by decide) (by decide)) hc.2.1 ct (fun z2 => cd_f (by decide) ?_) (fun z2 => cd_t rfl ?_))))
  · rw [s37] at z
    exact body 1 (Or.inr ⟨rfl, z⟩)
  · rw [s38] at z2
    exact body 0 (Or.inl ⟨rfl, z2⟩)
  · rw [s37] at z
    rw [s38] at z2
    refine c_281 ct (ck_i rfl ⟨_, _, _, rfl, flt 1 _ F ?_ (by omega) FRy_r.1⟩)
    rcases hR with ⟨hf, -⟩ | ⟨-, hn', -⟩ | ⟨-, -, hw', hR⟩ | ⟨-, -, hw, -⟩ | ⟨-, -, hw, -⟩ | ⟨-, -, hw, -⟩
    · exact absurd hok hf
    · omega
    · rw [hR]; exact pFl_y hok
    · exact absurd hw (fun q => q.elim z z2)
    · exact absurd hw (fun q => q.elim z z2)
    · exact absurd hw (fun q => q.elim z z2)
