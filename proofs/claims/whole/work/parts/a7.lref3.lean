/-! ===== the reference reads a law ===== -/
/-- rule by rule -/
def RUL (t : Nat → Int) (n : Int) : Nat → Px → List (Int × Int) → Px × List (Int × Int) → Prop
  | 0, x, rl, R => R = (x, rl)
  | K + 1, x, rl, R => (x.1.2.1 ≠ -1 ∧ R = (x, rl)) ∨ (x.1.2.1 = -1 ∧ n ≤ pSp t n x.1.1 ∧ R = ((pAt x.1 (pSp t n x.1.1), x.2), rl)) ∨
    (x.1.2.1 = -1 ∧ pSp t n x.1.1 < n ∧ (pWd t n (pSp t n x.1.1) ≠ tC 23 ∧ pWd t n (pSp t n x.1.1) ≠ tC 24) ∧ R = ((pFl (pAt x.1 (pSp t n x.1.1)) 1 (pSp t n x.1.1), x.2), rl)) ∨
    (x.1.2.1 = -1 ∧ pSp t n x.1.1 < n ∧ (pWd t n (pSp t n x.1.1) = tC 23 ∨ pWd t n (pSp t n x.1.1) = tC 24) ∧ rl.length = 10 ∧ R = ((pFl (pAt x.1 (pSp t n x.1.1)) 3 (pSp t n x.1.1), x.2), rl)) ∨
    (x.1.2.1 = -1 ∧ pSp t n x.1.1 < n ∧ (pWd t n (pSp t n x.1.1) = tC 23 ∨ pWd t n (pSp t n x.1.1) = tC 24) ∧ rl.length ≠ 10 ∧ pWd t n (pSp t n (pLe t n (pSp t n x.1.1))) ≠ tC 25 ∧ R = ((pFl (pAt x.1 (pSp t n (pLe t n (pSp t n x.1.1)))) 1 (pSp t n (pLe t n (pSp t n x.1.1))), x.2), rl)) ∨
    (x.1.2.1 = -1 ∧ pSp t n x.1.1 < n ∧ (pWd t n (pSp t n x.1.1) = tC 23 ∨ pWd t n (pSp t n x.1.1) = tC 24) ∧ rl.length ≠ 10 ∧ pWd t n (pSp t n (pLe t n (pSp t n x.1.1))) = tC 25 ∧
      ∃ y, GP t n 5 0 (pAt x.1 (pLe t n (pSp t n (pLe t n (pSp t n x.1.1)))), x.2) y ∧ RUL t n K (pEx t n y.1 59, y.2) (rl ++ [((if pWd t n (pSp t n x.1.1) = tC 24 then 1 else 0), (y.2.length : Int))]) R)
/-- where the parts of a rule stand -/
theorem rul_b {t : Nat → Int} {n a : Int} (h : 0 ≤ a ∧ a ≤ n) : (0 ≤ pSp t n a ∧ pSp t n a ≤ n) ∧ (0 ≤ pLe t n a ∧ pLe t n a ≤ n) ∧ a ≤ pSp t n a ∧ a ≤ pLe t n a := by
  have s := pSp_b (t := t) (n := n) (n - a).toNat a (by omega)
  have l := pLe_b (t := t) (n := n) (n - a).toNat a (by omega)
  omega
theorem RUL_all {t : Nat → Int} {n : Int} : ∀ (K : Nat) (x : Px) (rl : List (Int × Int)), 0 ≤ x.1.1 ∧ x.1.1 ≤ n → ∃ R, RUL t n K x rl R := by
  intro K
  induction K with
  | zero => exact fun x rl _ => ⟨(x, rl), rfl⟩
  | succ K ih =>
    intro x rl hx
    obtain ⟨b1, b2, -, -⟩ := rul_b (t := t) hx
    by_cases h : x.1.2.1 = -1
    · by_cases h1 : n ≤ pSp t n x.1.1
      · exact ⟨_, Or.inr (Or.inl ⟨h, h1, rfl⟩)⟩
      have h1 : pSp t n x.1.1 < n := by omega
      by_cases h2 : pWd t n (pSp t n x.1.1) = tC 23 ∨ pWd t n (pSp t n x.1.1) = tC 24
      · by_cases h3 : rl.length = 10
        · exact ⟨_, Or.inr (Or.inr (Or.inr (Or.inl ⟨h, h1, h2, h3, rfl⟩)))⟩
        by_cases h4 : pWd t n (pSp t n (pLe t n (pSp t n x.1.1))) = tC 25
        · obtain ⟨-, c2, -, -⟩ := rul_b (t := t) b1
          obtain ⟨d1, -, -, -⟩ := rul_b (t := t) c2
          obtain ⟨-, e2, -, -⟩ := rul_b (t := t) d1
          obtain ⟨y, hy⟩ := GP_all (t := t) (n := n) ((n - pLe t n (pSp t n (pLe t n (pSp t n x.1.1)))).toNat * 10 + 6 + 1) 5 0 (pAt x.1 (pLe t n (pSp t n (pLe t n (pSp t n x.1.1)))), x.2) (by decide) e2 (by
            simp only [show (5 : Nat) < 10 from by decide, if_true]
            show (n - pLe t n (pSp t n (pLe t n (pSp t n x.1.1)))).toNat * 10 + (5 + 1) < _
            omega)
          have my := (GP_m hy e2).1
          obtain ⟨R, hR⟩ := ih (pEx t n y.1 59, y.2) (rl ++ [((if pWd t n (pSp t n x.1.1) = tC 24 then 1 else 0), (y.2.length : Int))]) (pEx_p my.1 my.2 (by decide)).1
          exact ⟨R, Or.inr (Or.inr (Or.inr (Or.inr (Or.inr ⟨h, h1, h2, h3, h4, y, hy, hR⟩))))⟩
        · exact ⟨_, Or.inr (Or.inr (Or.inr (Or.inr (Or.inl ⟨h, h1, h2, h3, h4, rfl⟩))))⟩
      · exact ⟨_, Or.inr (Or.inr (Or.inl ⟨h, h1, ⟨fun q => h2 (Or.inl q), fun q => h2 (Or.inr q)⟩, rfl⟩))⟩
    · exact ⟨_, Or.inl ⟨h, rfl⟩⟩
def EN6 (Q : Rs → Mm → Prop) (x2 : Int) (S : FS) (F : FI) (G : FJ) : Prop := calI 0 73 [.inr (.inr (.inl 97))] (mm S (u2 F 97 8 (F 97 5)) G) (fun v2 S2 F2 G2 => cnd (decide (v2 = 0)) (Q (.inl (some (.inl (wr ((F2 97 6) - 10))))) (mm S2 F2 G2)) (wph 91 106 235 [.inr (.inr (.inl 97)), jk, .inl x2, .inl 0] [] (mm S2 (u2 F2 97 13 x2) G2) (0, 0) Q)) nof
def LP6 (Q : Rs → Mm → Prop) (x2 : Int) (S : FS) (F : FI) (G : FJ) : Prop := calV 90 105 [.inr (.inr (.inl 97))] (mm S F G) (fun S15 F15 G15 => calV 1 82 [.inr (.inr (.inl 97)), .inl 59] (mm S15 F15 G15) (fun S16 F16 G16 => chk (ib (wr (x2 + 1)) 11) (wph 91 106 45 [.inr (.inr (.inl 97)), jk, .inl (wr (x2 + 1))] [] (mm S16 (u2 F16 109 (((wr (x2 + 1))).toNat) (F16 97 14)) G16) (0, 0) Q)) nof) nof
def TL6 (Q : Rs → Mm → Prop) (x2 : Int) (S : FS) (F : FI) (G : FJ) : Prop := calI 1 78 [.inr (.inr (.inl 97))] (mm S F G) (fun v12 S12 F12 G12 => calI 0 79 [.inr (.inr (.inl 2000025))] (mm S12 F12 G12) (fun v13 S13 F13 G13 => cnd (decide (v12 = v13)) (calI 0 73 [.inr (.inr (.inl 97))] (mm S13 F13 G13) (fun v14 S14 F14 G14 => cnd (decide (v14 = 0)) (LP6 Q x2 S14 F14 G14) (calV 1 80 [.inr (.inr (.inl 97))] (mm S14 F14 G14) (fun S17 F17 G17 => LP6 Q x2 S17 F17 G17) nof)) nof) (calV 0 74 [.inr (.inr (.inl 97)), .inl 1, .inl (F13 97 4)] (mm S13 F13 G13) (fun S20 F20 G20 => calI 0 73 [.inr (.inr (.inl 97))] (mm S20 F20 G20) (fun v21 S21 F21 G21 => cnd (decide (v21 = 0)) (LP6 Q x2 S21 F21 G21) (calV 1 80 [.inr (.inr (.inl 97))] (mm S21 F21 G21) (fun S24 F24 G24 => LP6 Q x2 S24 F24 G24) nof)) nof) nof)) nof) nof
def RL6 (Q : Rs → Mm → Prop) (x2 v5 : Int) (S : FS) (F : FI) (G : FJ) : Prop := calV 1 80 [.inr (.inr (.inl 97))] (mm S F G) (fun S10 F10 G10 => calI 0 79 [.inr (.inr (.inl 2000024))] (mm S10 F10 G10) (fun v11 S11 F11 G11 => cnd (decide (v5 = v11)) (chk (ib x2 10) (TL6 Q x2 S11 (u2 F11 108 ((x2).toNat) 1) G11)) (chk (ib x2 10) (TL6 Q x2 S11 (u2 F11 108 ((x2).toNat) 0) G11))) nof) nof
def RLs (F : FI) (rl : List (Int × Int)) : Prop := ∀ i : Nat, i < rl.length → F 108 i = (rl.getD i (0, 0)).1 ∧ F 109 (i + 1) = (rl.getD i (0, 0)).2
def B6 (FB F0 : FI) : Prop := (∀ a, a ≠ 97 → a ≠ 104 → a ≠ 105 → a ≠ 108 → a ≠ 109 → F0 a = FB a) ∧ ∀ i, i ≠ 4 → i ≠ 5 → i ≠ 6 → i ≠ 7 → i ≠ 14 → F0 97 i = FB 97 i
theorem MP_w {F0 F : FI} {x : Px} {o : Int} {a i : Nat} {v : Int} (h : MP F0 F x o) (ha : a ≠ 97 ∧ a ≠ 104 ∧ a ≠ 105) : MP (u2 F0 a i v) (u2 F a i v) x o := by
  obtain ⟨h1, h2, ⟨h3, h3b, h3c⟩, h4, h5, h6⟩ := h
  refine ⟨fun b b1 b2 b3 => ?_, fun j i1 i2 i3 i4 i5 => ?_, ⟨?_, ?_, ?_⟩, ?_, ?_, fun j hj => ?_⟩
  · by_cases q : b = a
    · subst q
      funext j
      rw [u2_k, u2_k, h1 b b1 b2 b3]
    · rw [u2_o q, u2_o q]; exact h1 b b1 b2 b3
  · rw [u2_o (Ne.symm ha.1), u2_o (Ne.symm ha.1)]; exact h2 j i1 i2 i3 i4 i5
  · rw [u2_o (Ne.symm ha.1)]; exact h3
  · rw [u2_o (Ne.symm ha.1)]; exact h3b
  · rw [u2_o (Ne.symm ha.1)]; exact h3c
  · rw [u2_o (Ne.symm ha.1)]; exact h4
  · rw [u2_o (Ne.symm ha.1)]; exact h5
  · rw [u2_o (Ne.symm ha.2.1), u2_o (Ne.symm ha.2.2)]; exact h6 j hj
theorem MT_w {F0 : FI} {t : Nat → Int} {n : Int} {a i : Nat} {v : Int} (h : MT F0 t n) (ha : a = 108 ∨ a = 109) : MT (u2 F0 a i v) t n := by
  refine ⟨by rw [u2_o (by omega)]; exact h.1, by rw [u2_o (by omega)]; exact h.2.1, h.2.2.1, fun t i h1 h2 => ?_⟩
  rw [u2_o (by omega)]
  exact h.2.2.2 t i h1 h2
theorem B6_w {FB F0 : FI} {a i : Nat} {v : Int} (h : B6 FB F0) (ha : a = 108 ∨ a = 109) : B6 FB (u2 F0 a i v) := ⟨fun b b1 b2 b3 b4 b5 => by rw [u2_o (by omega)]; exact h.1 b b1 b2 b3 b4 b5, fun i i1 i2 i3 i4 i5 => by rw [u2_o (by omega)]; exact h.2 i i1 i2 i3 i4 i5⟩
set_option maxRecDepth 100000 in
theorem l_106_45 {Q : Rs → Mm → Prop} {FB : FI} {t : Nat → Int} {n : Int} {R : Px × List (Int × Int)} {S : FS} {G : FJ}
    (bad : R.1.1.2.1 ≠ -1 → ∀ F0 F', B6 FB F0 → MP F0 F' R.1 0 → Q (.inl (some (.inl (wr (R.1.1.2.2 - 10))))) (mm S (u2 F' 97 8 R.1.1.2.1) G))
    (good : R.1.1.2.1 = -1 → ∀ F0 F', B6 FB F0 → RLs F0 R.2 → MP F0 F' R.1 0 → wph 91 106 235 [.inr (.inr (.inl 97)), jk, .inl (R.2.length : Int), .inl 0] [] (mm S (u2 (u2 F' 97 8 (-1)) 97 13 (R.2.length : Int)) G) (0, 0) Q) :
    ∀ (K : Nat) (x : Px) (rl : List (Int × Int)) (F0 F : FI), K + rl.length = 11 → RUL t n K x rl R → 0 ≤ x.1.1 ∧ x.1.1 ≤ n → (x.1.2.1 = -1 → (x.2.length : Int) ≤ x.1.1 ∧ rl.length ≤ 10) → MT F0 t n → B6 FB F0 → RLs F0 rl → MP F0 F x 0 → wph 91 106 45 [.inr (.inr (.inl 97)), jk, .inl (rl.length : Int)] [] (mm S F G) (0, 0) Q := by
  -- the end
  have en : ∀ (x : Px) (rl : List (Int × Int)) (x2 : Int) (F0 F : FI), R.1 = x → (x.1.2.1 = -1 → x2 = (rl.length : Int) ∧ R.2 = rl) → B6 FB F0 → (x.1.2.1 = -1 → RLs F0 rl) → MP F0 F x 0 → EN6 Q x2 S F G := by
    intro x rl x2 F0 F eR e2 b6 hr h
    rw [eR] at bad good
    have e5 : F 97 5 = x.1.2.1 := h.2.2.1.2.1
    unfold EN6
    refine sg_73_0 ?_
    rw [u2_n (by decide), e5]
    refine cn_i (fun q => ⟨_, _, _, rfl, cd_f (by decide) ?_⟩) (fun q => ⟨_, _, _, rfl, cd_t rfl ?_⟩)
    · obtain ⟨e2, e3⟩ := e2 q
      rw [e3] at good
      rw [e2, q]
      exact good q F0 F b6 (hr q) h
    · rw [u2_n (by decide), h.2.2.1.2.2]
      exact bad q F0 F b6 h
  -- behind a fault
  have lf : ∀ (x : Px) (x2 : Int) (F0 F : FI), R.1 = x → x.1.2.1 ≠ -1 → B6 FB F0 → MP F0 F x 0 → wph 91 106 45 [.inr (.inr (.inl 97)), jk, .inl x2] [] (mm S F G) (0, 0) Q := by
    intro x x2 F0 F eR hf b6 h
    exact sg_106_45 (k_73 h (fun q => absurd q hf) (fun _ => cd_t rfl (en x [] x2 F0 F eR (fun q => absurd q hf) b6 (fun q => absurd q hf) h)))
  have lq : ∀ (x : Px) (x2 : Int) (F0 F : FI), 0 ≤ x2 ∧ x2 ≤ 9 → 0 ≤ x.1.1 ∧ x.1.1 ≤ n → R.1 = x → x.1.2.1 ≠ -1 → MT F0 t n → B6 FB F0 → MP F0 F x 0 → LP6 Q x2 S F G := by
    intro x x2 F0 F h2 hx eR hf hm b6 h
    unfold LP6
    refine fl_105 (by decide) h hf (k_82 (by decide) hm h hx (fun F1 h1 => ?_))
    rw [show pEx t n x.1 59 = x.1 from if_pos hf] at h1
    rw [wr_id (by omega) (by omega)]
    exact ck_i (jb_i (by omega) (by omega)) (lf x _ _ _ eR hf (B6_w b6 (Or.inr rfl)) (MP_w h1 (by decide)))
  intro K
  induction K with
  | zero =>
    intro x rl F0 F hK hR hx hl hm b6 hr h
    have hf : x.1.2.1 ≠ -1 := fun q => by
      have := (hl q).2
      omega
    have hR : R = (x, rl) := hR
    exact lf x _ F0 F (by rw [hR]) hf b6 h
  | succ K ih =>
    intro x rl F0 F hK hR hx hl hm b6 hr h
    obtain ⟨b1, b2, bs, -⟩ := rul_b (t := t) hx
    have fs : pSp t n (pSp t n x.1.1) = pSp t n x.1.1 := pSp_f hx.2
    obtain ⟨c1, c2, -, cl⟩ := rul_b (t := t) b1
    obtain ⟨d1, d2, ds, -⟩ := rul_b (t := t) c2
    obtain ⟨-, e2, -, el⟩ := rul_b (t := t) d1
    have eL : ∀ x : Pz, pAt x (pLe t n (pSp t n (pLe t n (pSp t n x.1)))) = pAt x (pLe t n (pSp t n (pLe t n (pSp t n x.1)))) := fun _ => rfl
    -- a rule that stands: the rest of it
    have rule : ∀ (x2 v5 : Int) (F1 : FI), x2 = (rl.length : Int) → v5 = pWd t n (pSp t n x.1.1) → x.1.2.1 = -1 → (pWd t n (pSp t n x.1.1) = tC 23 ∨ pWd t n (pSp t n x.1.1) = tC 24) → rl.length ≠ 10 →
        ((pWd t n (pSp t n (pLe t n (pSp t n x.1.1))) ≠ tC 25 ∧ R = ((pFl (pAt x.1 (pSp t n (pLe t n (pSp t n x.1.1)))) 1 (pSp t n (pLe t n (pSp t n x.1.1))), x.2), rl)) ∨ (pWd t n (pSp t n (pLe t n (pSp t n x.1.1))) = tC 25 ∧
          ∃ y, GP t n 5 0 (pAt x.1 (pLe t n (pSp t n (pLe t n (pSp t n x.1.1)))), x.2) y ∧ RUL t n K (pEx t n y.1 59, y.2) (rl ++ [((if pWd t n (pSp t n x.1.1) = tC 24 then 1 else 0), (y.2.length : Int))]) R)) → MP F0 F1 (pAt x.1 (pSp t n x.1.1), x.2) 0 → RL6 Q x2 v5 S F1 G := by
      intro x2 v5 F1 e2' e5 hok hw h10 hc h1
      subst e2' e5
      have hl' := hl hok
      have tail : ∀ (go : Int) (F2 : FI), (if pWd t n (pSp t n x.1.1) = tC 24 then 1 else 0) = go → MP F0 F2 (pAt x.1 (pLe t n (pSp t n x.1.1)), x.2) 0 → TL6 Q (rl.length : Int) S (u2 F2 108 ((rl.length : Int)).toNat go) G := by
        intro go F2 eg h2
        rw [eg] at hc
        unfold TL6
        have hm' : MT (u2 F0 108 ((rl.length : Int)).toNat go) t n := MT_w hm (Or.inl rfl)
        have b6' : B6 FB (u2 F0 108 ((rl.length : Int)).toNat go) := B6_w b6 (Or.inl rfl)
        refine k_78 hm' (MP_w (i := ((rl.length : Int)).toNat) (v := go) h2 (by decide)) c2 (fun F3 h3 => c_79t (t := 25) rfl (by decide) (by decide) (by decide) (MP_X hm' h3) (cn_i (fun z => ?_) (fun z => ?_)))
        · have z : pWd t n (pSp t n (pLe t n (pSp t n x.1.1))) = tC 25 := z
          obtain ⟨-, y, hy, hRR⟩ := hc.resolve_left (fun q => q.1 z)
          refine k_73 h3 (fun _ => cd_f (by decide) (k_80 hm' h3 d1 (fun F4 h4 => ?_))) (fun q => absurd hok q)
          have my := GP_m hy e2
          have h4' : MP (u2 F0 108 ((rl.length : Int)).toNat go) F4 (pAt x.1 (pLe t n (pSp t n (pLe t n (pSp t n x.1.1)))), x.2) 0 := h4
          unfold LP6
          refine (ref_all hm' hy (by unfold tagG; decide) e2 (fun _ => by show (x.2.length : Int) ≤ pLe t n (pSp t n (pLe t n (pSp t n x.1.1))); omega) ⟨by decide, fun _ => by decide⟩).1 (by decide) 90 _ S F4 G (by rw [rdw_v.2.2.2.2.2.1]; decide) h4' (fun F5 h5 => ?_)
          refine k_82 (by decide) hm' h5 my.1 (fun F6 h6 => ?_)
          have pe := pEx_p (t := t) (c := 59) my.1.1 my.1.2 (by decide)
          rw [wr_id (by omega) (by omega)]
          refine ck_i (jb_i (by omega) (by omega)) ?_
          rw [h6.2.2.2.2.1, show ((rl.length : Int) + 1).toNat = rl.length + 1 by omega, show (rl.length : Int) + 1 = ((rl ++ [(go, (y.2.length : Int))]).length : Int) by rw [List.length_append]; rfl]
          refine ih (pEx t n y.1 59, y.2) (rl ++ [(go, (y.2.length : Int))]) (u2 (u2 F0 108 ((rl.length : Int)).toNat go) 109 (rl.length + 1) (y.2.length : Int)) _ ?_ hRR pe.1 (fun q => ?_) (MT_w hm' (Or.inr rfl)) (B6_w b6' (Or.inr rfl)) (fun i hi => ?_) (MP_w h6 (by decide))
          · rw [List.length_append]
            show K + (rl.length + 1) = 11
            omega
          · have q2 := pe.2 q
            have m2 := my.2 q2.1
            have m3 : (y.2.length : Int) - x.2.length ≤ y.1.1 - pLe t n (pSp t n (pLe t n (pSp t n x.1.1))) := m2.2.2
            rw [List.length_append]
            refine ⟨?_, ?_⟩
            · have q3 := q2.2
              show (y.2.length : Int) ≤ (pEx t n y.1 59).1
              omega
            · show rl.length + 1 ≤ 10
              omega
          · rw [List.length_append] at hi
            have hi : i < rl.length + 1 := hi
            rw [u2_o (by decide), u2_k, u2_k, u2_o (by decide), show ((rl.length : Int)).toNat = rl.length by omega]
            by_cases q : i = rl.length
            · rw [if_pos q, if_pos (by omega), q, getD_r]
              exact ⟨rfl, rfl⟩
            · rw [if_neg q, if_neg (by omega), getD_l (by omega)]
              exact hr i (by omega)
        · have z : pWd t n (pSp t n (pLe t n (pSp t n x.1.1))) ≠ tC 25 := z
          have hRR := (hc.resolve_right (fun q => z q.1)).2
          rw [h3.2.2.1.1]
          refine k_74 h3 (fun F4 h4 => ?_)
          have h4' : MP (u2 F0 108 ((rl.length : Int)).toNat go) F4 (pFl (pAt x.1 (pSp t n (pLe t n (pSp t n x.1.1)))) 1 (pSp t n (pLe t n (pSp t n x.1.1))), x.2) 0 := h4
          have ef : pFl (pAt x.1 (pSp t n (pLe t n (pSp t n x.1.1)))) 1 (pSp t n (pLe t n (pSp t n x.1.1))) = (pSp t n (pLe t n (pSp t n x.1.1)), pSp t n (pLe t n (pSp t n x.1.1)), 1) := pFl_y hok
          rw [ef] at h4' hRR
          have ne : (((pSp t n (pLe t n (pSp t n x.1.1)), pSp t n (pLe t n (pSp t n x.1.1)), 1), x.2) : Px).1.2.1 ≠ -1 := by show pSp t n (pLe t n (pSp t n x.1.1)) ≠ -1; omega
          exact k_73 h4' (fun q => absurd q ne) (fun _ => cd_t rfl (lq _ _ _ _ ⟨by omega, by omega⟩ d1 (by rw [hRR]) ne hm' b6' h4'))
      unfold RL6
      refine k_80 hm h1 b1 (fun F2 h2 => c_79t (t := 24) rfl (by decide) (by decide) (by decide) (MP_X hm h2) (cn_i (fun z => ck_i (jb_i (by omega) (by omega)) (tail 1 F2 (if_pos z) h2)) (fun z => ck_i (jb_i (by omega) (by omega)) (tail 0 F2 (if_neg z) h2))))
    rcases hR with ⟨hf, hR⟩ | ⟨hok, hn', hR⟩ | ⟨hok, hn', hw, hR⟩ | ⟨hok, hn', hw, h10, hR⟩ | rest
    · exact lf x _ F0 F (by rw [hR]) hf b6 h
    · refine sg_106_45 (k_73 h (fun _ => cd_f (by decide) ?_) (fun q => absurd hok q))
      refine c_83 (MP_n hm h hx) (MP_s h) (fun q => ?_) (fun _ F1 s1 _ => cd_t rfl ?_)
      · rw [MP_t hm h] at q
        omega
      · rw [MP_t hm h] at s1
        exact en _ rl _ F0 F1 (by rw [hR]) (fun _ => ⟨rfl, by rw [hR]⟩) b6 (fun _ => hr) (MP_p h s1)
    · refine sg_106_45 (k_73 h (fun _ => cd_f (by decide) ?_) (fun q => absurd hok q))
      refine c_83 (MP_n hm h hx) (MP_s h) (fun _ F1 s1 _ => cd_f (by decide) ?_) (fun q => by rw [MP_t hm h] at q; omega)
      rw [MP_t hm h] at s1
      have h1 : MP F0 F1 (pAt x.1 (pSp t n x.1.1), x.2) 0 := MP_p h s1
      refine k_78f (x := (pAt x.1 (pSp t n x.1.1), x.2)) hm h1 b1 fs (fun F2 h2 => c_79t (t := 23) rfl (by decide) (by decide) (by decide) (MP_X hm h2) (cd_f hw.1 (c_79t (t := 24) rfl (by decide) (by decide) (by decide) (MP_X hm h2) (cd_f hw.2 ?_))))
      rw [h2.2.2.1.1]
      refine k_74 h2 (fun F3 h3 => ?_)
      have ef : pFl (pAt x.1 (pSp t n x.1.1)) 1 (pSp t n x.1.1) = (pSp t n x.1.1, pSp t n x.1.1, 1) := pFl_y hok
      have h3 : MP F0 F3 (pFl (pAt x.1 (pSp t n x.1.1)) 1 (pSp t n x.1.1), x.2) 0 := h3
      rw [ef] at h3 hR
      have ne : (((pSp t n x.1.1, pSp t n x.1.1, 1), x.2) : Px).1.2.1 ≠ -1 := by show pSp t n x.1.1 ≠ -1; omega
      exact k_73 h3 (fun q => absurd q ne) (fun _ => cd_t rfl (en _ [] _ F0 F3 (by rw [hR]) (fun q => absurd q ne) b6 (fun q => absurd q ne) h3))
    · refine sg_106_45 (k_73 h (fun _ => cd_f (by decide) ?_) (fun q => absurd hok q))
      refine c_83 (MP_n hm h hx) (MP_s h) (fun _ F1 s1 _ => cd_f (by decide) ?_) (fun q => by rw [MP_t hm h] at q; omega)
      rw [MP_t hm h] at s1
      have h1 : MP F0 F1 (pAt x.1 (pSp t n x.1.1), x.2) 0 := MP_p h s1
      have ef : pFl (pAt x.1 (pSp t n x.1.1)) 3 (pSp t n x.1.1) = (pSp t n x.1.1, pSp t n x.1.1, 3) := pFl_y hok
      have ne : (((pSp t n x.1.1, pSp t n x.1.1, 3), x.2) : Px).1.2.1 ≠ -1 := by show pSp t n x.1.1 ≠ -1; omega
      have fl : ∀ (F2 : FI), MP F0 F2 (pAt x.1 (pSp t n x.1.1), x.2) 0 → ∀ kt : FS → FI → FJ → Prop, calV 0 74 [.inr (.inr (.inl 97)), .inl 3, .inl (F2 97 4)] (mm S F2 G) (fun S7 F7 G7 => calI 0 73 [.inr (.inr (.inl 97))] (mm S7 F7 G7) (fun v8 S8 F8 G8 => cnd (decide (v8 = 0)) (EN6 Q (rl.length : Int) S8 F8 G8) (kt S8 F8 G8)) nof) nof := by
        intro F2 h2 kt
        rw [h2.2.2.1.1]
        refine k_74 h2 (fun F3 h3 => ?_)
        have h3 : MP F0 F3 (pFl (pAt x.1 (pSp t n x.1.1)) 3 (pSp t n x.1.1), x.2) 0 := h3
        rw [ef] at h3 hR
        exact k_73 h3 (fun q => absurd q ne) (fun _ => cd_t rfl (en _ [] _ F0 F3 (by rw [hR]) (fun q => absurd q ne) b6 (fun q => absurd q ne) h3))
      refine k_78f (x := (pAt x.1 (pSp t n x.1.1), x.2)) hm h1 b1 fs (fun F2 h2 => c_79t (t := 23) rfl (by decide) (by decide) (by decide) (MP_X hm h2) (cn_i (fun z => cd_t (by omega) (fl F2 h2 _)) (fun z => c_79t (t := 24) rfl (by decide) (by decide) (by decide) (MP_X hm h2) (cd_t (hw.resolve_left z) (cd_t (by omega) (fl F2 h2 _))))))
    · have rest' : x.1.2.1 = -1 ∧ pSp t n x.1.1 < n ∧ (pWd t n (pSp t n x.1.1) = tC 23 ∨ pWd t n (pSp t n x.1.1) = tC 24) ∧ rl.length ≠ 10 ∧ ((pWd t n (pSp t n (pLe t n (pSp t n x.1.1))) ≠ tC 25 ∧ R = ((pFl (pAt x.1 (pSp t n (pLe t n (pSp t n x.1.1)))) 1 (pSp t n (pLe t n (pSp t n x.1.1))), x.2), rl)) ∨ (pWd t n (pSp t n (pLe t n (pSp t n x.1.1))) = tC 25 ∧
          ∃ y, GP t n 5 0 (pAt x.1 (pLe t n (pSp t n (pLe t n (pSp t n x.1.1)))), x.2) y ∧ RUL t n K (pEx t n y.1 59, y.2) (rl ++ [((if pWd t n (pSp t n x.1.1) = tC 24 then 1 else 0), (y.2.length : Int))]) R)) := by
        rcases rest with ⟨r1, r2, r3, r4, r5⟩ | ⟨r1, r2, r3, r4, r5⟩
        · exact ⟨r1, r2, r3, r4, Or.inl r5⟩
        · exact ⟨r1, r2, r3, r4, Or.inr r5⟩
      obtain ⟨hok, hn', hw, h10, hc⟩ := rest'
      have hl' := hl hok
      refine sg_106_45 (k_73 h (fun _ => cd_f (by decide) ?_) (fun q => absurd hok q))
      refine c_83 (MP_n hm h hx) (MP_s h) (fun _ F1 s1 _ => cd_f (by decide) ?_) (fun q => by rw [MP_t hm h] at q; omega)
      rw [MP_t hm h] at s1
      have h1 : MP F0 F1 (pAt x.1 (pSp t n x.1.1), x.2) 0 := MP_p h s1
      refine k_78f (x := (pAt x.1 (pSp t n x.1.1), x.2)) hm h1 b1 fs (fun F2 h2 => c_79t (t := 23) rfl (by decide) (by decide) (by decide) (MP_X hm h2) (cn_i (fun z => cd_f (by omega) ?_) (fun z => c_79t (t := 24) rfl (by decide) (by decide) (by decide) (MP_X hm h2) (cd_t (hw.resolve_left z) (cd_f (by omega) ?_)))))
      · exact k_73 h2 (fun _ => cd_f (by decide) (rule _ _ F2 rfl rfl hok hw h10 hc h2)) (fun q => absurd hok q)
      · exact k_73 h2 (fun _ => cd_f (by decide) (rule _ _ F2 rfl rfl hok hw h10 hc h2)) (fun q => absurd hok q)
