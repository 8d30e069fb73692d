/-! ===== the class reads what holds or not ===== -/
def rdc (g : Nat) (o : Int) : Int := 2 * (if g < 10 then (g : Int) else (g : Int) - 10) + 3 + 6 * (6 - o)
/-- the class stands so: at x, its steps in b -/
def cXs (S : FS) (F : FI) (t : Nat → Int) (n : Int) (b : Nat) (x : Px) : Prop := S 5 1 = b ∧ TX F ∧ CTk F t n (pSp t n x.1.1) ∧ CPr F b x.2
def rowG (g : Nat) : Prop := g = 1 ∨ g = 2 ∨ g = 4 ∨ g = 5
def CLO (t : Nat → Int) (n : Int) (b : Nat) (g : Nat) (o : Int) (x x' : Px) : Prop := x.1.2.1 = -1 → 0 ≤ x.1.1 ∧ x.1.1 ≤ n → (x.2.length : Int) ≤ x.1.1 → 0 ≤ o ∧ o ≤ 6 →
  (g = 0 → ∀ (d : Nat) (k : Int → FS → FI → FJ → Prop) (S : FS) (F : FI) (G : FJ), rdc 0 o ≤ d → cXs S F t n b x → (∀ v F', OL t n b F F' x' v → k v S F' G) → calI d 239 [.inr (.inr (.inl 5)), .inl o] (mm S F G) k nof) ∧
  (g = 3 → ∀ (d : Nat) (k : Int → FS → FI → FJ → Prop) (S : FS) (F : FI) (G : FJ), rdc 3 o ≤ d → cXs S F t n b x → (∀ v F', OL t n b F F' x' v → k v S F' G) → calI d 236 [.inr (.inr (.inl 5)), .inl o] (mm S F G) k nof) ∧
  (rowG g → ∀ (d : Nat) (k : Int → FS → FI → FJ → Prop) (S : FS) (F : FI) (G : FJ), rdc g o ≤ d → cXs S F t n b x → (∀ v F', OL t n b F F' x' v → k v S F' G) → calI d 233 [.inr (.inr (.inl 5)), .inl (lvg g), .inl o] (mm S F G) k nof) ∧
  (∀ g', g = 10 + g' → rowG g' → ∀ (d : Nat) (Q : Rs → Mm → Prop) (S : FS) (F : FI) (G : FJ) (i : Int), rdc g' o ≤ d → 0 ≤ i ∧ i ≤ x.1.1 → cXs S F t n b x → (∀ v F', OL t n b F F' x' v → Q (.inl (some (.inl v))) (mm S F' G)) →
    wph d 233 20 [.inr (.inr (.inl 5)), .inl (lvg g'), .inl o, .inl (jst g' (pBy t n (pSp t n x.1.1)) (pWd t n (pSp t n x.1.1))), .inl i] [] (mm S F G) (0, 0) Q)
theorem rdc_v : (∀ o, rdc 0 o = 3 + 6 * (6 - o)) ∧ (∀ o, rdc 1 o = 5 + 6 * (6 - o)) ∧ (∀ o, rdc 2 o = 7 + 6 * (6 - o)) ∧ (∀ o, rdc 3 o = 9 + 6 * (6 - o)) ∧ (∀ o, rdc 4 o = 11 + 6 * (6 - o)) ∧ (∀ o, rdc 5 o = 13 + 6 * (6 - o)) := by
  refine ⟨fun o => ?_, fun o => ?_, fun o => ?_, fun o => ?_, fun o => ?_, fun o => ?_⟩
  · show 2 * (0 : Int) + 3 + _ = _; omega
  · show 2 * (1 : Int) + 3 + _ = _; omega
  · show 2 * (2 : Int) + 3 + _ = _; omega
  · show 2 * (3 : Int) + 3 + _ = _; omega
  · show 2 * (4 : Int) + 3 + _ = _; omega
  · show 2 * (5 : Int) + 3 + _ = _; omega
theorem tE_l {t : Nat → Int} {n e : Int} (hb : 0 ≤ e) (hn : e ≤ n) (h : e + 1 ≤ pLe t n e) : tE t n e = pLe t n e := by
  by_cases q : n ≤ e
  · rw [pLe_e q] at h
    omega
  · rw [pLe_s (by omega)] at h
    by_cases l : 97 ≤ t e.toNat ∧ t e.toNat ≤ 122
    · unfold tE
      rw [if_neg q, if_neg (by omega), if_pos l]
    · rw [if_neg l] at h
      omega
theorem tE_s {t : Nat → Int} {n e c : Int} (hc : pBy t n e = c) (h0 : c ≠ 0 ∧ ¬ (48 ≤ c ∧ c ≤ 57) ∧ ¬ (97 ≤ c ∧ c ≤ 122)) : pLe t n e = e := by
  have lt := pBy_n hc h0.1
  unfold pBy at hc
  rw [if_pos lt] at hc
  rw [pLe_s lt, hc, if_neg h0.2.2]
theorem cXs_f {S : FS} {F F' : FI} {t : Nat → Int} {n : Int} {b : Nat} {x y : Px} (hb : oW b) (h : cXs S F t n b x) (f : TF F F') (hc : CTk F' t n (pSp t n y.1.1)) (e : y.2 = x.2) : cXs S F' t n b y := ⟨h.1, TX_f h.2.1 f, hc, by rw [e]; exact CPr_f hb h.2.2.2 f⟩
theorem cXs_y {S : FS} {F F' : FI} {t : Nat → Int} {n : Int} {b : Nat} {x y : Px} (hb : oW b) (h : cXs S F t n b x) (f : FRy b F F') (hc : CTk F' t n (pSp t n y.1.1)) (hp : CPr F' b y.2) : cXs S F' t n b y := ⟨h.1, TX_y hb h.2.1 f.1, hc, hp⟩
theorem ckb {S : FS} {b : Nat} (hb : oW b) (h : S 5 1 = b) : kq (kk (S 5 1)) 0 2 = true := by rw [h, wk hb]; rfl
theorem CLO_234 {t : Nat → Int} {n o : Int} {b g : Nat} {x y : Px} (ih : CLO t n b (g - 1) o x y) (hg : rowG g) (hok : x.1.2.1 = -1) (hx : 0 ≤ x.1.1 ∧ x.1.1 ≤ n) (hl : (x.2.length : Int) ≤ x.1.1) (ho : 0 ≤ o ∧ o ≤ 6) {d : Nat} {k : Int → FS → FI → FJ → Prop} {S : FS} {F : FI} {G : FJ} (hd : rdc g o ≤ (d : Int) + 1) (hc : cXs S F t n b x) (hk : ∀ v F', OL t n b F F' y v → k v S F' G) :
    calI d 234 [.inr (.inr (.inl 5)), .inl (lvg g), .inl o] (mm S F G) k nof := by
  obtain ⟨r0, r1, r2, r3, r4, r5⟩ := rdc_v
  obtain ⟨i0, i3, ir, -⟩ := ih hok hx hl ho
  refine sg_234_0 ?_
  unfold rowG at hg
  rcases hg with e | e | e | e <;> subst e
  · rw [r1] at hd
    exact cd_f (by decide) (cd_f (by decide) (cd_f (by decide) (ck_i (nb (by omega)) (i0 rfl (d - 1) _ S F G (by rw [r0]; omega) hc (fun v F' o => ck_i (OL_z o) ⟨_, _, _, rfl, hk v F' o⟩)))))
  · rw [r2] at hd
    exact cd_f (by decide) (cd_f (by decide) (cd_t (by decide) (ck_i (nb (by omega)) (ir (by unfold rowG; decide) (d - 1) _ S F G (by show rdc 1 o ≤ _; rw [r1]; omega) hc (fun v F' o => ck_i (OL_z o) ⟨_, _, _, rfl, hk v F' o⟩)))))
  · rw [r4] at hd
    exact cd_f (by decide) (cd_t (by decide) (ck_i (nb (by omega)) (i3 rfl (d - 1) _ S F G (by rw [r3]; omega) hc (fun v F' o => ck_i (OL_z o) ⟨_, _, _, rfl, hk v F' o⟩))))
  · rw [r5] at hd
    exact cd_t (by decide) (ck_i (nb (by omega)) (ir (by unfold rowG; decide) (d - 1) _ S F G (by show rdc 4 o ≤ _; rw [r4]; omega) hc (fun v F' o => ck_i (OL_z o) ⟨_, _, _, rfl, hk v F' o⟩)))
/-- what opens, what comes in it, and what closes it -/
theorem CLO_open {t : Nat → Int} {n o c : Int} {b g : Nat} {x y : Px} (hb : oW b) (s : GP t n g (o + 1) (opn (pAt x.1 (pSp t n x.1.1)) 1 o, x.2) y) (ih : CLO t n b g (o + 1) (opn (pAt x.1 (pSp t n x.1.1)) 1 o, x.2) y) (hg : rowG g) (hok : x.1.2.1 = -1) (hx : 0 ≤ x.1.1 ∧ x.1.1 ≤ n) (hl : (x.2.length : Int) ≤ x.1.1) (ho : 0 ≤ o ∧ o ≤ 6) (hcc : c ≠ 0 ∧ ¬ (48 ≤ c ∧ c ≤ 57) ∧ ¬ (97 ≤ c ∧ c ≤ 122))
    {d : Nat} {k : Int → FS → FI → FJ → Prop} {S : FS} {F : FI} {G : FJ} (hd : 3 ≤ d) (hd2 : rdc g o ≤ (d : Int) + 5) (hc : cXs S F t n b x) (ht : tE t n (pSp t n x.1.1) = pSp t n x.1.1 + 1) (hk : ∀ v F', OL t n b F F' (pEx t n y.1 c, y.2) v → k v S F' G) :
    calI 2 237 [.inr (.inr (.inl 5)), .inl o] (mm S F G) (fun v4 S4 F4 G4 => cnd (decide (v4 = 0)) (∃ S' F' G', mm S4 F4 G4 = mm S' F' G' ∧ k 0 S' F' G') (chk (Nat.ble ((d - 1) + 1) d) (calI (d - 1) 233 [.inr (.inr (.inl 5)), .inl (lvg g), .inl (wr (o + 1))] (mm S4 F4 G4) (fun v5 S5 F5 G5 => cnd (decide (v5 = 0)) (∃ S' F' G', mm S5 F5 G5 = mm S' F' G' ∧ k 0 S' F' G') (chk (Nat.ble (2 + 1) d) (calI 2 283 [.inr (.inr (.inl 2)), .inl c] (mm S5 F5 G5) (fun v6 S6 F6 G6 => cnd (decide (v6 = 0)) (∃ S' F' G', mm S6 F6 G6 = mm S' F' G' ∧ k 0 S' F' G') (∃ S' F' G', mm S6 F6 G6 = mm S' F' G' ∧ k 1 S' F' G')) nof))) nof))) nof := by
  have ct := hc.2.2.1
  have bb := ct.2.2.1
  have teb := (tE_b (t := t) bb.1 bb.2.1).2
  have sb := pSp_b (t := t) (n := n) (n - x.1.1).toNat x.1.1 (by omega)
  refine c_237 (r := pAt x.1 (pSp t n x.1.1 + 1)) ct (fun _ => ht.symm) ho.2 (fun o6 F1 f1 c1 => cd_f (by decide) (ck_i (nb (by omega)) ?_)) (fun o6 => cd_t rfl ⟨_, _, _, rfl, ?_⟩)
  · have eo : opn (pAt x.1 (pSp t n x.1.1)) 1 o = pAt x.1 (pSp t n x.1.1 + 1) := opn_o (p := pAt x.1 (pSp t n x.1.1)) hok o6
    rw [eo] at s ih
    have bx : 0 ≤ pSp t n x.1.1 + 1 ∧ pSp t n x.1.1 + 1 ≤ n := ⟨by omega, by omega⟩
    have my := GP_m s bx
    rw [wr_id (by omega) (by omega)]
    refine (ih hok bx (by show (x.2.length : Int) ≤ pSp t n x.1.1 + 1; omega) ⟨by omega, by omega⟩).2.2.1 hg (d - 1) _ S F1 G ?_ (cXs_f hb hc f1 c1 rfl) (fun v F2 ol => ?_)
    · have e : rdc g (o + 1) = rdc g o - 6 := by unfold rdc; omega
      omega
    · have ol' := OL_t (FRy_f hb f1) ol
      rcases ol with ⟨q1, q2, q3, q4, q5⟩ | ⟨q1, q2, q3, q4, q5⟩
      · subst q2
        have fy := FRy_t (FRy_f hb f1) q3
        refine cd_f (by decide) (ck_i (nb hd) (c_283 (p := y.1) q4 q1 hcc (fun ep F3 f3 c3 => cd_f (by decide) ⟨_, _, _, rfl, hk 1 F3 (OL_g (FRy_t fy (FRy_f hb f3)) ?_ ?_ ?_)⟩) (fun q eq hq => cd_t rfl ⟨_, _, _, rfl, hk 0 _ (OL_f hb fy.1 hq (by rw [eq]))⟩)))
        · rw [ep]; exact q1
        · rw [ep]; exact c3
        · exact CPr_f hb q5 f3
      · subst q2
        refine cd_t rfl ⟨_, _, _, rfl, hk 0 F2 ?_⟩
        rw [show pEx t n y.1 c = y.1 from if_pos q1]
        exact ol'
  · subst o6
    have eo : opn (pAt x.1 (pSp t n x.1.1)) 1 6 = (pSp t n x.1.1, pSp t n x.1.1, 3) := by rw [opn_6 (p := pAt x.1 (pSp t n x.1.1)) hok, pFl_y (show (pAt x.1 (pSp t n x.1.1)).2.1 = -1 from hok)]; rfl
    rw [eo] at s
    have ne : ((((pSp t n x.1.1, pSp t n x.1.1, 3) : Pz), x.2) : Px).1.2.1 ≠ -1 := by show pSp t n x.1.1 ≠ -1; omega
    have ey := GP_x s ne
    have ex : pEx t n y.1 c = (pSp t n x.1.1, pSp t n x.1.1, 3) := by
      rw [ey]
      exact if_pos ne
    refine hk 0 _ (OL_f (q := (pSp t n x.1.1, pSp t n x.1.1, 3)) hb FRy_r.1 ne ?_)
    rw [ex]
set_option maxRecDepth 100000 in
theorem cls_all {t : Nat → Int} {n o : Int} {b g : Nat} {x x' : Px} (hb : oW b) (hn : n ≤ 600) (h : GP t n g o x x') : CLO t n b g o x x' := by
  obtain ⟨r0, r1, r2, r3, r4, r5⟩ := rdc_v
  have s42 : tC 42 = tC 20 := tC_same.2.2.2.2.2.2.1
  have no3 : ∀ {P : Prop} {g : Nat}, g ≤ 5 → ∀ g', g = 10 + g' → P := fun h g' q => absurd q (by omega)
  refine GP_rec (P := fun g o x x' => CLO t n b g o x x') ?_ ?_ ?_ ?_ ?_ ?_ ?_ ?_ ?_ ?_ ?_ ?_ ?_ h
  · exact fun g o x h hok => absurd hok h
  · intro o x y h c s ih hok hx hl ho
    refine ⟨fun _ d k S F G hd hc hk => ?_, fun q => absurd q (by decide), fun q => absurd q (by unfold rowG; decide), fun g' q => absurd q (by omega)⟩
    rw [r0] at hd
    have ct := hc.2.2.1
    refine sg_239_0 (ck_i (nb (by omega)) (c_280 ct (by decide) (fun _ te => cd_f (by decide) (ck_i (nb (by omega)) ?_)) (fun q => absurd c q)))
    exact CLO_open (g := 2) hb s ih (by unfold rowG; decide) hok hx hl ho (by decide) (by omega) (by rw [r2]; omega) hc te hk
  · intro o x h c hok hx hl ho
    refine ⟨fun _ d k S F G hd hc hk => ?_, fun q => absurd q (by decide), fun q => absurd q (by unfold rowG; decide), fun g' q => absurd q (by omega)⟩
    rw [r0] at hd
    have ct := hc.2.2.1
    have sb := pSp_b (t := t) (n := n) (n - x.1.1).toNat x.1.1 (by omega)
    have lt := pBy_n (t := t) (n := n) (a := pSp t n x.1.1) rfl (by omega)
    have ne : pBy t n (pSp t n x.1.1) ≠ 40 := by omega
    rw [pNb_sp hx.2 hok] at hk
    refine sg_239_0 (ck_i (nb (by omega)) (c_280 ct (by decide) (fun q => absurd q ne) (fun _ => cd_t rfl (cd_t (by rw [ct.1.2.2.2]; exact tS_2.mpr c) (ck_i (nb (by omega)) ?_)))))
    refine c_282 (p := x.1) ct hok (by decide) (fun v ev vb e2 e6 => cd_f (by decide) (ck_i (ckb hb hc.1) (ck_i (nb (by omega)) ?_))) (fun q eq hq => cd_t rfl ⟨_, _, _, rfl, hk 0 _ ?_⟩)
    · rw [hc.1, e6]
      refine c_226 (q := (0, v)) hb (by omega) hc.2.2.2 ct rfl (fun F1 f1 p1 c1 t1 => ck_i (nb (by omega)) (c_adv (r := (pNb t n x.1 0 9999).2) c1 (by rw [e2]; rfl) (fun F2 f2 c2 => ⟨_, _, _, rfl, hk 1 F2 (OL_g (FRy_t f1 (FRy_f hb f2)) ?_ ?_ ?_)⟩)))
      · rw [emx_1, e2]; exact hok
      · rw [emx_1]; exact c2
      · rw [emx_y (show (((pNb t n x.1 0 9999).2, x.2) : Px).1.2.1 = -1 by rw [e2]; exact hok), ← ev]
        exact CPr_f hb p1 f2
    · rw [← eq, emx_n (x := (q, x.2)) hq]
      exact OL_f hb FRy_r.1 hq rfl
  · intro o x h c c2 w hok hx hl ho
    refine ⟨fun _ d k S F G hd hc hk => ?_, fun q => absurd q (by decide), fun q => absurd q (by unfold rowG; decide), fun g' q => absurd q (by omega)⟩
    rw [r0] at hd
    have ct := hc.2.2.1
    have bb := ct.2.2.1
    have ef : pFl (pAt x.1 (pSp t n x.1.1)) 1 (pSp t n x.1.1) = (pSp t n x.1.1, pSp t n x.1.1, 1) := pFl_y hok
    rw [ef] at hk
    refine sg_239_0 (ck_i (nb (by omega)) (c_280 ct (by decide) (fun q => absurd q c) (fun _ => cd_t rfl (cd_f (by rw [ct.1.2.2.2]; exact fun q => c2 (tS_2.mp q)) (ck_i (nb (by omega)) (c_240 hc.2.1 ct (cd_t w (ck_i (nb (by omega)) (c_281 ct (ck_i rfl ⟨_, _, _, rfl, hk 0 _ ?_⟩))))))))))
    exact OL_f (q := (pSp t n x.1.1, pSp t n x.1.1, 1)) hb FRy_r.1 (by show pSp t n x.1.1 ≠ -1; omega) rfl
  · intro o x h c c2 w hok hx hl ho
    refine ⟨fun _ d k S F G hd hc hk => ?_, fun q => absurd q (by decide), fun q => absurd q (by unfold rowG; decide), fun g' q => absurd q (by omega)⟩
    rw [r0] at hd
    have ct := hc.2.2.1
    have bb := ct.2.2.1
    have sb := pSp_b (t := t) (n := n) (n - x.1.1).toNat x.1.1 (by omega)
    have fb := fcW_b w
    have wp := wd_p (t := t) bb.1 bb.2.1 fb.2
    have lb := pLe_b (t := t) (n := n) (n - pSp t n x.1.1).toNat (pSp t n x.1.1) (by omega)
    have te := tE_l (t := t) bb.1 bb.2.1 wp
    refine sg_239_0 (ck_i (nb (by omega)) (c_280 ct (by decide) (fun q => absurd q c) (fun _ => cd_t rfl (cd_f (by rw [ct.1.2.2.2]; exact fun q => c2 (tS_2.mp q)) (ck_i (nb (by omega)) (c_240 hc.2.1 ct (cd_f w (ck_i (ckb hb hc.1) (ck_i (nb (by omega)) ?_)))))))))
    rw [hc.1, wr_id (by omega) (by omega)]
    refine c_226 (q := (1, fcW (pWd t n (pSp t n x.1.1)))) hb (by omega) hc.2.2.2 ct rfl (fun F1 f1 p1 c1 t1 => ck_i (nb (by omega)) (c_adv (r := pAt x.1 (pLe t n (pSp t n x.1.1))) c1 te.symm (fun F2 f2 c2 => ⟨_, _, _, rfl, hk 1 F2 (OL_g (FRy_t f1 (FRy_f hb f2)) ?_ ?_ ?_)⟩)))
    · rw [emx_1]; exact hok
    · rw [emx_1]; exact c2
    · rw [emx_y (show ((pAt x.1 (pLe t n (pSp t n x.1.1)), x.2) : Px).1.2.1 = -1 from hok)]
      exact CPr_f hb p1 f2
  · intro g o x y z h hg s1 s2 i1 i2 hok hx hl ho
    have my := GP_m s1 hx
    refine ⟨fun q => absurd q (by omega), fun q => absurd q (by omega), fun hrow d k S F G hd hc hk => ?_, fun g' q => absurd q (by omega)⟩
    have d2 : 5 ≤ (d : Int) := by
      have : 5 ≤ rdc g o := by
        rcases hg with e | e | e | e <;> subst e
        · rw [r1]; omega
        · rw [r2]; omega
        · rw [r4]; omega
        · rw [r5]; omega
      omega
    refine sg_233_0 (ck_i (nb (by omega)) (CLO_234 i1 hrow hok hx hl ho (by omega) hc (fun v F1 ol => ?_)))
    have ol' := ol
    rcases ol with ⟨q1, q2, q3, q4, q5⟩ | ⟨q1, q2, q3, q4, q5⟩
    · subst q2
      refine cd_f (by decide) (ck_i (nb (by omega)) ?_)
      have cy := cXs_y (y := y) hb hc q3 q4 q5
      refine c_235 hg cy.2.1 q4 ?_
      have m2 := my.2 q1
      exact (i2 q1 my.1 (by omega) ho).2.2.2 g rfl hrow d _ S F1 G 0 hd ⟨Int.le_refl 0, by omega⟩ cy (fun v F2 ol2 => ⟨_, _, _, rfl, hk v F2 (OL_t q3 ol2)⟩)
    · subst q2
      have ez := GP_x s2 q1
      rw [ez] at hk
      exact cd_t rfl ⟨_, _, _, rfl, hk 0 F1 ol'⟩
  · intro g o x h hg c hok hx hl ho
    refine ⟨fun q => absurd q (by omega), fun q => absurd q (by omega), fun q => absurd q (by unfold rowG; omega), fun g' eg hrow d Q S F G i hd hi hc hk => ?_⟩
    have eg : g' = g := by omega
    subst eg
    have ct := hc.2.2.1
    have ej : jst g' (pBy t n (pSp t n x.1.1)) (pWd t n (pSp t n x.1.1)) = 0 := if_pos c
    have fs : pSp t n (pSp t n x.1.1) = pSp t n x.1.1 := pSp_f hx.2
    have ol : OL t n b F F (pAt x.1 (pSp t n x.1.1), x.2) 1 := OL_g FRy_r hok (by show CTk F t n (pSp t n (pSp t n x.1.1)); rw [fs]; exact ct) hc.2.2.2
    rw [ej]
    exact sg_233_20 (cn_i (fun _ => cd_t rfl (hk 1 F ol)) (fun _ => hk 1 F ol))
  · intro g o x y z h hg c s1 s2 i1 i2 hok hx hl ho
    refine ⟨fun q => absurd q (by omega), fun q => absurd q (by omega), fun q => absurd q (by unfold rowG; omega), fun g' eg hrow d Q S F G i hd hi hc hk => ?_⟩
    have eg : g' = g := by omega
    subst eg
    have d2 : 5 ≤ (d : Int) := by
      have : 5 ≤ rdc g' o := by
        rcases hg with e | e | e | e <;> subst e
        · rw [r1]; omega
        · rw [r2]; omega
        · rw [r4]; omega
        · rw [r5]; omega
      omega
    have ct := hc.2.2.1
    have bb := ct.2.2.1
    have sb := pSp_b (t := t) (n := n) (n - x.1.1).toNat x.1.1 (by omega)
    have jb := jop_p (t := t) hg bb.1 bb.2.1 c
    have jt := jq_tE (t := t) hg bb.1 bb.2.1 c
    have jx : 0 ≤ jq t n g' (pSp t n x.1.1) ∧ jq t n g' (pSp t n x.1.1) ≤ n := ⟨by omega, jb.2⟩
    have jv := jop_v c
    have ej : jst g' (pBy t n (pSp t n x.1.1)) (pWd t n (pSp t n x.1.1)) = eN (jop g' (pBy t n (pSp t n x.1.1)) (pWd t n (pSp t n x.1.1))) 0 := if_neg c
    have en := eN_b (v := 0) jv.1 jv.2.2
    have my := GP_m s1 jx
    rw [ej]
    refine sg_233_20 (cd_t (by omega) (cd_f (by omega) (ck_i (nb (by omega)) (c_adv (r := pAt x.1 (jq t n g' (pSp t n x.1.1))) ct jt (fun F1 f1 c1 => ck_i (nb (by omega)) ?_)))))
    refine CLO_234 i1 hrow hok jx (by show (x.2.length : Int) ≤ jq t n g' (pSp t n x.1.1); omega) ho (by omega) (cXs_f hb hc f1 c1 rfl) (fun v F2 ol => ?_)
    have ol' := OL_t (FRy_f hb f1) ol
    rcases ol with ⟨q1, q2, q3, q4, q5⟩ | ⟨q1, q2, q3, q4, q5⟩
    · subst q2
      have fy := FRy_t (FRy_f hb f1) q3
      have m2 : jq t n g' (pSp t n x.1.1) ≤ y.1.1 ∧ (y.2.length : Int) - x.2.length ≤ y.1.1 - jq t n g' (pSp t n x.1.1) := (my.2 q1).2
      have myb := my.1
      rw [emx_y q1] at s2 i2
      refine cd_f (by decide) (ck_i (ckb hb hc.1) (ck_i (nb (by omega)) ?_))
      rw [hc.1]
      refine c_226 (q := (jop g' (pBy t n (pSp t n x.1.1)) (pWd t n (pSp t n x.1.1)), 0)) hb (by omega) q5 q4 rfl (fun F3 f3 p3 c3 _ => ck_i (nb (by omega)) ?_)
      have cy := cXs_y (y := (y.1, y.2 ++ [(jop g' (pBy t n (pSp t n x.1.1)) (pWd t n (pSp t n x.1.1)), 0)])) hb hc (FRy_t fy f3) c3 p3
      refine c_235 hg cy.2.1 c3 ?_
      rw [wr_id (by omega) (by omega)]
      refine (i2 q1 myb ?_ ho).2.2.2 g' rfl hrow d Q S F3 G (i + 1) hd ⟨by omega, by show i + 1 ≤ y.1.1; omega⟩ cy (fun v F4 ol2 => hk v F4 (OL_t (FRy_t fy f3) ol2))
      show (((y.2 ++ [(jop g' (pBy t n (pSp t n x.1.1)) (pWd t n (pSp t n x.1.1)), 0)]).length : Nat) : Int) ≤ y.1.1
      rw [List.length_append]
      show ((y.2.length + 1 : Nat) : Int) ≤ y.1.1
      omega
    · subst q2
      rw [emx_n q1] at s2
      have ez := GP_x s2 q1
      rw [ez] at hk
      exact cd_t rfl (hk 0 F2 ol')
  · intro o x y h c s ih hok hx hl ho
    refine ⟨fun q => absurd q (by decide), fun _ d k S F G hd hc hk => ?_, fun q => absurd q (by unfold rowG; decide), fun g' q => absurd q (by omega)⟩
    rw [r3] at hd
    have ct := hc.2.2.1
    have bb := ct.2.2.1
    refine sg_236_0 (ck_i (nb (by omega)) (c_279 (s := 42) rfl (okW_i (by decide) (by decide)) hc.2.1 ct (fun z => ?_) (fun _ => cd_t rfl (ck_i (nb (by omega)) (c_280 ct (by decide) (fun _ te => cd_f (by decide) (ck_i (nb (by omega)) ?_)) (fun q => absurd c q))))))
    · exfalso
      have l := wd_p (t := t) bb.1 bb.2.1 (by rw [z]; have := tC_p (s := 42) (by decide) (by decide); omega)
      have := tE_s c (by decide)
      omega
    · exact CLO_open (g := 5) hb s ih (by unfold rowG; decide) hok hx hl ho (by decide) (by omega) (by rw [r5]; omega) hc te hk
  · intro o x y h c w s ih hok hx hl ho
    refine ⟨fun q => absurd q (by decide), fun _ d k S F G hd hc hk => ?_, fun q => absurd q (by unfold rowG; decide), fun g' q => absurd q (by omega)⟩
    rw [r3] at hd
    have ct := hc.2.2.1
    have bb := ct.2.2.1
    have sb := pSp_b (t := t) (n := n) (n - x.1.1).toNat x.1.1 (by omega)
    have n3' := not3 (t := t) (n := n) (b := pSp t n x.1.1) (by omega) sb.2 w
    have lb := pLe_b (t := t) (n := n) (n - pSp t n x.1.1).toNat (pSp t n x.1.1) (by omega)
    have te := tE_w (okW_i (s := 20) (by decide) (by decide)) bb.1 bb.2.1 w
    rw [n3'] at te
    refine sg_236_0 (ck_i (nb (by omega)) (c_279 (s := 42) rfl (okW_i (by decide) (by decide)) hc.2.1 ct (fun _ => cd_f (by decide) (ck_i (nb (by omega)) ?_)) (fun z => absurd (by rw [w, s42]) z)))
    refine c_237 (r := pAt x.1 (pSp t n x.1.1 + 3)) ct (fun _ => te.symm) ho.2 (fun o6 F1 f1 c1 => cd_f (by decide) (ck_i (nb (by omega)) ?_)) (fun o6 => cd_t rfl ⟨_, _, _, rfl, ?_⟩)
    · have eo : opn (pAt x.1 (pSp t n x.1.1)) 3 o = pAt x.1 (pSp t n x.1.1 + 3) := opn_o (p := pAt x.1 (pSp t n x.1.1)) hok o6
      rw [eo] at s ih
      have bx : 0 ≤ pSp t n x.1.1 + 3 ∧ pSp t n x.1.1 + 3 ≤ n := ⟨by omega, by omega⟩
      have my := GP_m s bx
      rw [wr_id (by omega) (by omega)]
      refine (ih hok bx (by show (x.2.length : Int) ≤ pSp t n x.1.1 + 3; omega) ⟨by omega, by omega⟩).2.1 rfl (d - 1) _ S F1 G (by rw [r3]; omega) (cXs_f hb hc f1 c1 rfl) (fun v F2 ol => ?_)
      have ol' := OL_t (FRy_f hb f1) ol
      rcases ol with ⟨q1, q2, q3, q4, q5⟩ | ⟨q1, q2, q3, q4, q5⟩
      · subst q2
        have fy := FRy_t (FRy_f hb f1) q3
        have m2 : pSp t n x.1.1 + 3 ≤ y.1.1 ∧ (y.2.length : Int) - x.2.length ≤ y.1.1 - (pSp t n x.1.1 + 3) := (my.2 q1).2
        have myb := my.1
        refine cd_f (by decide) (ck_i (ckb hb hc.1) (ck_i (nb (by omega)) ?_))
        rw [hc.1]
        refine c_226 (q := (9, 0)) hb (by omega) q5 q4 rfl (fun F3 f3 p3 c3 _ => ⟨_, _, _, rfl, hk 1 F3 ?_⟩)
        rw [emx_y q1]
        exact OL_g (FRy_t fy f3) q1 c3 p3
      · subst q2
        rw [emx_n q1] at hk
        exact cd_t rfl ⟨_, _, _, rfl, hk 0 F2 ol'⟩
    · subst o6
      have eo : opn (pAt x.1 (pSp t n x.1.1)) 3 6 = (pSp t n x.1.1, pSp t n x.1.1, 3) := by rw [opn_6 (p := pAt x.1 (pSp t n x.1.1)) hok, pFl_y (show (pAt x.1 (pSp t n x.1.1)).2.1 = -1 from hok)]; rfl
      rw [eo] at s
      have ne : ((((pSp t n x.1.1, pSp t n x.1.1, 3) : Pz), x.2) : Px).1.2.1 ≠ -1 := by show pSp t n x.1.1 ≠ -1; omega
      have ey := GP_x s ne
      rw [ey, emx_n ne] at hk
      exact hk 0 _ (OL_f (q := (pSp t n x.1.1, pSp t n x.1.1, 3)) hb FRy_r.1 ne rfl)
  · intro o x y h c w s f ih hok hx hl ho
    refine ⟨fun q => absurd q (by decide), fun _ d k S F G hd hc hk => ?_, fun q => absurd q (by unfold rowG; decide), fun g' q => absurd q (by omega)⟩
    rw [r3] at hd
    have ct := hc.2.2.1
    have bb := ct.2.2.1
    have sb := pSp_b (t := t) (n := n) (n - x.1.1).toNat x.1.1 (by omega)
    have fs : pSp t n (pSp t n x.1.1) = pSp t n x.1.1 := pSp_f hx.2
    have bx : 0 ≤ pSp t n x.1.1 ∧ pSp t n x.1.1 ≤ n := ⟨by omega, sb.2⟩
    have cx : cXs S F t n b (pAt x.1 (pSp t n x.1.1), x.2) := ⟨hc.1, hc.2.1, by show CTk F t n (pSp t n (pSp t n x.1.1)); rw [fs]; exact ct, hc.2.2.2⟩
    refine sg_236_0 (ck_i (nb (by omega)) (c_279 (s := 42) rfl (okW_i (by decide) (by decide)) hc.2.1 ct (fun z => absurd (by rw [z, s42]) w) (fun _ => cd_t rfl (ck_i (nb (by omega)) (c_280 ct (by decide) (fun q => absurd q c) (fun _ => cd_t rfl (ck_i (nb (by omega)) ?_)))))))
    refine sg_238_0 (ck_i (nb (by omega)) ((ih hok bx (by show (x.2.length : Int) ≤ pSp t n x.1.1; omega) ho).2.2.1 (by unfold rowG; decide) (d - 1 - 1) _ S F G (by rw [r2]; omega) cx (fun v F2 ol => ?_)))
    rcases ol with ⟨q1, q2, q3, q4, q5⟩ | ⟨q1, q2, q3, q4, q5⟩
    · exact absurd q1 f
    · subst q2
      exact cd_t rfl ⟨_, _, _, rfl, ck_i rfl ⟨_, _, _, rfl, hk 0 F2 (Or.inr ⟨q1, rfl, q3, q4, q5⟩)⟩⟩
  · intro o x y h c w s f e ih hok hx hl ho
    refine ⟨fun q => absurd q (by decide), fun _ d k S F G hd hc hk => ?_, fun q => absurd q (by unfold rowG; decide), fun g' q => absurd q (by omega)⟩
    rw [r3] at hd
    have ct := hc.2.2.1
    have bb := ct.2.2.1
    have sb := pSp_b (t := t) (n := n) (n - x.1.1).toNat x.1.1 (by omega)
    have fs : pSp t n (pSp t n x.1.1) = pSp t n x.1.1 := pSp_f hx.2
    have bx : 0 ≤ pSp t n x.1.1 ∧ pSp t n x.1.1 ≤ n := ⟨by omega, sb.2⟩
    have cx : cXs S F t n b (pAt x.1 (pSp t n x.1.1), x.2) := ⟨hc.1, hc.2.1, by show CTk F t n (pSp t n (pSp t n x.1.1)); rw [fs]; exact ct, hc.2.2.2⟩
    have z1 : pBy t n (pSp t n y.1.1) ≠ 60 := fun q => by rw [q] at e; exact absurd e (by decide)
    have z2 : pBy t n (pSp t n y.1.1) ≠ 62 := fun q => by rw [q] at e; exact absurd e (by decide)
    have z3 : pBy t n (pSp t n y.1.1) ≠ 61 := fun q => by rw [q] at e; exact absurd e (by decide)
    refine sg_236_0 (ck_i (nb (by omega)) (c_279 (s := 42) rfl (okW_i (by decide) (by decide)) hc.2.1 ct (fun z => absurd (by rw [z, s42]) w) (fun _ => cd_t rfl (ck_i (nb (by omega)) (c_280 ct (by decide) (fun q => absurd q c) (fun _ => cd_t rfl (ck_i (nb (by omega)) ?_)))))))
    refine sg_238_0 (ck_i (nb (by omega)) ((ih hok bx (by show (x.2.length : Int) ≤ pSp t n x.1.1; omega) ho).2.2.1 (by unfold rowG; decide) (d - 1 - 1) _ S F G (by rw [r2]; omega) cx (fun v F2 ol => ?_)))
    rcases ol with ⟨q1, q2, q3, q4, q5⟩ | ⟨q1, q2, q3, q4, q5⟩
    · subst q2
      refine cd_f (by decide) (ck_i (nb (by omega)) (c_280 q4 (by decide) (fun q => absurd q z1) (fun _ => cd_t rfl (ck_i (nb (by omega)) (c_280 q4 (by decide) (fun q => absurd q z2) (fun _ => cd_t rfl (ck_i (nb (by omega)) (c_280 q4 (by decide) (fun q => absurd q z3) (fun _ => cd_t rfl (ck_i (nb (by omega)) (c_281 q4 (ck_i rfl ⟨_, _, _, rfl, ck_i rfl ⟨_, _, _, rfl, hk 0 _ ?_⟩⟩))))))))))))
      have ef : pFl (pAt y.1 (pSp t n y.1.1)) 1 (pSp t n y.1.1) = (pSp t n y.1.1, pSp t n y.1.1, 1) := pFl_y f
      rw [ef]
      have b4 := q4.2.2.1
      exact OL_f (q := (pSp t n y.1.1, pSp t n y.1.1, 1)) hb q3.1 (by show pSp t n y.1.1 ≠ -1; omega) rfl
    · exact absurd f q1
  · intro o x y z h c w s f e s2 ih i2 hok hx hl ho
    refine ⟨fun q => absurd q (by decide), fun _ d k S F G hd hc hk => ?_, fun q => absurd q (by unfold rowG; decide), fun g' q => absurd q (by omega)⟩
    rw [r3] at hd
    have ct := hc.2.2.1
    have bb := ct.2.2.1
    have sb := pSp_b (t := t) (n := n) (n - x.1.1).toNat x.1.1 (by omega)
    have fs : pSp t n (pSp t n x.1.1) = pSp t n x.1.1 := pSp_f hx.2
    have bx : 0 ≤ pSp t n x.1.1 ∧ pSp t n x.1.1 ≤ n := ⟨by omega, sb.2⟩
    have cx : cXs S F t n b (pAt x.1 (pSp t n x.1.1), x.2) := ⟨hc.1, hc.2.1, by show CTk F t n (pSp t n (pSp t n x.1.1)); rw [fs]; exact ct, hc.2.2.2⟩
    have m := GP_m s bx
    have my := m.1
    have m2 : pSp t n x.1.1 ≤ y.1.1 ∧ (y.2.length : Int) - x.2.length ≤ y.1.1 - pSp t n x.1.1 := (m.2 f).2
    have sy := pSp_b (t := t) (n := n) (n - y.1.1).toNat y.1.1 (by omega)
    have lt := cop_p e
    have by' : 0 ≤ pSp t n y.1.1 + 1 ∧ pSp t n y.1.1 + 1 ≤ n := ⟨by omega, by omega⟩
    have m3 := GP_m s2 by'
    refine sg_236_0 (ck_i (nb (by omega)) (c_279 (s := 42) rfl (okW_i (by decide) (by decide)) hc.2.1 ct (fun z => absurd (by rw [z, s42]) w) (fun _ => cd_t rfl (ck_i (nb (by omega)) (c_280 ct (by decide) (fun q => absurd q c) (fun _ => cd_t rfl (ck_i (nb (by omega)) ?_)))))))
    refine sg_238_0 (ck_i (nb (by omega)) ((ih hok bx (by show (x.2.length : Int) ≤ pSp t n x.1.1; omega) ho).2.2.1 (by unfold rowG; decide) (d - 1 - 1) _ S F G (by rw [r2]; omega) cx (fun v F2 ol => ?_)))
    rcases ol with ⟨q1, q2, q3, q4, q5⟩ | ⟨q1, q2, q3, q4, q5⟩
    · subst q2
      -- behind the sign
      have body : ∀ (op cd : Int), cop (pBy t n (pSp t n y.1.1)) = op → cd = eN op 0 → tE t n (pSp t n y.1.1) = pSp t n y.1.1 + 1 → chk (Nat.ble (1 + 1) (d - 1)) (calV 1 276 [.inr (.inr (.inl 2))] (mm S F2 G) (fun S6 F6 G6 => chk (Nat.ble ((d - 1 - 1) + 1) (d - 1)) (calI (d - 1 - 1) 233 [.inr (.inr (.inl 5)), .inl 2, .inl o] (mm S6 F6 G6) (fun v7 S7 F7 G7 => cnd (decide (v7 = 0)) (∃ S' F' G', mm S7 F7 G7 = mm S' F' G' ∧ chk (zb 0) (∃ S2 F2 G2, mm S' F' G' = mm S2 F2 G2 ∧ k 0 S2 F2 G2)) (chk (kq (kk (S7 5 1)) 0 2) (chk (Nat.ble (0 + 1) (d - 1)) (calV 0 226 [.inr (.inr (.inl (S7 5 1))), .inl cd] (mm S7 F7 G7) (fun S8 F8 G8 => ∃ S' F' G', mm S8 F8 G8 = mm S' F' G' ∧ chk (zb 1) (∃ S2 F2 G2, mm S' F' G' = mm S2 F2 G2 ∧ k 1 S2 F2 G2)) nof)))) nof)) nof) := by
        intro op cd eop ecd te
        rw [eop] at hk
        refine ck_i (nb (by omega)) (c_adv (r := pAt y.1 (pSp t n y.1.1 + 1)) q4 te.symm (fun F3 f3 c3 => ck_i (nb (by omega)) ?_))
        have fy := FRy_t q3 (FRy_f hb f3)
        have cy : cXs S F3 t n b (pAt y.1 (pSp t n y.1.1 + 1), y.2) := cXs_y (y := (pAt y.1 (pSp t n y.1.1 + 1), y.2)) hb hc fy c3 (CPr_f hb q5 f3)
        refine (i2 f by' (by show (y.2.length : Int) ≤ pSp t n y.1.1 + 1; omega) ho).2.2.1 (by unfold rowG; decide) (d - 1 - 1) _ S F3 G (by rw [r2]; omega) cy (fun v F4 ol => ?_)
        have ol' := OL_t fy ol
        rcases ol with ⟨p1, p2, p3, p4, p5⟩ | ⟨p1, p2, p3, p4, p5⟩
        · subst p2
          have m4 : pSp t n y.1.1 + 1 ≤ z.1.1 ∧ (z.2.length : Int) - y.2.length ≤ z.1.1 - (pSp t n y.1.1 + 1) := (m3.2 p1).2
          have mzb := m3.1
          refine cd_f (by decide) (ck_i (ckb hb hc.1) (ck_i (nb (by omega)) ?_))
          rw [hc.1]
          refine c_226 (q := (op, 0)) hb (by omega) p5 p4 ecd (fun F5 f5 pp5 c5 _ => ⟨_, _, _, rfl, ck_i rfl ⟨_, _, _, rfl, hk 1 F5 ?_⟩⟩)
          rw [emx_y p1]
          exact OL_g (FRy_t (FRy_t fy p3) f5) p1 c5 pp5
        · subst p2
          rw [emx_n p1] at hk
          exact cd_t rfl ⟨_, _, _, rfl, ck_i rfl ⟨_, _, _, rfl, hk 0 F4 ol'⟩⟩
      refine cd_f (by decide) (ck_i (nb (by omega)) (c_280 q4 (by decide) (fun z1 te => cd_f (by decide) (body 6 (-23) (by rw [z1]; rfl) rfl te)) (fun z1 => cd_t rfl (ck_i (nb (by omega)) (c_280 q4 (by decide) (fun z2 te => cd_f (by decide) (body 7 (-24) (by rw [z2]; rfl) rfl te)) (fun z2 => cd_t rfl (ck_i (nb (by omega)) (c_280 q4 (by decide) (fun z3 te => cd_f (by decide) (body 8 (-25) (by rw [z3]; rfl) rfl te)) (fun z3 => ?_)))))))))
      exfalso
      unfold cop at e
      rw [if_neg z1, if_neg z2, if_neg z3] at e
      exact e rfl
    · exact absurd f q1
