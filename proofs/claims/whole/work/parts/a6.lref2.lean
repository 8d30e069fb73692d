/-! ===== the reference reads what holds or not ===== -/
def rdw (g : Nat) (o : Int) : Int := (if g < 10 then (g : Int) else (g : Int) - 10) + 2 + 6 * (7 - o)
def tagG (g : Nat) : Prop := g ≤ 5 ∨ g = 11 ∨ g = 12 ∨ g = 14 ∨ g = 15
def RFO (F0 : FI) (n : Int) (g : Nat) (o : Int) (x x' : Px) : Prop := tagG g → 0 ≤ x.1.1 ∧ x.1.1 ≤ n → (x.1.2.1 = -1 → (x.2.length : Int) ≤ x.1.1) → (0 ≤ o ∧ o ≤ 7) ∧ (x.1.2.1 = -1 → o ≤ 6) →
  (g < 10 → ∀ (d : Nat) (k : FS → FI → FJ → Prop) (S : FS) (F : FI) (G : FJ), rdw g o ≤ d → MP F0 F x o → (∀ F', MP F0 F' x' o → k S F' G) → calV d (100 + g) [.inr (.inr (.inl 97))] (mm S F G) k nof) ∧
  (¬ g < 10 → ∀ (d : Nat) (Q : Rs → Mm → Prop) (S : FS) (F : FI) (G : FJ), rdw g o ≤ d → MP F0 F x o → (∀ F', MP F0 F' x' o → Q (.inl none) (mm S F' G)) → wph d (90 + g) 4 [.inr (.inr (.inl 97))] [] (mm S F G) (0, 0) Q)
theorem fl_l101 {F0 : FI} {x : Px} {o : Int} {d : Nat} {Q : Rs → Mm → Prop} {S : FS} {F : FI} {G : FJ} (hd : 1 ≤ d) (h : MP F0 F x o) (hf : x.1.2.1 ≠ -1) (hk : Q (.inl none) (mm S F G)) : wph d 101 4 [.inr (.inr (.inl 97))] [] (mm S F G) (0, 0) Q :=
  sg_101_4 (ck_i (nb hd) (k_73 h (fun b => absurd b hf) (fun _ => cd_t rfl hk)))
theorem fl_l102 {F0 : FI} {x : Px} {o : Int} {d : Nat} {Q : Rs → Mm → Prop} {S : FS} {F : FI} {G : FJ} (hd : 1 ≤ d) (h : MP F0 F x o) (hf : x.1.2.1 ≠ -1) (hk : Q (.inl none) (mm S F G)) : wph d 102 4 [.inr (.inr (.inl 97))] [] (mm S F G) (0, 0) Q :=
  sg_102_4 (ck_i (nb hd) (k_73 h (fun b => absurd b hf) (fun _ => cd_t rfl hk)))
theorem fl_l104 {F0 : FI} {x : Px} {o : Int} {d : Nat} {Q : Rs → Mm → Prop} {S : FS} {F : FI} {G : FJ} (hd : 1 ≤ d) (h : MP F0 F x o) (hf : x.1.2.1 ≠ -1) (hk : Q (.inl none) (mm S F G)) : wph d 104 4 [.inr (.inr (.inl 97))] [] (mm S F G) (0, 0) Q :=
  sg_104_4 (ck_i (nb hd) (k_73 h (fun b => absurd b hf) (fun _ => cd_t rfl hk)))
theorem fl_l105 {F0 : FI} {x : Px} {o : Int} {d : Nat} {Q : Rs → Mm → Prop} {S : FS} {F : FI} {G : FJ} (hd : 1 ≤ d) (h : MP F0 F x o) (hf : x.1.2.1 ≠ -1) (hk : Q (.inl none) (mm S F G)) : wph d 105 4 [.inr (.inr (.inl 97))] [] (mm S F G) (0, 0) Q :=
  sg_105_4 (ck_i (nb hd) (k_73 h (fun b => absurd b hf) (fun _ => cd_t rfl hk)))
theorem fl_100 {F0 : FI} {x : Px} {o : Int} {d : Nat} {k : FS → FI → FJ → Prop} {S : FS} {F : FI} {G : FJ} (hd : 1 ≤ d) (h : MP F0 F x o) (hf : x.1.2.1 ≠ -1) (hk : k S F G) : calV d 100 [.inr (.inr (.inl 97))] (mm S F G) k nof :=
  sg_100_0 (ck_i (nb hd) (k_73 h (fun b => absurd b hf) (fun _ => cd_t rfl ⟨_, _, _, rfl, hk⟩)))
theorem fl_103 {F0 : FI} {x : Px} {o : Int} {d : Nat} {k : FS → FI → FJ → Prop} {S : FS} {F : FI} {G : FJ} (hd : 1 ≤ d) (h : MP F0 F x o) (hf : x.1.2.1 ≠ -1) (hk : k S F G) : calV d 103 [.inr (.inr (.inl 97))] (mm S F G) k nof :=
  sg_103_0 (ck_i (nb hd) (k_73 h (fun b => absurd b hf) (fun _ => cd_t rfl ⟨_, _, _, rfl, hk⟩)))
theorem fl_101 {F0 : FI} {x : Px} {o : Int} {d : Nat} {k : FS → FI → FJ → Prop} {S : FS} {F : FI} {G : FJ} (hd : 2 ≤ d) (h : MP F0 F x o) (hf : x.1.2.1 ≠ -1) (hk : k S F G) : calV d 101 [.inr (.inr (.inl 97))] (mm S F G) k nof :=
  sg_101_0 (ck_i (nb (by omega)) (fl_100 (by omega) h hf (fl_l101 (by omega) h hf ⟨_, _, _, rfl, hk⟩)))
theorem fl_102 {F0 : FI} {x : Px} {o : Int} {d : Nat} {k : FS → FI → FJ → Prop} {S : FS} {F : FI} {G : FJ} (hd : 3 ≤ d) (h : MP F0 F x o) (hf : x.1.2.1 ≠ -1) (hk : k S F G) : calV d 102 [.inr (.inr (.inl 97))] (mm S F G) k nof :=
  sg_102_0 (ck_i (nb (by omega)) (fl_101 (by omega) h hf (fl_l102 (by omega) h hf ⟨_, _, _, rfl, hk⟩)))
theorem fl_104 {F0 : FI} {x : Px} {o : Int} {d : Nat} {k : FS → FI → FJ → Prop} {S : FS} {F : FI} {G : FJ} (hd : 2 ≤ d) (h : MP F0 F x o) (hf : x.1.2.1 ≠ -1) (hk : k S F G) : calV d 104 [.inr (.inr (.inl 97))] (mm S F G) k nof :=
  sg_104_0 (ck_i (nb (by omega)) (fl_103 (by omega) h hf (fl_l104 (by omega) h hf ⟨_, _, _, rfl, hk⟩)))
theorem fl_105 {F0 : FI} {x : Px} {o : Int} {d : Nat} {k : FS → FI → FJ → Prop} {S : FS} {F : FI} {G : FJ} (hd : 3 ≤ d) (h : MP F0 F x o) (hf : x.1.2.1 ≠ -1) (hk : k S F G) : calV d 105 [.inr (.inr (.inl 97))] (mm S F G) k nof :=
  sg_105_0 (ck_i (nb (by omega)) (fl_104 (by omega) h hf (fl_l105 (by omega) h hf ⟨_, _, _, rfl, hk⟩)))
theorem rdw_v : (∀ o, rdw 0 o = 2 + 6 * (7 - o)) ∧ (∀ o, rdw 1 o = 3 + 6 * (7 - o)) ∧ (∀ o, rdw 2 o = 4 + 6 * (7 - o)) ∧ (∀ o, rdw 3 o = 5 + 6 * (7 - o)) ∧ (∀ o, rdw 4 o = 6 + 6 * (7 - o)) ∧ (∀ o, rdw 5 o = 7 + 6 * (7 - o)) ∧ (∀ o, rdw 11 o = 3 + 6 * (7 - o)) ∧ (∀ o, rdw 12 o = 4 + 6 * (7 - o)) ∧ (∀ o, rdw 14 o = 6 + 6 * (7 - o)) ∧ (∀ o, rdw 15 o = 7 + 6 * (7 - o)) := by
  refine ⟨fun o => ?_, fun o => ?_, fun o => ?_, fun o => ?_, fun o => ?_, fun o => ?_, fun o => ?_, fun o => ?_, fun o => ?_, fun o => ?_⟩
  · show (0 : Int) + 2 + _ = _; omega
  · show (1 : Int) + 2 + _ = _; omega
  · show (2 : Int) + 2 + _ = _; omega
  · show (3 : Int) + 2 + _ = _; omega
  · show (4 : Int) + 2 + _ = _; omega
  · show (5 : Int) + 2 + _ = _; omega
  · show (11 : Int) - 10 + 2 + _ = _; omega
  · show (12 : Int) - 10 + 2 + _ = _; omega
  · show (14 : Int) - 10 + 2 + _ = _; omega
  · show (15 : Int) - 10 + 2 + _ = _; omega
theorem ref_flt {F0 : FI} {n o : Int} {g : Nat} {x : Px} (h : x.1.2.1 ≠ -1) : RFO F0 n g o x x := by
  obtain ⟨r0, r1, r2, r3, r4, r5, r11, r12, r14, r15⟩ := rdw_v
  intro hg hx hl ho
  unfold tagG at hg
  have e : g = 0 ∨ g = 1 ∨ g = 2 ∨ g = 3 ∨ g = 4 ∨ g = 5 ∨ g = 11 ∨ g = 12 ∨ g = 14 ∨ g = 15 := by omega
  rcases e with e | e | e | e | e | e | e | e | e | e <;> subst e
  · exact ⟨fun _ d k S F G hd hm hk => fl_100 (by rw [r0] at hd; omega) hm h (hk F hm), fun z => absurd (by decide) z⟩
  · exact ⟨fun _ d k S F G hd hm hk => fl_101 (by rw [r1] at hd; omega) hm h (hk F hm), fun z => absurd (by decide) z⟩
  · exact ⟨fun _ d k S F G hd hm hk => fl_102 (by rw [r2] at hd; omega) hm h (hk F hm), fun z => absurd (by decide) z⟩
  · exact ⟨fun _ d k S F G hd hm hk => fl_103 (by rw [r3] at hd; omega) hm h (hk F hm), fun z => absurd (by decide) z⟩
  · exact ⟨fun _ d k S F G hd hm hk => fl_104 (by rw [r4] at hd; omega) hm h (hk F hm), fun z => absurd (by decide) z⟩
  · exact ⟨fun _ d k S F G hd hm hk => fl_105 (by rw [r5] at hd; omega) hm h (hk F hm), fun z => absurd (by decide) z⟩
  · exact ⟨fun z => absurd z (by decide), fun _ d Q S F G hd hm hk => fl_l101 (by rw [r11] at hd; omega) hm h (hk F hm)⟩
  · exact ⟨fun z => absurd z (by decide), fun _ d Q S F G hd hm hk => fl_l102 (by rw [r12] at hd; omega) hm h (hk F hm)⟩
  · exact ⟨fun z => absurd z (by decide), fun _ d Q S F G hd hm hk => fl_l104 (by rw [r14] at hd; omega) hm h (hk F hm)⟩
  · exact ⟨fun z => absurd z (by decide), fun _ d Q S F G hd hm hk => fl_l105 (by rw [r15] at hd; omega) hm h (hk F hm)⟩
/-- what opens, for what comes in it -/
theorem ref_open {F0 : FI} {t : Nat → Int} {n o k : Int} {g : Nat} {x y : Px} (ih : RFO F0 n g (o + 1) (opn (pAt x.1 (pSp t n x.1.1)) k o, x.2) y) (hg : g ≤ 5) (h : x.1.2.1 = -1) (hx : 0 ≤ x.1.1 ∧ x.1.1 ≤ n) (hl : x.1.2.1 = -1 → (x.2.length : Int) ≤ x.1.1) (ho : (0 ≤ o ∧ o ≤ 7) ∧ (x.1.2.1 = -1 → o ≤ 6)) (hk : 0 ≤ k ∧ pSp t n x.1.1 + k ≤ n) (hn : n ≤ 600) (k9 : k ≤ 9)
    {d : Nat} {k' : FS → FI → FJ → Prop} {S : FS} {F : FI} {G : FJ} (hd : 2 ≤ d) (hd2 : rdw g (o + 1) ≤ (d - 1 : Nat)) (hp : MP F0 F (pAt x.1 (pSp t n x.1.1), x.2) o) (hk' : ∀ F', MP F0 F' y (o + 1) → k' S F' G) :
    chk (Nat.ble (1 + 1) d) (calV 1 98 [.inr (.inr (.inl 97)), .inl k] (mm S F G) (fun S4 F4 G4 => chk (Nat.ble ((d - 1) + 1) d) (calV (d - 1) (100 + g) [.inr (.inr (.inl 97))] (mm S4 F4 G4) k' nof)) nof) := by
  have sb := pSp_b (t := t) (n := n) (n - x.1.1).toNat x.1.1 (by omega)
  have o6 := ho.2 h
  have ob := opn_p (p := pAt x.1 (pSp t n x.1.1)) (k := k) (o := o) (n := n) h (by show 0 ≤ pSp t n x.1.1; omega) hk.2 hk.1
  refine ck_i (nb hd) (k_98 hp ho.1 ⟨hk.1, k9⟩ ⟨by show 0 ≤ pSp t n x.1.1; omega, by show pSp t n x.1.1 ≤ 600; omega⟩ (fun F1 h1 => ck_i (nb (by omega)) ?_))
  refine (ih (Or.inl hg) ob.1 (fun q => ?_) ⟨by omega, fun q => ?_⟩).1 (by omega) (d - 1) k' S F1 G hd2 h1 hk'
  · have e : (opn (pAt x.1 (pSp t n x.1.1)) k o).1 = pSp t n x.1.1 + k := (ob.2 q).1
    have := hl h
    show (x.2.length : Int) ≤ (opn (pAt x.1 (pSp t n x.1.1)) k o).1
    omega
  · have := (ob.2 q).2
    omega
set_option maxRecDepth 100000 in
theorem ref_unit {F0 : FI} {t : Nat → Int} {n o : Int} {x : Px} (hm : MT F0 t n) (h : x.1.2.1 = -1) (hx : 0 ≤ x.1.1 ∧ x.1.1 ≤ n) {d : Nat} {k : FS → FI → FJ → Prop} {S : FS} {F : FI} {G : FJ} (hd : 2 ≤ d) (hp : MP F0 F x o)
    (par : pBy t n (pSp t n x.1.1) = 40 → ∀ F1, MP F0 F1 (pAt x.1 (pSp t n x.1.1), x.2) o → chk (Nat.ble (1 + 1) d) (calV 1 98 [.inr (.inr (.inl 97)), .inl 1] (mm S F1 G) (fun S4 F4 G4 => chk (Nat.ble ((d - 1) + 1) d) (calV (d - 1) 102 [.inr (.inr (.inl 97))] (mm S4 F4 G4) (fun S5 F5 G5 => chk (Nat.ble (1 + 1) d) (calV 1 82 [.inr (.inr (.inl 97)), .inl 41] (mm S5 F5 G5) (fun S6 F6 G6 => ∃ S' F' G', mm S6 (u2 F6 97 7 (wr ((F6 97 7) - 1))) G6 = mm S' F' G' ∧ k S' F' G') nof)) nof)) nof))
    (num : 48 ≤ pBy t n (pSp t n x.1.1) ∧ pBy t n (pSp t n x.1.1) ≤ 57 → ∀ F1, MP F0 F1 ((pNb t n (pAt x.1 (pSp t n x.1.1)) 0 9999).2, x.2) o → calV 1 97 [.inr (.inr (.inl 97)), .inl 0, .inl (pNb t n (pAt x.1 (pSp t n x.1.1)) 0 9999).1] (mm S F1 G) (fun S' F' G' => ∃ S2 F2 G2, mm S' F' G' = mm S2 F2 G2 ∧ k S2 F2 G2) nof)
    (fno : pBy t n (pSp t n x.1.1) ≠ 40 → ¬ (48 ≤ pBy t n (pSp t n x.1.1) ∧ pBy t n (pSp t n x.1.1) ≤ 57) → fcW (pWd t n (pSp t n x.1.1)) = -1 → ∀ F1, MP F0 F1 (pFl (pAt x.1 (pSp t n x.1.1)) 1 (pSp t n x.1.1), x.2) o → k S F1 G)
    (fct : pBy t n (pSp t n x.1.1) ≠ 40 → ¬ (48 ≤ pBy t n (pSp t n x.1.1) ∧ pBy t n (pSp t n x.1.1) ≤ 57) → fcW (pWd t n (pSp t n x.1.1)) ≠ -1 → ∀ F1, MP F0 F1 (pAt x.1 (pLe t n (pSp t n x.1.1)), x.2) o → calV 1 97 [.inr (.inr (.inl 97)), .inl 1, .inl (fcW (pWd t n (pSp t n x.1.1)))] (mm S F1 G) (fun S' F' G' => ∃ S2 F2 G2, mm S' F' G' = mm S2 F2 G2 ∧ k S2 F2 G2) nof) : calV d 100 [.inr (.inr (.inl 97))] (mm S F G) k nof := by
  have sb := pSp_b (t := t) (n := n) (n - x.1.1).toNat x.1.1 (by omega)
  have fs : pSp t n (pSp t n x.1.1) = pSp t n x.1.1 := pSp_f hx.2
  have bx : 0 ≤ pSp t n x.1.1 ∧ pSp t n x.1.1 ≤ n := ⟨by omega, sb.2⟩
  refine sg_100_0 (ck_i (nb (by omega)) (k_73 hp (fun _ => cd_f (by decide) (ck_i (nb (by omega)) (k_75 hm hp hx (fun F1 h1 => ck_i (nb (by omega)) ?_)))) (fun b => absurd h b)))
  refine c_77 (fun dg => cd_f (by decide) (ck_i (nb (by omega)) ?_)) (fun dg => cd_t rfl ?_)
  · refine k_81 (x := (pAt x.1 (pSp t n x.1.1), x.2)) hm h1 bx (fun F2 h2 => ck_i (nb (by omega)) ?_)
    exact num ⟨dg.1, dg.2⟩ F2 h2
  · refine cn_i (fun c => par c F1 h1) (fun c => ck_i (nb (by omega)) ?_)
    refine k_78f (x := (pAt x.1 (pSp t n x.1.1), x.2)) hm h1 bx fs (fun F2 h2 => ck_i (nb (by omega)) (k_99 (MP_X hm h2) ?_))
    have dg' : ¬ (48 ≤ pBy t n (pSp t n x.1.1) ∧ pBy t n (pSp t n x.1.1) ≤ 57) := fun q => dg ⟨q.1, q.2⟩
    refine cn_i (fun w => ck_i (nb (by omega)) ?_) (fun w => ck_i (nb (by omega)) ?_)
    · rw [h2.2.2.1.1]
      exact k_74 h2 (fun F3 h3 => ⟨_, _, _, rfl, fno c dg' w F3 h3⟩)
    · refine k_80 (x := (pAt x.1 (pSp t n x.1.1), x.2)) hm h2 bx (fun F3 h3 => ck_i (nb (by omega)) ?_)
      exact fct c dg' w F3 h3

set_option maxRecDepth 100000 in
/-- one step of the reading, each sort of it -/
theorem ref_all {F0 : FI} {t : Nat → Int} {n o : Int} {g : Nat} {x x' : Px} (hm : MT F0 t n) (h : GP t n g o x x') : RFO F0 n g o x x' := by
  obtain ⟨r0, r1, r2, r3, r4, r5, r11, r12, r14, r15⟩ := rdw_v
  have hn := hm.2.2.1.2
  have ln : ∀ {g : Nat} {o : Int} {x y : Px}, GP t n g o x y → 0 ≤ x.1.1 ∧ x.1.1 ≤ n → (x.1.2.1 = -1 → (x.2.length : Int) ≤ x.1.1) → y.1.2.1 = -1 → (y.2.length : Int) ≤ y.1.1 ∧ y.1.1 ≤ 600 := by
    intro g o x y s hx hl hy
    have m := GP_m s hx
    have m2 := m.2 hy
    have := hl m2.1
    omega
  refine GP_rec (P := fun g o x x' => RFO F0 n g o x x') ?_ ?_ ?_ ?_ ?_ ?_ ?_ ?_ ?_ ?_ ?_ ?_ ?_ h
  · exact fun g o x h => ref_flt h
  · intro o x y h c s ih hg hx hl ho
    refine ⟨fun _ d k S F G hd hp hk => ?_, fun z => absurd (by decide) z⟩
    rw [r0] at hd
    have sb := pSp_b (t := t) (n := n) (n - x.1.1).toNat x.1.1 (by omega)
    have lt := pBy_n c (by decide)
    have ob := opn_p (p := pAt x.1 (pSp t n x.1.1)) (k := 1) (o := o) (n := n) h (by show 0 ≤ pSp t n x.1.1; omega) (by show pSp t n x.1.1 + 1 ≤ n; omega) (by decide)
    have my := (GP_m s ob.1).1
    refine ref_unit hm h hx (by omega) hp (fun _ F1 h1 => ?_) (fun q => by rw [c] at q; omega) (fun q => absurd c q) (fun q => absurd c q)
    refine ref_open ih (by decide) h hx hl ho ⟨by decide, by omega⟩ hn (by decide) (by omega) (by rw [r2]; omega) h1 (fun F2 h2 => ck_i (nb (by omega)) (k_82 (by decide) hm h2 my (fun F3 h3 => ⟨_, _, _, rfl, ?_⟩)))
    rw [h3.2.2.2.1, wr_id (by omega) (by omega), show o + 1 - 1 = o by omega]
    exact hk _ (MP_7 h3)
  · intro o x h c hg hx hl ho
    refine ⟨fun _ d k S F G hd hp hk => ?_, fun z => absurd (by decide) z⟩
    rw [r0] at hd
    have := hl h
    exact ref_unit hm h hx (by omega) hp (fun q => by rw [q] at c; omega) (fun _ F1 h1 => k_97 h1 (fun _ => by show (x.2.length : Int) < 620; omega) (fun F2 h2 => ⟨_, _, _, rfl, hk F2 h2⟩)) (fun _ q => absurd c q) (fun _ q => absurd c q)
  · intro o x h c c2 w hg hx hl ho
    refine ⟨fun _ d k S F G hd hp hk => ?_, fun z => absurd (by decide) z⟩
    rw [r0] at hd
    exact ref_unit hm h hx (by omega) hp (fun q => absurd q c) (fun q => absurd q c2) (fun _ _ _ F1 h1 => hk F1 h1) (fun _ _ q => absurd w q)
  · intro o x h c c2 w hg hx hl ho
    refine ⟨fun _ d k S F G hd hp hk => ?_, fun z => absurd (by decide) z⟩
    rw [r0] at hd
    have := hl h
    exact ref_unit hm h hx (by omega) hp (fun q => absurd q c) (fun q => absurd q c2) (fun _ _ q => absurd q w) (fun _ _ _ F1 h1 => k_97 h1 (fun _ => by show (x.2.length : Int) < 620; omega) (fun F2 h2 => ⟨_, _, _, rfl, hk F2 h2⟩))
  · intro g o x y z h hg s1 s2 i1 i2 hg' hx hl ho
    have my := (GP_m s1 hx).1
    have ly := ln s1 hx hl
    refine ⟨fun _ d k S F G hd hp hk => ?_, fun z => absurd (by omega) z⟩
    rcases hg with e | e | e | e <;> subst e
    · rw [r1] at hd
      refine sg_101_0 (ck_i (nb (by omega)) ((i1 (by unfold tagG; decide) hx hl ho).1 (by decide) (d - 1) _ S F G (by show rdw 0 o ≤ _; rw [r0]; omega) hp (fun F1 h1 => ?_)))
      exact (i2 (by unfold tagG; decide) my (fun q => (ly q).1) ⟨ho.1, fun _ => ho.2 h⟩).2 (by decide) d _ S F1 G (by show rdw 11 o ≤ _; rw [r11]; omega) h1 (fun F2 h2 => ⟨_, _, _, rfl, hk F2 h2⟩)
    · rw [r2] at hd
      refine sg_102_0 (ck_i (nb (by omega)) ((i1 (by unfold tagG; decide) hx hl ho).1 (by decide) (d - 1) _ S F G (by show rdw 1 o ≤ _; rw [r1]; omega) hp (fun F1 h1 => ?_)))
      exact (i2 (by unfold tagG; decide) my (fun q => (ly q).1) ⟨ho.1, fun _ => ho.2 h⟩).2 (by decide) d _ S F1 G (by show rdw 12 o ≤ _; rw [r12]; omega) h1 (fun F2 h2 => ⟨_, _, _, rfl, hk F2 h2⟩)
    · rw [r4] at hd
      refine sg_104_0 (ck_i (nb (by omega)) ((i1 (by unfold tagG; decide) hx hl ho).1 (by decide) (d - 1) _ S F G (by show rdw 3 o ≤ _; rw [r3]; omega) hp (fun F1 h1 => ?_)))
      exact (i2 (by unfold tagG; decide) my (fun q => (ly q).1) ⟨ho.1, fun _ => ho.2 h⟩).2 (by decide) d _ S F1 G (by show rdw 14 o ≤ _; rw [r14]; omega) h1 (fun F2 h2 => ⟨_, _, _, rfl, hk F2 h2⟩)
    · rw [r5] at hd
      refine sg_105_0 (ck_i (nb (by omega)) ((i1 (by unfold tagG; decide) hx hl ho).1 (by decide) (d - 1) _ S F G (by show rdw 4 o ≤ _; rw [r4]; omega) hp (fun F1 h1 => ?_)))
      exact (i2 (by unfold tagG; decide) my (fun q => (ly q).1) ⟨ho.1, fun _ => ho.2 h⟩).2 (by decide) d _ S F1 G (by show rdw 15 o ≤ _; rw [r15]; omega) h1 (fun F2 h2 => ⟨_, _, _, rfl, hk F2 h2⟩)
  · intro g o x h hg c hg' hx hl ho
    have sb := pSp_b (t := t) (n := n) (n - x.1.1).toNat x.1.1 (by omega)
    have fs : pSp t n (pSp t n x.1.1) = pSp t n x.1.1 := pSp_f hx.2
    have bx : 0 ≤ pSp t n x.1.1 ∧ pSp t n x.1.1 ≤ n := ⟨by omega, sb.2⟩
    refine ⟨fun z => absurd z (by omega), fun _ d Q S F G hd hp hk => ?_⟩
    rcases hg with e | e | e | e <;> subst e
    · have hd : rdw 11 o ≤ d := hd
      rw [r11] at hd
      have c1 : pBy t n (pSp t n x.1.1) ≠ 42 := fun q => by rw [q] at c; exact absurd (show (4 : Int) = 0 from c) (by decide)
      have c2 : pBy t n (pSp t n x.1.1) ≠ 47 := fun q => by rw [q] at c; exact absurd (show (5 : Int) = 0 from c) (by decide)
      refine sg_101_4 (ck_i (nb (by omega)) (k_73 hp (fun _ => cd_f (by decide) (ck_i (nb (by omega)) (k_75 hm hp hx (fun F1 h1 => cd_f c1 (ck_i (nb (by omega)) (k_75f hm h1 bx fs (fun F2 h2 => cd_f c2 (hk F2 h2)))))))) (fun b => absurd h b)))
    · have hd : rdw 12 o ≤ d := hd
      rw [r12] at hd
      have c1 : pBy t n (pSp t n x.1.1) ≠ 43 := fun q => by rw [q] at c; exact absurd (show (2 : Int) = 0 from c) (by decide)
      have c2 : pBy t n (pSp t n x.1.1) ≠ 45 := fun q => by rw [q] at c; exact absurd (show (3 : Int) = 0 from c) (by decide)
      refine sg_102_4 (ck_i (nb (by omega)) (k_73 hp (fun _ => cd_f (by decide) (ck_i (nb (by omega)) (k_75 hm hp hx (fun F1 h1 => cd_f c1 (ck_i (nb (by omega)) (k_75f hm h1 bx fs (fun F2 h2 => cd_f c2 (hk F2 h2)))))))) (fun b => absurd h b)))
    · have hd : rdw 14 o ≤ d := hd
      rw [r14] at hd
      have c1 : pWd t n (pSp t n x.1.1) ≠ tC 21 := fun q => by
        unfold jop at c
        rw [if_neg (by decide), if_neg (by decide), if_pos rfl, if_pos q] at c
        exact absurd c (by decide)
      refine sg_104_4 (ck_i (nb (by omega)) (k_73 hp (fun _ => cd_f (by decide) (ck_i (nb (by omega)) (k_78 hm hp hx (fun F1 h1 => ck_i (nb (by omega)) (c_79t (t := 21) rfl (by decide) (by decide) (by decide) (MP_X hm h1) (cd_f c1 (hk F1 h1))))))) (fun b => absurd h b)))
    · have hd : rdw 15 o ≤ d := hd
      rw [r15] at hd
      have c1 : pWd t n (pSp t n x.1.1) ≠ tC 22 := fun q => by
        unfold jop at c
        rw [if_neg (by decide), if_neg (by decide), if_neg (by decide), if_pos q] at c
        exact absurd c (by decide)
      refine sg_105_4 (ck_i (nb (by omega)) (k_73 hp (fun _ => cd_f (by decide) (ck_i (nb (by omega)) (k_78 hm hp hx (fun F1 h1 => ck_i (nb (by omega)) (c_79t (t := 22) rfl (by decide) (by decide) (by decide) (MP_X hm h1) (cd_f c1 (hk F1 h1))))))) (fun b => absurd h b)))
  · intro g o x y z h hg c s1 s2 i1 i2 hg' hx hl ho
    have sb := pSp_b (t := t) (n := n) (n - x.1.1).toNat x.1.1 (by omega)
    have fs : pSp t n (pSp t n x.1.1) = pSp t n x.1.1 := pSp_f hx.2
    have bx : 0 ≤ pSp t n x.1.1 ∧ pSp t n x.1.1 ≤ n := ⟨by omega, sb.2⟩
    have jb := jop_p (t := t) hg (by omega) sb.2 c
    have jx : 0 ≤ jq t n g (pSp t n x.1.1) ∧ jq t n g (pSp t n x.1.1) ≤ n := ⟨by omega, jb.2⟩
    have hl' := hl h
    have my := GP_m s1 jx
    have l620 : y.1.2.1 = -1 → (y.2.length : Int) < 620 ∧ (y.2.length : Int) + 1 ≤ y.1.1 := fun q => by
      have m2 : jq t n g (pSp t n x.1.1) ≤ y.1.1 ∧ (y.2.length : Int) - x.2.length ≤ y.1.1 - jq t n g (pSp t n x.1.1) := (my.2 q).2
      omega
    have ej : 0 ≤ (emx y (jop g (pBy t n (pSp t n x.1.1)) (pWd t n (pSp t n x.1.1))) 0).1.1 ∧ (emx y (jop g (pBy t n (pSp t n x.1.1)) (pWd t n (pSp t n x.1.1))) 0).1.1 ≤ n := by rw [emx_1]; exact my.1
    have el : (emx y (jop g (pBy t n (pSp t n x.1.1)) (pWd t n (pSp t n x.1.1))) 0).1.2.1 = -1 → ((emx y (jop g (pBy t n (pSp t n x.1.1)) (pWd t n (pSp t n x.1.1))) 0).2.length : Int) ≤ (emx y (jop g (pBy t n (pSp t n x.1.1)) (pWd t n (pSp t n x.1.1))) 0).1.1 := fun q => by
      have l := emx_l (x := y) (op := jop g (pBy t n (pSp t n x.1.1)) (pWd t n (pSp t n x.1.1))) (v := 0)
      rw [emx_1] at q ⊢
      have := l620 q
      omega
    refine ⟨fun z => absurd z (by omega), fun _ d Q S F G hd hp hk => ?_⟩
    rcases hg with e | e | e | e <;> subst e
    · have hd : rdw 11 o ≤ d := hd
      rw [r11] at hd
      have body : ∀ (op : Int) (F1 : FI), MP F0 F1 (pAt x.1 (pSp t n x.1.1), x.2) o → jop 1 (pBy t n (pSp t n x.1.1)) (pWd t n (pSp t n x.1.1)) = op → ∀ kk : FS → FI → FJ → Prop, (∀ F3, MP F0 F3 y o → calV 1 97 [.inr (.inr (.inl 97)), .inl op, .inl 0] (mm S F3 G) (fun S5 F5 G5 => wph d 101 4 [.inr (.inr (.inl 97))] [] (mm S5 F5 G5) (0, 0) Q) nof → kk S F3 G) → calV (d - 1) 100 [.inr (.inr (.inl 97))] (mm S (u2 F1 97 4 (wr ((F1 97 4) + 1))) G) kk nof := by
        intro op F1 h1 ej' kk hkk
        rw [h1.2.2.1.1, wr_id (by show -2147483648 ≤ pSp t n x.1.1 + 1; omega) (by show pSp t n x.1.1 + 1 < 2147483648; omega)]
        refine (i1 (by unfold tagG; decide) jx (fun _ => by show (x.2.length : Int) ≤ jq t n 1 (pSp t n x.1.1); omega) ho).1 (by decide) (d - 1) kk S _ G (by show rdw 0 o ≤ _; rw [r0]; omega) (MP_4 (x := (pAt x.1 (pSp t n x.1.1), x.2)) h1 :) (fun F3 h3 => hkk F3 h3 ?_)
        refine k_97 h3 (fun q => (l620 q).1) (fun F4 h4 => ?_)
        rw [ej'] at i2 ej el
        exact (i2 (by unfold tagG; decide) ej el ⟨ho.1, fun _ => ho.2 h⟩).2 (by decide) d Q S F4 G (by show rdw 11 o ≤ _; rw [r11]; omega) h4 hk
      refine sg_101_4 (ck_i (nb (by omega)) (k_73 hp (fun _ => cd_f (by decide) (ck_i (nb (by omega)) (k_75 hm hp hx (fun F1 h1 => ?_)))) (fun b => absurd h b)))
      refine cn_i (fun z => ck_i (nb (by omega)) (k_75f hm h1 bx fs (fun F2 h2 => ck_i (nb (by omega)) ?_))) (fun z => ck_i (nb (by omega)) (k_75f hm h1 bx fs (fun F2 h2 => ?_)))
      · exact body 4 F2 h2 (by rw [z]; rfl) _ (fun F3 _ q => cd_t z (ck_i (nb (by omega)) q))
      · refine cn_i (fun z2 => ck_i (nb (by omega)) (k_75f hm h2 bx fs (fun F3 h3 => ck_i (nb (by omega)) ?_))) (fun z2 => ?_)
        · exact body 5 F3 h3 (by rw [show pBy t n (pSp t n x.1.1) = 47 from z2]; rfl) _ (fun F4 _ q => cd_f z (ck_i (nb (by omega)) q))
        · exfalso
          unfold jop at c
          rw [if_pos rfl, if_neg z, if_neg (show pBy t n (pSp t n x.1.1) ≠ 47 from z2)] at c
          exact c rfl
    · have hd : rdw 12 o ≤ d := hd
      rw [r12] at hd
      have body : ∀ (op : Int) (F1 : FI), MP F0 F1 (pAt x.1 (pSp t n x.1.1), x.2) o → jop 2 (pBy t n (pSp t n x.1.1)) (pWd t n (pSp t n x.1.1)) = op → ∀ kk : FS → FI → FJ → Prop, (∀ F3, MP F0 F3 y o → calV 1 97 [.inr (.inr (.inl 97)), .inl op, .inl 0] (mm S F3 G) (fun S5 F5 G5 => wph d 102 4 [.inr (.inr (.inl 97))] [] (mm S5 F5 G5) (0, 0) Q) nof → kk S F3 G) → calV (d - 1) 101 [.inr (.inr (.inl 97))] (mm S (u2 F1 97 4 (wr ((F1 97 4) + 1))) G) kk nof := by
        intro op F1 h1 ej' kk hkk
        rw [h1.2.2.1.1, wr_id (by show -2147483648 ≤ pSp t n x.1.1 + 1; omega) (by show pSp t n x.1.1 + 1 < 2147483648; omega)]
        refine (i1 (by unfold tagG; decide) jx (fun _ => by show (x.2.length : Int) ≤ jq t n 2 (pSp t n x.1.1); omega) ho).1 (by decide) (d - 1) kk S _ G (by show rdw 1 o ≤ _; rw [r1]; omega) (MP_4 (x := (pAt x.1 (pSp t n x.1.1), x.2)) h1 :) (fun F3 h3 => hkk F3 h3 ?_)
        refine k_97 h3 (fun q => (l620 q).1) (fun F4 h4 => ?_)
        rw [ej'] at i2 ej el
        exact (i2 (by unfold tagG; decide) ej el ⟨ho.1, fun _ => ho.2 h⟩).2 (by decide) d Q S F4 G (by show rdw 12 o ≤ _; rw [r12]; omega) h4 hk
      refine sg_102_4 (ck_i (nb (by omega)) (k_73 hp (fun _ => cd_f (by decide) (ck_i (nb (by omega)) (k_75 hm hp hx (fun F1 h1 => ?_)))) (fun b => absurd h b)))
      refine cn_i (fun z => ck_i (nb (by omega)) (k_75f hm h1 bx fs (fun F2 h2 => ck_i (nb (by omega)) ?_))) (fun z => ck_i (nb (by omega)) (k_75f hm h1 bx fs (fun F2 h2 => ?_)))
      · exact body 2 F2 h2 (by rw [z]; rfl) _ (fun F3 _ q => cd_t z (ck_i (nb (by omega)) q))
      · refine cn_i (fun z2 => ck_i (nb (by omega)) (k_75f hm h2 bx fs (fun F3 h3 => ck_i (nb (by omega)) ?_))) (fun z2 => ?_)
        · exact body 3 F3 h3 (by rw [show pBy t n (pSp t n x.1.1) = 45 from z2]; rfl) _ (fun F4 _ q => cd_f z (ck_i (nb (by omega)) q))
        · exfalso
          unfold jop at c
          rw [if_neg (by decide), if_pos rfl, if_neg z, if_neg (show pBy t n (pSp t n x.1.1) ≠ 45 from z2)] at c
          exact c rfl
    · have hd : rdw 14 o ≤ d := hd
      rw [r14] at hd
      have w : pWd t n (pSp t n x.1.1) = tC 21 := by
        apply Classical.byContradiction
        intro q
        unfold jop at c
        rw [if_neg (by decide), if_neg (by decide), if_pos rfl, if_neg q] at c
        exact c rfl
      have ej' : jop 4 (pBy t n (pSp t n x.1.1)) (pWd t n (pSp t n x.1.1)) = 10 := by
        unfold jop
        rw [if_neg (by decide), if_neg (by decide), if_pos rfl, if_pos w]
      rw [ej'] at i2 ej el
      refine sg_104_4 (ck_i (nb (by omega)) (k_73 hp (fun _ => cd_f (by decide) (ck_i (nb (by omega)) (k_78 hm hp hx (fun F1 h1 => ck_i (nb (by omega)) (c_79t (t := 21) rfl (by decide) (by decide) (by decide) (MP_X hm h1) (cd_t w (ck_i (nb (by omega)) (k_80 hm h1 bx (fun F2 h2 => ck_i (nb (by omega)) ?_))))))))) (fun b => absurd h b)))
      refine (i1 (by unfold tagG; decide) jx (fun _ => by show (x.2.length : Int) ≤ jq t n 4 (pSp t n x.1.1); omega) ho).1 (by decide) (d - 1) _ S _ G (by show rdw 3 o ≤ _; rw [r3]; omega) h2 (fun F3 h3 => ck_i (nb (by omega)) ?_)
      refine k_97 h3 (fun q => (l620 q).1) (fun F4 h4 => ?_)
      exact (i2 (by unfold tagG; decide) ej el ⟨ho.1, fun _ => ho.2 h⟩).2 (by decide) d Q S F4 G (by show rdw 14 o ≤ _; rw [r14]; omega) h4 hk
    · have hd : rdw 15 o ≤ d := hd
      rw [r15] at hd
      have w : pWd t n (pSp t n x.1.1) = tC 22 := by
        apply Classical.byContradiction
        intro q
        unfold jop at c
        rw [if_neg (by decide), if_neg (by decide), if_neg (by decide), if_neg q] at c
        exact c rfl
      have ej' : jop 5 (pBy t n (pSp t n x.1.1)) (pWd t n (pSp t n x.1.1)) = 11 := by
        unfold jop
        rw [if_neg (by decide), if_neg (by decide), if_neg (by decide), if_pos w]
      rw [ej'] at i2 ej el
      refine sg_105_4 (ck_i (nb (by omega)) (k_73 hp (fun _ => cd_f (by decide) (ck_i (nb (by omega)) (k_78 hm hp hx (fun F1 h1 => ck_i (nb (by omega)) (c_79t (t := 22) rfl (by decide) (by decide) (by decide) (MP_X hm h1) (cd_t w (ck_i (nb (by omega)) (k_80 hm h1 bx (fun F2 h2 => ck_i (nb (by omega)) ?_))))))))) (fun b => absurd h b)))
      refine (i1 (by unfold tagG; decide) jx (fun _ => by show (x.2.length : Int) ≤ jq t n 5 (pSp t n x.1.1); omega) ho).1 (by decide) (d - 1) _ S _ G (by show rdw 4 o ≤ _; rw [r4]; omega) h2 (fun F3 h3 => ck_i (nb (by omega)) ?_)
      refine k_97 h3 (fun q => (l620 q).1) (fun F4 h4 => ?_)
      exact (i2 (by unfold tagG; decide) ej el ⟨ho.1, fun _ => ho.2 h⟩).2 (by decide) d Q S F4 G (by show rdw 15 o ≤ _; rw [r15]; omega) h4 hk
  · intro o x y h c s ih hg hx hl ho
    refine ⟨fun _ d k S F G hd hp hk => ?_, fun z => absurd (by decide) z⟩
    rw [r3] at hd
    have sb := pSp_b (t := t) (n := n) (n - x.1.1).toNat x.1.1 (by omega)
    have lt := pBy_n c (by decide)
    have ob := opn_p (p := pAt x.1 (pSp t n x.1.1)) (k := 1) (o := o) (n := n) h (by show 0 ≤ pSp t n x.1.1; omega) (by show pSp t n x.1.1 + 1 ≤ n; omega) (by decide)
    have my := (GP_m s ob.1).1
    refine sg_103_0 (ck_i (nb (by omega)) (k_73 hp (fun _ => cd_f (by decide) (ck_i (nb (by omega)) (k_75 hm hp hx (fun F1 h1 => cd_t c ?_)))) (fun b => absurd h b)))
    refine ref_open ih (by decide) h hx hl ho ⟨by decide, by omega⟩ hn (by decide) (by omega) (by rw [r5]; omega) h1 (fun F2 h2 => ck_i (nb (by omega)) (k_82 (by decide) hm h2 my (fun F3 h3 => ⟨_, _, _, rfl, ?_⟩)))
    show k S (u2 F3 97 7 (wr (F3 97 7 - 1))) G
    rw [h3.2.2.2.1, wr_id (by omega) (by omega), show o + 1 - 1 = o by omega]
    exact hk _ (MP_7 h3)
  · intro o x y h c w s ih hg hx hl ho
    refine ⟨fun _ d k S F G hd hp hk => ?_, fun z => absurd (by decide) z⟩
    rw [r3] at hd
    have sb := pSp_b (t := t) (n := n) (n - x.1.1).toNat x.1.1 (by omega)
    have fs : pSp t n (pSp t n x.1.1) = pSp t n x.1.1 := pSp_f hx.2
    have bx : 0 ≤ pSp t n x.1.1 ∧ pSp t n x.1.1 ≤ n := ⟨by omega, sb.2⟩
    have n3' := not3 (t := t) (n := n) (b := pSp t n x.1.1) (by omega) sb.2 w
    have lb := pLe_b (t := t) (n := n) (n - pSp t n x.1.1).toNat (pSp t n x.1.1) (by omega)
    have ob := opn_p (p := pAt x.1 (pSp t n x.1.1)) (k := 3) (o := o) (n := n) h (by show 0 ≤ pSp t n x.1.1; omega) (by show pSp t n x.1.1 + 3 ≤ n; omega) (by decide)
    have hl' := hl h
    have l620 : y.1.2.1 = -1 → (y.2.length : Int) < 620 := fun q => by
      have m := GP_m s ob.1
      have m2 : (opn (pAt x.1 (pSp t n x.1.1)) 3 o).1 ≤ y.1.1 ∧ (y.2.length : Int) - x.2.length ≤ y.1.1 - (opn (pAt x.1 (pSp t n x.1.1)) 3 o).1 := (m.2 q).2
      have m3 : (opn (pAt x.1 (pSp t n x.1.1)) 3 o).1 = pSp t n x.1.1 + 3 := (ob.2 (m.2 q).1).1
      omega
    refine sg_103_0 (ck_i (nb (by omega)) (k_73 hp (fun _ => cd_f (by decide) (ck_i (nb (by omega)) (k_75 hm hp hx (fun F1 h1 => cd_f c (ck_i (nb (by omega)) (k_78f hm h1 bx fs (fun F2 h2 => ck_i (nb (by omega)) (c_79t (t := 20) rfl (by decide) (by decide) (by decide) (MP_X hm h2) (cd_t w ?_))))))))) (fun b => absurd h b)))
    refine ref_open ih (by decide) h hx hl ho ⟨by decide, by omega⟩ hn (by decide) (by omega) (by rw [r3]; omega) h2 (fun F3 h3 => ck_i (nb (by omega)) ?_)
    rw [h3.2.2.2.1, wr_id (by omega) (by omega), show o + 1 - 1 = o by omega]
    exact k_97 (MP_7 h3) l620 (fun F4 h4 => ⟨_, _, _, rfl, hk F4 h4⟩)
  · intro o x y h c w s f ih hg hx hl ho
    refine ⟨fun _ d k S F G hd hp hk => ?_, fun z => absurd (by decide) z⟩
    rw [r3] at hd
    have sb := pSp_b (t := t) (n := n) (n - x.1.1).toNat x.1.1 (by omega)
    have fs : pSp t n (pSp t n x.1.1) = pSp t n x.1.1 := pSp_f hx.2
    have bx : 0 ≤ pSp t n x.1.1 ∧ pSp t n x.1.1 ≤ n := ⟨by omega, sb.2⟩
    have hl' := hl h
    refine sg_103_0 (ck_i (nb (by omega)) (k_73 hp (fun _ => cd_f (by decide) (ck_i (nb (by omega)) (k_75 hm hp hx (fun F1 h1 => cd_f c (ck_i (nb (by omega)) (k_78f hm h1 bx fs (fun F2 h2 => ck_i (nb (by omega)) (c_79t (t := 20) rfl (by decide) (by decide) (by decide) (MP_X hm h2) (cd_f w (ck_i (nb (by omega)) ?_)))))))))) (fun b => absurd h b)))
    refine (ih (by unfold tagG; decide) bx (fun _ => by show (x.2.length : Int) ≤ pSp t n x.1.1; omega) ho).1 (by decide) (d - 1) _ S F2 G (by rw [r2]; omega) h2 (fun F3 h3 => ck_i (nb (by omega)) ?_)
    exact k_73 h3 (fun b => absurd b f) (fun _ => cd_t rfl ⟨_, _, _, rfl, hk F3 h3⟩)
  · intro o x y h c w s f e ih hg hx hl ho
    refine ⟨fun _ d k S F G hd hp hk => ?_, fun z => absurd (by decide) z⟩
    rw [r3] at hd
    have sb := pSp_b (t := t) (n := n) (n - x.1.1).toNat x.1.1 (by omega)
    have fs : pSp t n (pSp t n x.1.1) = pSp t n x.1.1 := pSp_f hx.2
    have bx : 0 ≤ pSp t n x.1.1 ∧ pSp t n x.1.1 ≤ n := ⟨by omega, sb.2⟩
    have hl' := hl h
    have my := (GP_m s bx).1
    have z1 : pBy t n (pSp t n y.1.1) ≠ 60 := fun q => by rw [q] at e; exact absurd e (by decide)
    have z2 : pBy t n (pSp t n y.1.1) ≠ 62 := fun q => by rw [q] at e; exact absurd e (by decide)
    have z3 : pBy t n (pSp t n y.1.1) ≠ 61 := fun q => by rw [q] at e; exact absurd e (by decide)
    refine sg_103_0 (ck_i (nb (by omega)) (k_73 hp (fun _ => cd_f (by decide) (ck_i (nb (by omega)) (k_75 hm hp hx (fun F1 h1 => cd_f c (ck_i (nb (by omega)) (k_78f hm h1 bx fs (fun F2 h2 => ck_i (nb (by omega)) (c_79t (t := 20) rfl (by decide) (by decide) (by decide) (MP_X hm h2) (cd_f w (ck_i (nb (by omega)) ?_)))))))))) (fun b => absurd h b)))
    refine (ih (by unfold tagG; decide) bx (fun _ => by show (x.2.length : Int) ≤ pSp t n x.1.1; omega) ho).1 (by decide) (d - 1) _ S F2 G (by rw [r2]; omega) h2 (fun F3 h3 => ck_i (nb (by omega)) ?_)
    refine k_73 h3 (fun _ => cd_f (by decide) (ck_i (nb (by omega)) (k_75 hm h3 my (fun F4 h4 => cd_f z1 (cd_f z2 (cd_f z3 (ck_i (nb (by omega)) ?_))))))) (fun b => absurd f b)
    rw [h4.2.2.1.1]
    exact k_74 h4 (fun F5 h5 => ⟨_, _, _, rfl, hk F5 h5⟩)
  · intro o x y z h c w s f e s2 ih i2 hg hx hl ho
    refine ⟨fun _ d k S F G hd hp hk => ?_, fun z => absurd (by decide) z⟩
    rw [r3] at hd
    have sb := pSp_b (t := t) (n := n) (n - x.1.1).toNat x.1.1 (by omega)
    have fs : pSp t n (pSp t n x.1.1) = pSp t n x.1.1 := pSp_f hx.2
    have bx : 0 ≤ pSp t n x.1.1 ∧ pSp t n x.1.1 ≤ n := ⟨by omega, sb.2⟩
    have hl' := hl h
    have m := GP_m s bx
    have my := m.1
    have m2 : pSp t n x.1.1 ≤ y.1.1 ∧ (y.2.length : Int) - x.2.length ≤ y.1.1 - pSp t n x.1.1 := (m.2 f).2
    have sy := pSp_b (t := t) (n := n) (n - y.1.1).toNat y.1.1 (by omega)
    have lt := cop_p e
    have by' : 0 ≤ pSp t n y.1.1 + 1 ∧ pSp t n y.1.1 + 1 ≤ n := ⟨by omega, by omega⟩
    have l620 : z.1.2.1 = -1 → (z.2.length : Int) < 620 := fun q => by
      have m3 := GP_m s2 by'
      have m4 : pSp t n y.1.1 + 1 ≤ z.1.1 ∧ (z.2.length : Int) - y.2.length ≤ z.1.1 - (pSp t n y.1.1 + 1) := (m3.2 q).2
      have := m3.1
      omega
    have body : ∀ (op : Int) (F4 : FI), MP F0 F4 (pAt y.1 (pSp t n y.1.1), y.2) o → cop (pBy t n (pSp t n y.1.1)) = op → ∀ kk : FS → FI → FJ → Prop, (∀ F5, MP F0 F5 z o → calV 1 97 [.inr (.inr (.inl 97)), .inl op, .inl 0] (mm S F5 G) (fun S' F' G' => ∃ S2 F2 G2, mm S' F' G' = mm S2 F2 G2 ∧ k S2 F2 G2) nof → kk S F5 G) → calV (d - 1) 102 [.inr (.inr (.inl 97))] (mm S (u2 F4 97 4 (wr ((F4 97 4) + 1))) G) kk nof := by
      intro op F4 h4 ej' kk hkk
      rw [h4.2.2.1.1, wr_id (by show -2147483648 ≤ pSp t n y.1.1 + 1; omega) (by show pSp t n y.1.1 + 1 < 2147483648; omega)]
      refine (i2 (by unfold tagG; decide) by' (fun _ => by show (y.2.length : Int) ≤ pSp t n y.1.1 + 1; omega) ⟨ho.1, fun _ => ho.2 h⟩).1 (by decide) (d - 1) kk S _ G (by rw [r2]; omega) (MP_4 (x := (pAt y.1 (pSp t n y.1.1), y.2)) h4 :) (fun F5 h5 => hkk F5 h5 ?_)
      rw [ej'] at hk
      exact k_97 h5 l620 (fun F6 h6 => ⟨_, _, _, rfl, hk F6 h6⟩)
    refine sg_103_0 (ck_i (nb (by omega)) (k_73 hp (fun _ => cd_f (by decide) (ck_i (nb (by omega)) (k_75 hm hp hx (fun F1 h1 => cd_f c (ck_i (nb (by omega)) (k_78f hm h1 bx fs (fun F2 h2 => ck_i (nb (by omega)) (c_79t (t := 20) rfl (by decide) (by decide) (by decide) (MP_X hm h2) (cd_f w (ck_i (nb (by omega)) ?_)))))))))) (fun b => absurd h b)))
    refine (ih (by unfold tagG; decide) bx (fun _ => by show (x.2.length : Int) ≤ pSp t n x.1.1; omega) ho).1 (by decide) (d - 1) _ S F2 G (by rw [r2]; omega) h2 (fun F3 h3 => ck_i (nb (by omega)) ?_)
    refine k_73 h3 (fun _ => cd_f (by decide) (ck_i (nb (by omega)) (k_75 hm h3 my (fun F4 h4 => ?_)))) (fun b => absurd f b)
    refine cn_i (fun z1 => ck_i (nb (by omega)) ?_) (fun z1 => cn_i (fun z2 => ck_i (nb (by omega)) ?_) (fun z2 => cn_i (fun z3 => ck_i (nb (by omega)) ?_) (fun z3 => ?_)))
    · exact body 6 F4 h4 (by rw [z1]; rfl) _ (fun F5 _ q => cd_t z1 (ck_i (nb (by omega)) q))
    · exact body 7 F4 h4 (by rw [z2]; rfl) _ (fun F5 _ q => cd_f z1 (cd_t z2 (ck_i (nb (by omega)) q)))
    · exact body 8 F4 h4 (by rw [z3]; rfl) _ (fun F5 _ q => cd_f z1 (cd_f z2 (ck_i (nb (by omega)) q)))
    · exfalso
      unfold cop at e
      rw [if_neg z1, if_neg z2, if_neg z3] at e
      exact e rfl
