/-! ===== the class: images, plain calls ===== -/
set_option maxRecDepth 100000 in
theorem cp_73_31 {S : FS} {F : FI} {G : FJ} {Q : Rs → Mm → Prop} (h : Q (.inl none) (mm S (u2 (u2 (u2 (u2 (c2 (c2 (c2 (c2 (c2 (c2 (c2 F 32 0 74 0 5) 33 0 75 0 24) 34 0 76 0 24) 35 0 77 0 24) 36 0 78 0 25) 37 0 79 0 25) 38 0 80 0 25) 73 7 (F 31 7)) 73 8 (F 31 8)) 73 9 (F 31 9)) 73 10 (F 31 10)) G)) : cal 0 243 [.inr (.inr (.inl 73)), .inr (.inr (.inl 31))] (mm S F G) Q := sxc [] 2000 h
set_option maxRecDepth 100000 in
theorem cp_31_73 {S : FS} {F : FI} {G : FJ} {Q : Rs → Mm → Prop} (h : Q (.inl none) (mm S (u2 (u2 (u2 (u2 (c2 (c2 (c2 (c2 (c2 (c2 (c2 F 74 0 32 0 5) 75 0 33 0 24) 76 0 34 0 24) 77 0 35 0 24) 78 0 36 0 25) 79 0 37 0 25) 80 0 38 0 25) 31 7 (F 73 7)) 31 8 (F 73 8)) 31 9 (F 73 9)) 31 10 (F 73 10)) G)) : cal 0 243 [.inr (.inr (.inl 31)), .inr (.inr (.inl 73))] (mm S F G) Q := sxc [] 2000 h
set_option maxRecDepth 100000 in
theorem cp_81_31 {S : FS} {F : FI} {G : FJ} {Q : Rs → Mm → Prop} (h : Q (.inl none) (mm S (u2 (u2 (u2 (u2 (c2 (c2 (c2 (c2 (c2 (c2 (c2 F 32 0 82 0 5) 33 0 83 0 24) 34 0 84 0 24) 35 0 85 0 24) 36 0 86 0 25) 37 0 87 0 25) 38 0 88 0 25) 81 7 (F 31 7)) 81 8 (F 31 8)) 81 9 (F 31 9)) 81 10 (F 31 10)) G)) : cal 0 243 [.inr (.inr (.inl 81)), .inr (.inr (.inl 31))] (mm S F G) Q := sxc [] 2000 h
set_option maxRecDepth 100000 in
theorem cp_31_81 {S : FS} {F : FI} {G : FJ} {Q : Rs → Mm → Prop} (h : Q (.inl none) (mm S (u2 (u2 (u2 (u2 (c2 (c2 (c2 (c2 (c2 (c2 (c2 F 82 0 32 0 5) 83 0 33 0 24) 84 0 34 0 24) 85 0 35 0 24) 86 0 36 0 25) 87 0 37 0 25) 88 0 38 0 25) 31 7 (F 81 7)) 31 8 (F 81 8)) 31 9 (F 81 9)) 31 10 (F 81 10)) G)) : cal 0 243 [.inr (.inr (.inl 31)), .inr (.inr (.inl 81))] (mm S F G) Q := sxc [] 2000 h
set_option maxRecDepth 100000 in
theorem cp_89_31 {S : FS} {F : FI} {G : FJ} {Q : Rs → Mm → Prop} (h : Q (.inl none) (mm S (u2 (u2 (u2 (u2 (c2 (c2 (c2 (c2 (c2 (c2 (c2 F 32 0 90 0 5) 33 0 91 0 24) 34 0 92 0 24) 35 0 93 0 24) 36 0 94 0 25) 37 0 95 0 25) 38 0 96 0 25) 89 7 (F 31 7)) 89 8 (F 31 8)) 89 9 (F 31 9)) 89 10 (F 31 10)) G)) : cal 0 243 [.inr (.inr (.inl 89)), .inr (.inr (.inl 31))] (mm S F G) Q := sxc [] 2000 h
set_option maxRecDepth 100000 in
theorem cp_31_89 {S : FS} {F : FI} {G : FJ} {Q : Rs → Mm → Prop} (h : Q (.inl none) (mm S (u2 (u2 (u2 (u2 (c2 (c2 (c2 (c2 (c2 (c2 (c2 F 90 0 32 0 5) 91 0 33 0 24) 92 0 34 0 24) 93 0 35 0 24) 94 0 36 0 25) 95 0 37 0 25) 96 0 38 0 25) 31 7 (F 89 7)) 31 8 (F 89 8)) 31 9 (F 89 9)) 31 10 (F 89 10)) G)) : cal 0 243 [.inr (.inr (.inl 31)), .inr (.inr (.inl 89))] (mm S F G) Q := sxc [] 2000 h
theorem p_4 {k : Int → FS → FI → FJ → Prop} {kx : Nat → FS → FI → FJ → Prop} {S : FS} {F : FI} {G : FJ} (ok : k (F 2 8) S F G) : calI 0 4 [.inr (.inr (.inl 1))] (mm S F G) k kx := sg_4_0 ⟨_, _, _, rfl, ok⟩
theorem l_205 {Q : Rs → Mm → Prop} {a : Nat} {x1 x2 x3 : Int} {f : Nat → Int} {S : FS} {F : FI} {G : FJ} (ha : oL a) (h1 : x1 ≤ 24) (hf : ∀ h : Nat, (h : Int) < x1 → F (a + 5) h = f h ∧ 0 ≤ f h ∧ f h ≤ 1) (h3 : 0 ≤ x3) (h3' : x3 ≤ x1) (e2 : x2 = aS f x3.toNat) (b1 : 0 ≤ x2) (b2 : x2 ≤ x3)
    (hk : Q (.inl (some (.inl (aS f x1.toNat)))) (mm S F G)) : wph 0 205 4 [.inr (.inr (.inl a)), .inl x1, .inl x2, .inl x3] [] (mm S F G) (0, 0) Q := by
  refine sg_205_4 (cn_i (fun z => ?_) (fun z => ?_))
  · obtain ⟨X, rfl⟩ := Int.eq_ofNat_of_zero_le h3
    have e := hf X (by omega)
    have tx : ((X : Int)).toNat = X := by omega
    simp only [lk ha, lk1 ha, lk2 ha, lk3 ha, lk4 ha, lk5 ha, lk6 ha, lk7 ha, lk8 ha, lk9 ha, lr0 ha, lr1 ha, lr2 ha, lr3 ha, lr4 ha, lr5 ha, lr6 ha, lr7 ha, lr8 ha, tx]
    rw [e.1]
    rw [wr_id (a := x2 + f X) (by omega) (by omega), wr_id (a := (X : Int) + 1) (by omega) (by omega)]
    refine ck_i rfl (ck_i rfl (ck_i (jb_i (by omega) (by omega)) (l_205 ha h1 hf (by omega) (by omega) ?_ (by omega) (by omega) hk)))
    rw [e2, tx, show ((X : Int) + 1).toNat = X + 1 by omega]
    rfl
  · rw [e2, show x3 = x1 by omega]
    exact hk
termination_by (x1 - x3).toNat
decreasing_by omega
theorem c_205 {k : Int → FS → FI → FJ → Prop} {a : Nat} {x1 : Int} {f : Nat → Int} {S : FS} {F : FI} {G : FJ} (ha : oL a) (h0 : 0 ≤ x1) (h1 : x1 ≤ 24) (hf : ∀ h : Nat, (h : Int) < x1 → F (a + 5) h = f h ∧ 0 ≤ f h ∧ f h ≤ 1) (hk : k (aS f x1.toNat) S F G) : calI 0 205 [.inr (.inr (.inl a)), .inl x1] (mm S F G) k nof :=
  sg_205_0 (l_205 ha h1 hf (by omega) h0 rfl (by omega) (by omega) ⟨_, _, _, rfl, hk⟩)
theorem p_5 {k : Int → FS → FI → FJ → Prop} {kx : Nat → FS → FI → FJ → Prop} {a b : Nat} {x1 : Int} {f : Nat → Int} {S : FS} {F : FI} {G : FJ} (ha : oL a) (hb : oW b) (hS : S 1 0 = a) (hS2 : S 1 2 = b) (h0 : 0 ≤ F a 12) (h1 : F a 12 ≤ 24) (hf : ∀ h : Nat, (h : Int) < F a 12 → F (a + 5) h = f h ∧ 0 ≤ f h ∧ f h ≤ 1) (noA : ¬ (0 ≤ x1 ∧ x1 ≤ 8) → kx 2 S (rfc F 2) G)
    (ok : 0 ≤ x1 ∧ x1 ≤ 8 → k (if x1 = 8 then F b 5 else if x1 = 7 then aS f (F a 12).toNat else F a (9 + x1.toNat)) S F G) : calI 1 5 [.inr (.inr (.inl 1)), .inl x1] (mm S F G) k kx := by
  refine sg_5_0 (cn_i (fun z => c_55_0 (ex_2 ⟨_, _, _, rfl, noA (by omega)⟩)) (fun z => cn_i (fun z2 => c_55_0 (ex_2 ⟨_, _, _, rfl, noA (by omega)⟩)) (fun z2 => c_55_1 ?_)))
  have ok := ok (by omega)
  simp only [hS, hS2, lk ha, lk1 ha, lk2 ha, lk3 ha, lk4 ha, lk5 ha, lk6 ha, lk7 ha, lk8 ha, lk9 ha, lr0 ha, lr1 ha, lr2 ha, lr3 ha, lr4 ha, lr5 ha, lr6 ha, lr7 ha, lr8 ha, wk hb, wk1 hb, wk2 hb, wk3 hb, wk4 hb, wk5 hb, wr0 hb, wr1 hb, wr2 hb, wr3 hb, wr4 hb]
  refine cn_i (fun y => ?_) (fun y => cn_i (fun y => ?_) (fun y => cn_i (fun y => ?_) (fun y => cn_i (fun y => ?_) (fun y => cn_i (fun y => ?_) (fun y => cn_i (fun y => ?_) (fun y => cn_i (fun y => ?_) (fun y => cn_i (fun y => ?_) (fun y => ?_))))))))
  · subst y
    exact ck_i rfl ⟨_, _, _, rfl, ok⟩
  · subst y
    exact ck_i rfl ⟨_, _, _, rfl, ok⟩
  · subst y
    exact ck_i rfl ⟨_, _, _, rfl, ok⟩
  · subst y
    exact ck_i rfl ⟨_, _, _, rfl, ok⟩
  · subst y
    exact ck_i rfl ⟨_, _, _, rfl, ok⟩
  · subst y
    exact ck_i rfl ⟨_, _, _, rfl, ok⟩
  · subst y
    exact ck_i rfl ⟨_, _, _, rfl, ok⟩
  · subst y
    exact ck_i rfl (ck_i rfl (c_205 ha h0 h1 hf ⟨_, _, _, rfl, ok⟩))
  · rw [show x1 = 8 by omega] at ok
    exact ck_i rfl ⟨_, _, _, rfl, ok⟩
theorem p_6 {k : Int → FS → FI → FJ → Prop} {kx : Nat → FS → FI → FJ → Prop} {a : Nat} {x1 x2 : Int} {S : FS} {F : FI} {G : FJ} (ha : oL a) (hS : S 1 0 = a) (h10 : F a 10 ≤ 24) (noE : ¬ (0 ≤ x1 ∧ x1 < F a 10) → kx 1 S (rfc F 1) G) (noA : 0 ≤ x1 ∧ x1 < F a 10 → ¬ (0 ≤ x2 ∧ x2 < 24) → kx 2 S (rfc F 2) G)
    (ok : 0 ≤ x1 ∧ x1 < F a 10 → 0 ≤ x2 ∧ x2 < 24 → k (F (a + 4) (x1 * 24 + x2).toNat) S F G) : calI 1 6 [.inr (.inr (.inl 1)), .inl x1, .inl x2] (mm S F G) k kx := by
  refine sg_6_0 (cn_i (fun z => c_54_0 (ex_1 ⟨_, _, _, rfl, noE (by omega)⟩)) (fun z => ?_))
  simp only [hS, lk ha, lk1 ha, lk2 ha, lk3 ha, lk4 ha, lk5 ha, lk6 ha, lk7 ha, lk8 ha, lk9 ha, lr0 ha, lr1 ha, lr2 ha, lr3 ha, lr4 ha, lr5 ha, lr6 ha, lr7 ha, lr8 ha]
  refine ck_i rfl (cn_i (fun z2 => c_54_1 ?_) (fun z2 => c_54_0 (ex_1 ⟨_, _, _, rfl, noE (by omega)⟩)))
  refine c_57 (fun y => c_55_1 ?_) (fun y => c_55_0 (ex_2 ⟨_, _, _, rfl, noA (by omega) y⟩))
  simp only [hS, lk ha, lk1 ha, lk2 ha, lk3 ha, lk4 ha, lk5 ha, lk6 ha, lk7 ha, lk8 ha, lk9 ha, lr0 ha, lr1 ha, lr2 ha, lr3 ha, lr4 ha, lr5 ha, lr6 ha, lr7 ha, lr8 ha]
  refine ck_i rfl (sg_206_0 ?_)
  simp only [lk ha, lk1 ha, lk2 ha, lk3 ha, lk4 ha, lk5 ha, lk6 ha, lk7 ha, lk8 ha, lk9 ha, lr0 ha, lr1 ha, lr2 ha, lr3 ha, lr4 ha, lr5 ha, lr6 ha, lr7 ha, lr8 ha]
  rw [wr_id (a := x1 * 24) (by omega) (by omega), wr_id (by omega) (by omega)]
  exact ck_i rfl (ck_i rfl (ck_i (jb_i (by omega) (by omega)) ⟨_, _, _, rfl, _, _, _, rfl, ok (by omega) y⟩))
theorem p_7 {k : Int → FS → FI → FJ → Prop} {kx : Nat → FS → FI → FJ → Prop} {a : Nat} {x1 x2 : Int} {S : FS} {F : FI} {G : FJ} (ha : oL a) (hS : S 1 0 = a) (h11 : F a 11 ≤ 5) (h9 : F a 9 ≤ 12) (noP : ¬ (0 ≤ x1 ∧ x1 < F a 11) → kx 0 S (rfc F 0) G) (noA : 0 ≤ x1 ∧ x1 < F a 11 → ¬ (-1 ≤ x2 ∧ x2 < F a 9) → kx 2 S (rfc F 2) G)
    (ok : 0 ≤ x1 ∧ x1 < F a 11 → -1 ≤ x2 ∧ x2 < F a 9 → k (if x2 = -1 then F (a + 6) x1.toNat else F (a + 7) (x1 * 12 + x2).toNat) S F G) : calI 1 7 [.inr (.inr (.inl 1)), .inl x1, .inl x2] (mm S F G) k kx := by
  refine sg_7_0 (c_52 ha hS rfl (fun p => ?_) (fun p => ex_0 ⟨_, _, _, rfl, noP p⟩))
  refine cn_i (fun z => c_55_0 (ex_2 ⟨_, _, _, rfl, noA p (by omega)⟩)) (fun z => ?_)
  simp only [hS, lk ha, lk1 ha, lk2 ha, lk3 ha, lk4 ha, lk5 ha, lk6 ha, lk7 ha, lk8 ha, lk9 ha, lr0 ha, lr1 ha, lr2 ha, lr3 ha, lr4 ha, lr5 ha, lr6 ha, lr7 ha, lr8 ha]
  refine ck_i rfl (cn_i (fun z2 => c_55_1 ?_) (fun z2 => c_55_0 (ex_2 ⟨_, _, _, rfl, noA p (by omega)⟩)))
  have ok := ok p (by omega)
  simp only [hS, lk ha, lk1 ha, lk2 ha, lk3 ha, lk4 ha, lk5 ha, lk6 ha, lk7 ha, lk8 ha, lk9 ha, lr0 ha, lr1 ha, lr2 ha, lr3 ha, lr4 ha, lr5 ha, lr6 ha, lr7 ha, lr8 ha]
  refine cn_i (fun y => ?_) (fun y => ?_)
  · rw [if_pos y] at ok
    exact ck_i rfl (ck_i rfl (ck_i (jb_i (by omega) (by omega)) ⟨_, _, _, rfl, ok⟩))
  · rw [if_neg y] at ok
    rw [wr_id (a := x1 * 12) (by omega) (by omega), wr_id (by omega) (by omega)]
    exact ck_i rfl (ck_i rfl (ck_i (jb_i (by omega) (by omega)) ⟨_, _, _, rfl, ok⟩))
theorem p_8 {k : Int → FS → FI → FJ → Prop} {kx : Nat → FS → FI → FJ → Prop} {a : Nat} {x1 x2 : Int} {S : FS} {F : FI} {G : FJ} (ha : oL a) (hS : S 1 0 = a) (h11 : F a 11 ≤ 5) (noP : ¬ (0 ≤ x1 ∧ x1 < F a 11) → kx 0 S (rfc F 0) G) (noA : 0 ≤ x1 ∧ x1 < F a 11 → ¬ (0 ≤ x2 ∧ x2 ≤ 5) → kx 2 S (rfc F 2) G)
    (ok : 0 ≤ x1 ∧ x1 < F a 11 → 0 ≤ x2 ∧ x2 ≤ 5 → k (F 32 x1.toNat) S (u2 (u2 F 32 x1.toNat x2) 1 17 0) G) : calI 1 8 [.inr (.inr (.inl 1)), .inl x1, .inl x2] (mm S F G) k kx := by
  refine sg_8_0 (c_52 ha hS rfl (fun p => ?_) (fun p => ex_0 ⟨_, _, _, rfl, noP p⟩))
  exact cn_i (fun z => c_55_0 (ex_2 ⟨_, _, _, rfl, noA p (by omega)⟩)) (fun z => cn_i (fun z2 => c_55_0 (ex_2 ⟨_, _, _, rfl, noA p (by omega)⟩)) (fun z2 => c_55_1 (ck_i (jb_i (by omega) (by omega)) (ck_i (jb_i (by omega) (by omega)) ⟨_, _, _, rfl, ok p (by omega)⟩))))
theorem p_9 {k : Int → FS → FI → FJ → Prop} {kx : Nat → FS → FI → FJ → Prop} {a : Nat} {x1 x2 : Int} {S : FS} {F : FI} {G : FJ} (ha : oL a) (hS : S 1 0 = a) (noA : ¬ ((0 ≤ x1 ∧ x1 < 24) ∧ 0 ≤ x2 ∧ x2 ≤ F a 10) → kx 2 S (rfc F 2) G)
    (ok : (0 ≤ x1 ∧ x1 < 24) ∧ 0 ≤ x2 ∧ x2 ≤ F a 10 → k (F 33 x1.toNat) S (u2 (u2 F 33 x1.toNat x2) 1 17 0) G) : calI 1 9 [.inr (.inr (.inl 1)), .inl x1, .inl x2] (mm S F G) k kx := by
  refine sg_9_0 (c_57 (fun y => cd_f (by decide) (c_58 ha hS rfl (fun z => cd_f (by decide) (c_55_1 (ck_i (jb_i (by omega) (by omega)) (ck_i (jb_i (by omega) (by omega)) ⟨_, _, _, rfl, ok ⟨y, z⟩⟩)))) (fun z => cd_t rfl (c_55_0 (ex_2 ⟨_, _, _, rfl, noA (fun q => z q.2)⟩))))) (fun y => cd_t rfl (c_55_0 (ex_2 ⟨_, _, _, rfl, noA (fun q => y q.1)⟩))))
theorem p_10 {k : Int → FS → FI → FJ → Prop} {kx : Nat → FS → FI → FJ → Prop} {a : Nat} {x1 x2 : Int} {S : FS} {F : FI} {G : FJ} (ha : oL a) (hS : S 1 0 = a) (h0 : 0 ≤ F a 11) (noP : ¬ (-1 ≤ x2 ∧ x2 < F a 11) → kx 0 S (rfc F 0) G) (noA : -1 ≤ x2 ∧ x2 < F a 11 → ¬ (0 ≤ x1 ∧ x1 < 24) → kx 2 S (rfc F 2) G)
    (ok : -1 ≤ x2 ∧ x2 < F a 11 → 0 ≤ x1 ∧ x1 < 24 → k (F 34 x1.toNat) S (u2 (u2 F 34 x1.toNat x2) 1 17 0) G) : calI 2 10 [.inr (.inr (.inl 1)), .inl x1, .inl x2] (mm S F G) k kx := by
  refine sg_10_0 (c_53 ha hS rfl h0 (fun p => c_57 (fun y => c_55_1 (ck_i (jb_i (by omega) (by omega)) (ck_i (jb_i (by omega) (by omega)) ⟨_, _, _, rfl, ok p y⟩))) (fun y => c_55_0 (ex_2 ⟨_, _, _, rfl, noA p y⟩))) (fun p => ex_0 ⟨_, _, _, rfl, noP p⟩))
theorem p_11 {k : Int → FS → FI → FJ → Prop} {kx : Nat → FS → FI → FJ → Prop} {x1 : Int} {S : FS} {F : FI} {G : FJ} (noA : ¬ (1 ≤ x1 ∧ x1 ≤ 12) → kx 2 S (rfc F 2) G) (ok : 1 ≤ x1 ∧ x1 ≤ 12 → k (F 31 7) S (u2 (u2 F 31 7 x1) 1 17 0) G) : calI 1 11 [.inr (.inr (.inl 1)), .inl x1] (mm S F G) k kx :=
  sg_11_0 (cn_i (fun z => c_55_0 (ex_2 ⟨_, _, _, rfl, noA (by omega)⟩)) (fun z => cn_i (fun z2 => c_55_0 (ex_2 ⟨_, _, _, rfl, noA (by omega)⟩)) (fun z2 => c_55_1 ⟨_, _, _, rfl, ok (by omega)⟩)))
/-- where they were, as the class keeps it -/
def cWas (F : FI) (h w : Int) : Int := if F 31 9 < h then -1 else if w = 2 ∧ h = F 31 9 then -1 else F (if w = 0 then 36 else if w = 1 then 37 else 38) h.toNat
theorem p_20 {k : Int → FS → FI → FJ → Prop} {kx : Nat → FS → FI → FJ → Prop} {x1 x2 : Int} {S : FS} {F : FI} {G : FJ} (noA : ¬ ((0 ≤ x1 ∧ x1 ≤ 24) ∧ 0 ≤ x2 ∧ x2 ≤ 2) → kx 2 S (rfc F 2) G) (ok : (0 ≤ x1 ∧ x1 ≤ 24) ∧ 0 ≤ x2 ∧ x2 ≤ 2 → k (cWas F x1 x2) S F G) : calI 1 20 [.inr (.inr (.inl 1)), .inl x1, .inl x2] (mm S F G) k kx := by
  refine sg_20_0 (cn_i (fun z => c_55_0 (ex_2 ⟨_, _, _, rfl, noA (by omega)⟩)) (fun z => cn_i (fun z2 => c_55_0 (ex_2 ⟨_, _, _, rfl, noA (by omega)⟩)) (fun z2 => cn_i (fun z3 => c_55_0 (ex_2 ⟨_, _, _, rfl, noA (by omega)⟩)) (fun z3 => cn_i (fun z4 => c_55_0 (ex_2 ⟨_, _, _, rfl, noA (by omega)⟩)) (fun z4 => c_55_1 ?_)))))
  have ok := ok (by omega)
  unfold cWas at ok
  refine cn_i (fun y => ?_) (fun y => ?_)
  · rw [if_pos y] at ok
    exact ⟨_, _, _, rfl, ok⟩
  · rw [if_neg y] at ok
    refine cn_i (fun u => cn_i (fun v => ?_) (fun v => ?_)) (fun u => ?_)
    · rw [if_pos ⟨u, v⟩] at ok
      exact ⟨_, _, _, rfl, ok⟩
    · rw [if_neg (fun q => v q.2), if_neg (by omega), if_neg (by omega)] at ok
      exact cd_f (by omega) (cd_f (by omega) (ck_i (jb_i (by omega) (by omega)) ⟨_, _, _, rfl, ok⟩))
    · rw [if_neg (fun q => u q.1)] at ok
      refine cn_i (fun v => ?_) (fun v => ?_)
      · rw [if_pos v] at ok
        exact ck_i (jb_i (by omega) (by omega)) ⟨_, _, _, rfl, ok⟩
      · rw [if_neg v] at ok
        refine cn_i (fun v2 => ?_) (fun v2 => ?_)
        · rw [if_pos v2] at ok
          exact ck_i (jb_i (by omega) (by omega)) ⟨_, _, _, rfl, ok⟩
        · exact absurd (show x2 = 2 by omega) u
theorem p_21 {k : Int → FS → FI → FJ → Prop} {kx : Nat → FS → FI → FJ → Prop} {S : FS} {F : FI} {G : FJ} (ok : k (if F 31 9 = -1 then -1 else if F 31 10 = 3 then 0 else F 31 10) S F G) : calI 0 21 [.inr (.inr (.inl 1))] (mm S F G) k kx := by
  refine sg_21_0 (cn_i (fun z => ?_) (fun z => cn_i (fun y => ?_) (fun y => ?_)))
  · rw [if_pos z] at ok
    exact ⟨_, _, _, rfl, ok⟩
  · rw [if_neg z, if_pos y] at ok
    exact ⟨_, _, _, rfl, ok⟩
  · rw [if_neg z, if_neg y] at ok
    exact ⟨_, _, _, rfl, ok⟩
theorem p_22 {k : Int → FS → FI → FJ → Prop} {kx : Nat → FS → FI → FJ → Prop} {a : Nat} {x1 : Int} {S : FS} {F : FI} {G : FJ} (ha : oL a) (hS : S 1 0 = a) (h8 : 0 ≤ F 31 8) (noA : ¬ (0 ≤ x1 ∧ x1 ≤ F a 10) → kx 2 S (rfc F 2) G) (full : 0 ≤ x1 ∧ x1 ≤ F a 10 → 24 ≤ F 31 8 → k (-1) S F G)
    (ok : 0 ≤ x1 ∧ x1 ≤ F a 10 → F 31 8 < 24 → k (F 31 8 + 1) S (u2 (u2 F 35 (F 31 8).toNat x1) 31 8 (F 31 8 + 1)) G) : calI 1 22 [.inr (.inr (.inl 1)), .inl x1] (mm S F G) k kx := by
  refine sg_22_0 (c_58 ha hS rfl (fun z => c_55_1 (cn_i (fun y => ?_) (fun y => ⟨_, _, _, rfl, full z (by omega)⟩))) (fun z => c_55_0 (ex_2 ⟨_, _, _, rfl, noA z⟩)))
  rw [wr_id (a := F 31 8 + 1) (by omega) (by omega)]
  exact ck_i (jb_i h8 (by omega)) ⟨_, _, _, rfl, ok z y⟩
theorem p_23 {k : Int → FS → FI → FJ → Prop} {kx : Nat → FS → FI → FJ → Prop} {S : FS} {F : FI} {G : FJ} (ok : k (F 31 8) S (u2 F 31 8 0) G) : calI 0 23 [.inr (.inr (.inl 1))] (mm S F G) k kx := sg_23_0 ⟨_, _, _, rfl, ok⟩
theorem p_49 {k : Int → FS → FI → FJ → Prop} {kx : Nat → FS → FI → FJ → Prop} {x1 : Int} {S : FS} {F : FI} {G : FJ} (h1 : ¬ (0 ≤ x1 ∧ x1 ≤ 3) → k (-1) S F G) (ok : 0 ≤ x1 ∧ x1 ≤ 3 → k (F 40 x1.toNat) S F G) : calI 0 49 [.inr (.inr (.inl 1)), .inl x1] (mm S F G) k kx :=
  sg_49_0 (cn_i (fun z => ⟨_, _, _, rfl, h1 (by omega)⟩) (fun z => cn_i (fun y => ⟨_, _, _, rfl, h1 (by omega)⟩) (fun y => ck_i (jb_i (by omega) (by omega)) ⟨_, _, _, rfl, ok (by omega)⟩)))
theorem l_245 {Q : Rs → Mm → Prop} {e : Nat} {x1 x2 : Int} {S : FS} {F : FI} {G : FJ} (he : oP e) (h2 : 0 ≤ x2) (h2' : x2 ≤ 24) (e1 : x1 = aS (fun h => if F (e + 3) h = -1 then 0 else 1) x2.toNat) (b1 : 0 ≤ x1) (b2 : x1 ≤ x2) (hk : Q (.inl (some (.inl (aS (fun h => if F (e + 3) h = -1 then 0 else 1) 24)))) (mm S F G)) :
    wph 0 245 4 [.inr (.inr (.inl e)), .inl x1, .inl x2] [] (mm S F G) (0, 0) Q := by
  have hp := he
  refine sg_245_4 (cn_i (fun z => ?_) (fun z => ?_))
  · obtain ⟨X, rfl⟩ := Int.eq_ofNat_of_zero_le h2
    have tx : ((X : Int)).toNat = X := by omega
    have en : aS (fun h => if F (e + 3) h = -1 then 0 else 1) ((X : Int) + 1).toNat = x1 + if F (e + 3) X = -1 then 0 else 1 := by
      rw [e1, tx, show ((X : Int) + 1).toNat = X + 1 by omega]
      rfl
    simp only [pk_ hp, pk1 hp, pk2 hp, pk3 hp, pk4 hp, pk5 hp, pk6 hp, pk7 hp, pr0 hp, pr1 hp, pr2 hp, pr3 hp, pr4 hp, pr5 hp, pr6 hp, tx]
    rw [wr_id (a := x1 + 0) (by omega) (by omega), wr_id (a := x1 + 1) (by omega) (by omega), wr_id (a := (X : Int) + 1) (by omega) (by omega)]
    refine ck_i rfl (ck_i rfl (ck_i (jb_i (by omega) (by omega)) (cn_i (fun y => ?_) (fun y => ?_))))
    · rw [if_pos y] at en
      exact l_245 he (by omega) (by omega) en.symm (by omega) (by omega) hk
    · rw [if_neg y] at en
      exact l_245 he (by omega) (by omega) en.symm (by omega) (by omega) hk
  · rw [e1, show x2 = 24 by omega]
    exact hk
termination_by (24 - x2).toNat
decreasing_by all_goals omega
theorem p_50 {k : Int → FS → FI → FJ → Prop} {kx : Nat → FS → FI → FJ → Prop} {x1 : Int} {S : FS} {F : FI} {G : FJ} (ok : k (if x1 = 0 then F 31 8 else if x1 = 1 then F 1 16 else if x1 = 2 then F 2 1 else if x1 = 3 then aS (fun h => if F 34 h = -1 then 0 else 1) 24 else -1) S F G) : calI 1 50 [.inr (.inr (.inl 1)), .inl x1] (mm S F G) k kx := by
  refine sg_50_0 (cn_i (fun z => ?_) (fun z => cn_i (fun z1 => ?_) (fun z1 => cn_i (fun z2 => ?_) (fun z2 => cn_i (fun z3 => ?_) (fun z3 => ?_)))))
  · rw [if_pos z] at ok
    exact ⟨_, _, _, rfl, ok⟩
  · rw [if_neg z, if_pos z1] at ok
    exact ⟨_, _, _, rfl, ok⟩
  · rw [if_neg z, if_neg z1, if_pos z2] at ok
    exact ⟨_, _, _, rfl, ok⟩
  · rw [if_neg z, if_neg z1, if_neg z2, if_pos z3] at ok
    exact sg_245_0 (l_245 (Or.inl rfl) (by omega) (by omega) rfl (by omega) (by omega) ⟨_, _, _, rfl, _, _, _, rfl, ok⟩)
  · rw [if_neg z, if_neg z1, if_neg z2, if_neg z3] at ok
    exact ⟨_, _, _, rfl, ok⟩
/-- one party's cells copied to another's -/
def cPy (F' F : FI) (x y : Nat) : Prop := (∀ c, ¬ (x ≤ c ∧ c ≤ x + 7) → F' c = F c) ∧ (∀ i, i < 7 ∨ 10 < i → F' x i = F x i) ∧ (∀ i, 7 ≤ i → i ≤ 10 → F' x i = F y i) ∧ ∀ j i, (j = 1 ∧ i < 5 ∨ (2 ≤ j ∧ j ≤ 4) ∧ i < 24 ∨ (5 ≤ j ∧ j ≤ 7) ∧ i < 25) → F' (x + j) i = F (y + j) i
theorem PR_y {F F' : FI} {x y : Nat} {s : Nat → Int} (h : PR F y s) (hs : 0 ≤ s 54 ∧ s 54 ≤ 24) (h80 : s 79 ≠ 0 → 0 ≤ s 80 ∧ s 80 ≤ 24) (hc : cPy F' F x y) : PR F' x s := by
  obtain ⟨p1, p2, p3, p4, p5, p6, p7, p8, p9, p10⟩ := h
  obtain ⟨c1, c2, c3, c4⟩ := hc
  refine ⟨fun k k0 k1 => ?_, fun k k0 k1 => ?_, fun k k0 k1 => ?_, ?_, ?_, fun k k0 k1 => ?_, ?_, fun q => ?_, fun q i i0 i1 => ?_, fun q i i0 i1 => ?_⟩
  · rw [c4 1 _ (by omega)]; exact p1 k k0 k1
  · rw [c4 2 _ (by omega)]; exact p2 k k0 k1
  · rw [c4 3 _ (by omega)]; exact p3 k k0 k1
  · rw [c3 7 (by decide) (by decide)]; exact p4
  · rw [c3 8 (by decide) (by decide)]; exact p5
  · rw [c4 4 _ (by omega)]; exact p6 k k0 k1
  · rw [c3 9 (by decide) (by decide)]; exact p7
  · rw [c3 10 (by decide) (by decide)]; exact p8 q
  · have := h80 q
    rw [c4 5 _ (by omega), c4 6 _ (by omega)]; exact p9 q i i0 i1
  · have := h80 q
    rw [c4 7 _ (by omega)]; exact p10 q i i0 i1
def cpM (F : FI) (x y : Nat) : FI := u2 (u2 (u2 (u2 (c2 (c2 (c2 (c2 (c2 (c2 (c2 F (y + 1) 0 (x + 1) 0 5) (y + 2) 0 (x + 2) 0 24) (y + 3) 0 (x + 3) 0 24) (y + 4) 0 (x + 4) 0 24) (y + 5) 0 (x + 5) 0 25) (y + 6) 0 (x + 6) 0 25) (y + 7) 0 (x + 7) 0 25) x 7 (F y 7)) x 8 (F y 8)) x 9 (F y 9)) x 10 (F y 10)
theorem c2_i {f : FI} {s t n i : Nat} (h : i < n) : c2 f s 0 t 0 n t i = f s i := by
  rw [c2_k, pk_cpy_in (by omega) (by omega), show 0 + (i - 0) = i by omega]
theorem cpM_c {F : FI} {x y : Nat} (h : x + 8 ≤ y ∨ y + 8 ≤ x) : cPy (cpM F x y) F x y := by
  unfold cpM
  refine ⟨fun c hc => ?_, fun i hi => ?_, fun i h1 h2 => ?_, fun j i hj => ?_⟩
  · rw [u2_o (by omega), u2_o (by omega), u2_o (by omega), u2_o (by omega), c2_o (by omega), c2_o (by omega), c2_o (by omega), c2_o (by omega), c2_o (by omega), c2_o (by omega), c2_o (by omega)]
  · rw [u2_n (by omega), u2_n (by omega), u2_n (by omega), u2_n (by omega), c2_o (by omega), c2_o (by omega), c2_o (by omega), c2_o (by omega), c2_o (by omega), c2_o (by omega), c2_o (by omega)]
  · have e : i = 7 ∨ i = 8 ∨ i = 9 ∨ i = 10 := by omega
    rcases e with e | e | e | e <;> subst e
    · rw [u2_n (by decide), u2_n (by decide), u2_n (by decide), u2_s]
    · rw [u2_n (by decide), u2_n (by decide), u2_s]
    · rw [u2_n (by decide), u2_s]
    · rw [u2_s]
  · rw [u2_o (by omega), u2_o (by omega), u2_o (by omega), u2_o (by omega)]
    have e : j = 1 ∨ j = 2 ∨ j = 3 ∨ j = 4 ∨ j = 5 ∨ j = 6 ∨ j = 7 := by omega
    rcases e with e | e | e | e | e | e | e <;> subst e
    · rw [c2_o (by omega), c2_o (by omega), c2_o (by omega), c2_o (by omega), c2_o (by omega), c2_o (by omega), c2_i (by omega)]
    · rw [c2_o (by omega), c2_o (by omega), c2_o (by omega), c2_o (by omega), c2_o (by omega), c2_i (by omega), c2_o (by omega)]
    · rw [c2_o (by omega), c2_o (by omega), c2_o (by omega), c2_o (by omega), c2_i (by omega), c2_o (by omega), c2_o (by omega)]
    · rw [c2_o (by omega), c2_o (by omega), c2_o (by omega), c2_i (by omega), c2_o (by omega), c2_o (by omega), c2_o (by omega)]
    · rw [c2_o (by omega), c2_o (by omega), c2_i (by omega), c2_o (by omega), c2_o (by omega), c2_o (by omega), c2_o (by omega)]
    · rw [c2_o (by omega), c2_i (by omega), c2_o (by omega), c2_o (by omega), c2_o (by omega), c2_o (by omega), c2_o (by omega)]
    · rw [c2_i (by omega), c2_o (by omega), c2_o (by omega), c2_o (by omega), c2_o (by omega), c2_o (by omega), c2_o (by omega)]
def imC (n : Int) : Nat := 73 + 8 * n.toNat
theorem p_47 {k : Int → FS → FI → FJ → Prop} {kx : Nat → FS → FI → FJ → Prop} {n : Int} {S : FS} {F : FI} {G : FJ} (hn : F 1 16 = n) (h0 : 0 ≤ n) (full : 3 ≤ n → k (-1) S F G) (ok : n < 3 → ∀ F', cPy F' F (imC n) 31 → k (n + 1) S (u2 F' 1 16 (n + 1)) G) : calI 1 47 [.inr (.inr (.inl 1))] (mm S F G) k kx := by
  refine sg_47_0 (cn_i (fun z => ?_) (fun z => ⟨_, _, _, rfl, full (by omega)⟩))
  have e : n = 0 ∨ n = 1 ∨ n = 2 := by omega
  have fin : ∀ F', cPy F' F (imC n) 31 → (∀ i, F' 1 i = F 1 i) := fun F' h i => by
    have := h.1 1 (by unfold imC; omega)
    rw [this]
  rw [hn]
  rw [hn] at z
  have ok := ok z
  refine ck_i (jb_i h0 (by omega)) ?_
  rcases e with e | e | e
  · subst e
    have h := fin _ (cpM_c (F := F) (x := 73) (y := 31) (Or.inr (by decide)))
    exact ck_i rfl (cp_73_31 ⟨_, _, _, rfl, _, _, _, rfl, by
      have := ok _ (cpM_c (F := F) (x := 73) (y := 31) (Or.inr (by decide)))
      have h16 := h 16
      rw [hn] at h16
      have w : wr (cpM F 73 31 1 16 + 1) = 0 + 1 := by rw [h16]; rfl
      show k (wr (cpM F 73 31 1 16 + 1)) S (u2 (cpM F 73 31) 1 16 (wr (cpM F 73 31 1 16 + 1))) G
      rw [w]
      exact this⟩)
  · subst e
    have h := fin _ (cpM_c (F := F) (x := 81) (y := 31) (Or.inr (by decide)))
    exact ck_i rfl (cp_81_31 ⟨_, _, _, rfl, _, _, _, rfl, by
      have := ok _ (cpM_c (F := F) (x := 81) (y := 31) (Or.inr (by decide)))
      have h16 := h 16
      rw [hn] at h16
      have w : wr (cpM F 81 31 1 16 + 1) = 1 + 1 := by rw [h16]; rfl
      show k (wr (cpM F 81 31 1 16 + 1)) S (u2 (cpM F 81 31) 1 16 (wr (cpM F 81 31 1 16 + 1))) G
      rw [w]
      exact this⟩)
  · subst e
    have h := fin _ (cpM_c (F := F) (x := 89) (y := 31) (Or.inr (by decide)))
    exact ck_i rfl (cp_89_31 ⟨_, _, _, rfl, _, _, _, rfl, by
      have := ok _ (cpM_c (F := F) (x := 89) (y := 31) (Or.inr (by decide)))
      have h16 := h 16
      rw [hn] at h16
      have w : wr (cpM F 89 31 1 16 + 1) = 2 + 1 := by rw [h16]; rfl
      show k (wr (cpM F 89 31 1 16 + 1)) S (u2 (cpM F 89 31) 1 16 (wr (cpM F 89 31 1 16 + 1))) G
      rw [w]
      exact this⟩)
theorem p_48 {k : Int → FS → FI → FJ → Prop} {kx : Nat → FS → FI → FJ → Prop} {n : Int} {S : FS} {F : FI} {G : FJ} (hn : F 1 16 = n) (h0 : 0 ≤ n) (h3 : n ≤ 3) (none : n = 0 → k (-1) S F G) (ok : 0 < n → ∀ F', cPy F' (u2 F 1 16 (n - 1)) 31 (imC (n - 1)) → k (n - 1) S (u2 F' 1 17 0) G) : calI 1 48 [.inr (.inr (.inl 1))] (mm S F G) k kx := by
  refine sg_48_0 (cn_i (fun z => ?_) (fun z => ⟨_, _, _, rfl, none (by omega)⟩))
  rw [hn] at z ⊢
  have ok := ok z
  rw [wr_id (a := n - 1) (by omega) (by omega)]
  have e : n = 1 ∨ n = 2 ∨ n = 3 := by omega
  refine ck_i (jb_i (by omega) (by omega)) ?_
  have fin : ∀ F' y, cPy F' (u2 F 1 16 (n - 1)) 31 y → F' 1 16 = n - 1 := fun F' y h => by
    rw [h.1 1 (by decide), u2_s]
  rcases e with e | e | e
  · subst e
    have h := cpM_c (F := u2 F 1 16 (1 - 1)) (x := 31) (y := 73) (Or.inl (by decide))
    exact cp_31_73 ⟨_, _, _, rfl, _, _, _, rfl, by
      show k (cpM (u2 F 1 16 (1 - 1)) 31 73 1 16) S (u2 (cpM (u2 F 1 16 (1 - 1)) 31 73) 1 17 0) G
      rw [fin _ _ h]
      exact ok _ h⟩
  · subst e
    have h := cpM_c (F := u2 F 1 16 (2 - 1)) (x := 31) (y := 81) (Or.inl (by decide))
    exact cp_31_81 ⟨_, _, _, rfl, _, _, _, rfl, by
      show k (cpM (u2 F 1 16 (2 - 1)) 31 81 1 16) S (u2 (cpM (u2 F 1 16 (2 - 1)) 31 81) 1 17 0) G
      rw [fin _ _ h]
      exact ok _ h⟩
  · subst e
    have h := cpM_c (F := u2 F 1 16 (3 - 1)) (x := 31) (y := 89) (Or.inl (by decide))
    exact cp_31_89 ⟨_, _, _, rfl, _, _, _, rfl, by
      show k (cpM (u2 F 1 16 (3 - 1)) 31 89 1 16) S (u2 (cpM (u2 F 1 16 (3 - 1)) 31 89) 1 17 0) G
      rw [fin _ _ h]
      exact ok _ h⟩
/-! ===== feed ===== -/
def FC (F F1 : FI) (f : Int → Int) (n : Int) (i : Nat) : Prop := (∀ j : Nat, F1 3 j = if n ≤ j ∧ (j : Int) < n + i then f (j - n) else F 3 j) ∧ F1 2 1 = n + i ∧ (∀ j, j ≠ 1 → F1 2 j = F 2 j) ∧ (∀ a, a ≠ 2 → a ≠ 3 → F1 a = F a)
theorem FC_s {F F1 : FI} {f : Int → Int} {n v : Int} {i : Nat} (h0 : 0 ≤ n) (h : FC F F1 f n i) (e : f i = v) : FC F (u2 (u2 F1 3 (n + i).toNat v) 2 1 (n + i + 1)) f n (i + 1) := by
  obtain ⟨h1, h2, h3, h4⟩ := h
  refine ⟨fun j => ?_, ?_, fun j hj => ?_, fun a a1 a2 => ?_⟩
  · rw [u2_o (by decide), u2_k]
    by_cases q : j = (n + i).toNat
    · rw [if_pos q, if_pos (by omega), ← e]
      congr 1
      omega
    · rw [if_neg q, h1 j]
      by_cases c : n ≤ j ∧ (j : Int) < n + i
      · rw [if_pos c, if_pos (by omega)]
      · rw [if_neg c, if_neg (by omega)]
  · rw [u2_s]
    omega
  · rw [u2_n hj, u2_o (by decide)]
    exact h3 j hj
  · rw [u2_o a1, u2_o a2]
    exact h4 a a1 a2
theorem s_274 {Q : Rs → Mm → Prop} {f : Int → Int} {x x2 n y : Int} {i : Nat} {S : FS} {F F1 : FI} {G : FJ} (h : FC F F1 f n i) (h0 : 0 ≤ n) (h1 : n + i < 600) (h2 : 0 ≤ x2) (h3 : x2 ≤ 24) (e : f i = an (ushr x x2) 255) (ey : y = x2 - 8) (hk : ∀ F', FC F F' f n (i + 1) → wph 0 274 3 [.inr (.inr (.inl 2)), .inl x, .inl y] [] (mm S F' G) (0, 0) Q) :
    wph 0 274 3 [.inr (.inr (.inl 2)), .inl x, .inl x2] [] (mm S F1 G) (0, 0) Q := by
  have hk' := hk _ (FC_s h0 h e)
  refine sg_274_3 (cd_f (by omega) (cd_t (by rw [h.2.1]; exact h1) ?_))
  rw [h.2.1, wr_id (a := x2 + (-8)) (by omega) (by omega), wr_id (a := n + i + 1) (by omega) (by omega), show x2 + (-8) = y by omega]
  exact ck_i (jb_i (by omega) (by omega)) hk'
theorem c_274 {k : FS → FI → FJ → Prop} {f : Int → Int} {x n : Int} {i : Nat} {S : FS} {F F1 : FI} {G : FJ} (h : FC F F1 f n i) (h0 : 0 ≤ n) (h1 : n + i + 4 ≤ 600) (e0 : f i = an (ushr x 24) 255) (e1 : f ((i + 1 : Nat) : Int) = an (ushr x 16) 255) (e2 : f ((i + 1 + 1 : Nat) : Int) = an (ushr x 8) 255) (e3 : f ((i + 1 + 1 + 1 : Nat) : Int) = an (ushr x 0) 255)
    (hk : ∀ F', FC F F' f n (i + 4) → k S F' G) : calV 0 274 [.inr (.inr (.inl 2)), .inl x] (mm S F1 G) k nof :=
  sg_274_0 (s_274 h h0 (by omega) (by decide) (by decide) e0 (y := 16) rfl (fun F2 h2 => s_274 h2 h0 (by omega) (by decide) (by decide) e1 (y := 8) rfl (fun F3 h3 => s_274 h3 h0 (by omega) (by decide) (by decide) e2 (y := 0) rfl (fun F4 h4 => s_274 h4 h0 (by omega) (by decide) (by decide) e3 (y := -8) rfl (fun F5 h5 => sg_274_3 (cd_t (by decide) ⟨_, _, _, rfl, hk F5 h5⟩))))))
theorem u255 (x : Int) (k : Nat) (hk : k ≤ 24) : an (sar x k) 255 = an (ushr x k) 255 := sar_u (c := 255) (by omega) (by
  have : 2 ^ 8 ≤ 2 ^ (32 - k) := Nat.pow_le_pow_right (by decide) (by omega)
  omega)
theorem p_1 {k : Int → FS → FI → FJ → Prop} {kx : Nat → FS → FI → FJ → Prop} {n x1 x2 x3 x4 x5 : Int} {S : FS} {F : FI} {G : FJ} (hn : F 2 1 = n) (h0 : 0 ≤ n) (h6 : n ≤ 600) (full : 580 < n → k (-1) S F G) (ok : n ≤ 580 → ∀ F', FC F F' (sFb x1 x2 x3 x4 x5) n 20 → k (n + 20) S F' G) : calI 1 1 [.inr (.inr (.inl 1)), .inl x1, .inl x2, .inl x3, .inl x4, .inl x5] (mm S F G) k kx := by
  refine sg_1_0 ?_
  rw [hn, wr_id (a := n + 20) (by omega) (by omega)]
  refine cn_i (fun z => ⟨_, _, _, rfl, full (by omega)⟩) (fun z => ?_)
  have ok := ok (by omega)
  have f0 : FC F F (sFb x1 x2 x3 x4 x5) n 0 := ⟨fun j => by rw [if_neg (by omega)], by rw [hn]; omega, fun _ _ => rfl, fun _ _ _ => rfl⟩
  have e : ∀ x : Int, an (sar x 24) 255 = an (ushr x 24) 255 ∧ an (sar x 16) 255 = an (ushr x 16) 255 ∧ an (sar x 8) 255 = an (ushr x 8) 255 ∧ an (sar x 0) 255 = an (ushr x 0) 255 := fun x => ⟨u255 x 24 (by decide), u255 x 16 (by decide), u255 x 8 (by decide), u255 x 0 (by decide)⟩
  refine c_274 f0 h0 (by omega) ((show sFb x1 x2 x3 x4 x5 (0 : Nat) = an (sar x1 24) 255 from rfl).trans (e x1).1) ((show sFb x1 x2 x3 x4 x5 (1 : Nat) = an (sar x1 16) 255 from rfl).trans (e x1).2.1) ((show sFb x1 x2 x3 x4 x5 (2 : Nat) = an (sar x1 8) 255 from rfl).trans (e x1).2.2.1) ((show sFb x1 x2 x3 x4 x5 (3 : Nat) = an (sar x1 0) 255 from rfl).trans (e x1).2.2.2) (fun F1 f1 => ?_)
  refine c_274 f1 h0 (by omega) ((show sFb x1 x2 x3 x4 x5 (4 : Nat) = an (sar x2 24) 255 from rfl).trans (e x2).1) ((show sFb x1 x2 x3 x4 x5 (5 : Nat) = an (sar x2 16) 255 from rfl).trans (e x2).2.1) ((show sFb x1 x2 x3 x4 x5 (6 : Nat) = an (sar x2 8) 255 from rfl).trans (e x2).2.2.1) ((show sFb x1 x2 x3 x4 x5 (7 : Nat) = an (sar x2 0) 255 from rfl).trans (e x2).2.2.2) (fun F2 f2 => ?_)
  refine c_274 f2 h0 (by omega) ((show sFb x1 x2 x3 x4 x5 (8 : Nat) = an (sar x3 24) 255 from rfl).trans (e x3).1) ((show sFb x1 x2 x3 x4 x5 (9 : Nat) = an (sar x3 16) 255 from rfl).trans (e x3).2.1) ((show sFb x1 x2 x3 x4 x5 (10 : Nat) = an (sar x3 8) 255 from rfl).trans (e x3).2.2.1) ((show sFb x1 x2 x3 x4 x5 (11 : Nat) = an (sar x3 0) 255 from rfl).trans (e x3).2.2.2) (fun F3 f3 => ?_)
  refine c_274 f3 h0 (by omega) ((show sFb x1 x2 x3 x4 x5 (12 : Nat) = an (sar x4 24) 255 from rfl).trans (e x4).1) ((show sFb x1 x2 x3 x4 x5 (13 : Nat) = an (sar x4 16) 255 from rfl).trans (e x4).2.1) ((show sFb x1 x2 x3 x4 x5 (14 : Nat) = an (sar x4 8) 255 from rfl).trans (e x4).2.2.1) ((show sFb x1 x2 x3 x4 x5 (15 : Nat) = an (sar x4 0) 255 from rfl).trans (e x4).2.2.2) (fun F4 f4 => ?_)
  refine c_274 f4 h0 (by omega) ((show sFb x1 x2 x3 x4 x5 (16 : Nat) = an (sar x5 24) 255 from rfl).trans (e x5).1) ((show sFb x1 x2 x3 x4 x5 (17 : Nat) = an (sar x5 16) 255 from rfl).trans (e x5).2.1) ((show sFb x1 x2 x3 x4 x5 (18 : Nat) = an (sar x5 8) 255 from rfl).trans (e x5).2.2.1) ((show sFb x1 x2 x3 x4 x5 (19 : Nat) = an (sar x5 0) 255 from rfl).trans (e x5).2.2.2) (fun F5 f5 => ?_)
  have := ok F5 f5
  rw [show n + 20 = F5 2 1 by rw [f5.2.1]; rfl] at this
  exact ⟨_, _, _, rfl, this⟩
