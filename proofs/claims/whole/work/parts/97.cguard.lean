/-! ===== the class refuses, and tells what is lawful ===== -/
def rfc (F : FI) (i : Nat) : FI := u2 F 40 i (wr (F 40 i + 1))
theorem ex_0 {A B C D : Prop} (h : A) : ex4 0 A B C D := h
theorem ex_1 {A B C D : Prop} (h : B) : ex4 1 A B C D := h
theorem ex_2 {A B C D : Prop} (h : C) : ex4 2 A B C D := h
theorem ex_3 {A B C D : Prop} (h : D) : ex4 3 A B C D := h
theorem c_51 {k : FS → FI → FJ → Prop} {kx : Nat → FS → FI → FJ → Prop} {a : Nat} {S : FS} {F : FI} {G : FJ} (ha : oL a) (hS : S 1 0 = a) (h1 : 1 ≤ F a 9 → k S F G) (h2 : F a 9 < 1 → kx 3 S (rfc F 3) G) : calV 0 51 [.inr (.inr (.inl 1))] (mm S F G) k kx := by
  refine sg_51_0 ?_
  simp only [hS, lk ha, lk1 ha, lk2 ha, lk3 ha, lk4 ha, lk5 ha, lk6 ha, lk7 ha, lk8 ha, lk9 ha, lr0 ha, lr1 ha, lr2 ha, lr3 ha, lr4 ha, lr5 ha, lr6 ha, lr7 ha, lr8 ha]
  exact ck_i rfl (cn_i (fun q => ⟨_, _, _, rfl, h2 q⟩) (fun q => ⟨_, _, _, rfl, h1 (by omega)⟩))
theorem c_52 {k : FS → FI → FJ → Prop} {kx : Nat → FS → FI → FJ → Prop} {a : Nat} {m x1 : Int} {S : FS} {F : FI} {G : FJ} (ha : oL a) (hS : S 1 0 = a) (hm : F a 11 = m) (h1 : 0 ≤ x1 ∧ x1 < m → k S F G) (h2 : ¬ (0 ≤ x1 ∧ x1 < m) → kx 0 S (rfc F 0) G) : calV 0 52 [.inr (.inr (.inl 1)), .inl x1] (mm S F G) k kx := by
  refine sg_52_0 ?_
  simp only [hS, lk ha, lk1 ha, lk2 ha, lk3 ha, lk4 ha, lk5 ha, lk6 ha, lk7 ha, lk8 ha, lk9 ha, lr0 ha, lr1 ha, lr2 ha, lr3 ha, lr4 ha, lr5 ha, lr6 ha, lr7 ha, lr8 ha, hm]
  exact cn_i (fun q => ⟨_, _, _, rfl, h2 (by omega)⟩) (fun q => ck_i rfl (cn_i (fun q2 => ⟨_, _, _, rfl, h1 (by omega)⟩) (fun q2 => ⟨_, _, _, rfl, h2 (by omega)⟩)))
theorem c_53 {k : FS → FI → FJ → Prop} {kx : Nat → FS → FI → FJ → Prop} {a : Nat} {m x1 : Int} {S : FS} {F : FI} {G : FJ} (ha : oL a) (hS : S 1 0 = a) (hm : F a 11 = m) (hm0 : 0 ≤ m) (h1 : -1 ≤ x1 ∧ x1 < m → k S F G) (h2 : ¬ (-1 ≤ x1 ∧ x1 < m) → kx 0 S (rfc F 0) G) : calV 1 53 [.inr (.inr (.inl 1)), .inl x1] (mm S F G) k kx := by
  refine sg_53_0 (cn_i (fun q => ⟨_, _, _, rfl, h1 (by omega)⟩) (fun q => c_52 ha hS hm (fun y => ⟨_, _, _, rfl, h1 (by omega)⟩) (fun y => ex_0 ⟨_, _, _, rfl, h2 (by omega)⟩)))
theorem c_54_1 {k : FS → FI → FJ → Prop} {kx : Nat → FS → FI → FJ → Prop} {S : FS} {F : FI} {G : FJ} (h1 : k S F G) : calV 0 54 [.inr (.inr (.inl 1)), .inl 1] (mm S F G) k kx :=
  sg_54_0 (cd_f (by decide) ⟨_, _, _, rfl, h1⟩)
theorem c_54_0 {k : FS → FI → FJ → Prop} {kx : Nat → FS → FI → FJ → Prop} {S : FS} {F : FI} {G : FJ} (h1 : kx 1 S (rfc F 1) G) : calV 0 54 [.inr (.inr (.inl 1)), .inl 0] (mm S F G) k kx :=
  sg_54_0 (cd_t rfl ⟨_, _, _, rfl, h1⟩)
theorem c_55_1 {k : FS → FI → FJ → Prop} {kx : Nat → FS → FI → FJ → Prop} {S : FS} {F : FI} {G : FJ} (h1 : k S F G) : calV 0 55 [.inr (.inr (.inl 1)), .inl 1] (mm S F G) k kx :=
  sg_55_0 (cd_f (by decide) ⟨_, _, _, rfl, h1⟩)
theorem c_55_0 {k : FS → FI → FJ → Prop} {kx : Nat → FS → FI → FJ → Prop} {S : FS} {F : FI} {G : FJ} (h1 : kx 2 S (rfc F 2) G) : calV 0 55 [.inr (.inr (.inl 1)), .inl 0] (mm S F G) k kx :=
  sg_55_0 (cd_t rfl ⟨_, _, _, rfl, h1⟩)
theorem c_56 {k : FS → FI → FJ → Prop} {kx : Nat → FS → FI → FJ → Prop} {a : Nat} {l : Nat → Int} {x1 x2 x3 : Int} {S : FS} {F : FI} {G : FJ} (ha : oL a) (hS : S 1 0 = a) (hl : F a 9 = l 0 ∧ F a 12 = l 3 ∧ F a 13 = l 4) (h1 : isSt l x1 x2 x3 → k S F G) (h2 : ¬ isSt l x1 x2 x3 → kx 2 S (rfc F 2) G) : calV 1 56 [.inr (.inr (.inl 1)), .inl x1, .inl x2, .inl x3] (mm S F G) k kx := by
  unfold isSt at h1 h2
  refine sg_56_0 ?_
  simp only [hS, lk ha, lk1 ha, lk2 ha, lk3 ha, lk4 ha, lk5 ha, lk6 ha, lk7 ha, lk8 ha, lk9 ha, lr0 ha, lr1 ha, lr2 ha, lr3 ha, lr4 ha, lr5 ha, lr6 ha, lr7 ha, lr8 ha, hl.1, hl.2.1, hl.2.2]
  refine cn_i (fun q => c_55_0 (ex_2 ⟨_, _, _, rfl, h2 (by omega)⟩)) (fun q => ck_i rfl (cn_i (fun q2 => ?_) (fun q2 => c_55_0 (ex_2 ⟨_, _, _, rfl, h2 (by omega)⟩))))
  refine cn_i (fun q3 => c_55_0 (ex_2 ⟨_, _, _, rfl, h2 (by omega)⟩)) (fun q3 => ck_i rfl (cn_i (fun q4 => c_55_0 (ex_2 ⟨_, _, _, rfl, h2 (by omega)⟩)) (fun q4 => ?_)))
  exact cn_i (fun q5 => c_55_0 (ex_2 ⟨_, _, _, rfl, h2 (by omega)⟩)) (fun q5 => ck_i rfl (cn_i (fun q6 => c_55_0 (ex_2 ⟨_, _, _, rfl, h2 (by omega)⟩)) (fun q6 => c_55_1 ⟨_, _, _, rfl, h1 (by omega)⟩)))
theorem c_57 {k : Int → FS → FI → FJ → Prop} {x1 : Int} {S : FS} {F : FI} {G : FJ} (h1 : 0 ≤ x1 ∧ x1 < 24 → k 1 S F G) (h2 : ¬ (0 ≤ x1 ∧ x1 < 24) → k 0 S F G) : calI 0 57 [.inr (.inr (.inl 1)), .inl x1] (mm S F G) k nof :=
  sg_57_0 (cn_i (fun q => ⟨_, _, _, rfl, h2 (by omega)⟩) (fun q => cn_i (fun y => ⟨_, _, _, rfl, h1 (by omega)⟩) (fun y => ⟨_, _, _, rfl, h2 (by omega)⟩)))
theorem c_58 {k : Int → FS → FI → FJ → Prop} {a : Nat} {m x1 : Int} {S : FS} {F : FI} {G : FJ} (ha : oL a) (hS : S 1 0 = a) (hm : F a 10 = m) (h1 : 0 ≤ x1 ∧ x1 ≤ m → k 1 S F G) (h2 : ¬ (0 ≤ x1 ∧ x1 ≤ m) → k 0 S F G) : calI 0 58 [.inr (.inr (.inl 1)), .inl x1] (mm S F G) k nof := by
  refine sg_58_0 ?_
  simp only [hS, lk ha, lk1 ha, lk2 ha, lk3 ha, lk4 ha, lk5 ha, lk6 ha, lk7 ha, lk8 ha, lk9 ha, lr0 ha, lr1 ha, lr2 ha, lr3 ha, lr4 ha, lr5 ha, lr6 ha, lr7 ha, lr8 ha, hm]
  exact cn_i (fun q => ⟨_, _, _, rfl, h2 (by omega)⟩) (fun q => ck_i rfl (cn_i (fun y => ⟨_, _, _, rfl, h2 (by omega)⟩) (fun y => ⟨_, _, _, rfl, h1 (by omega)⟩)))
theorem c_244 {k : Int → FS → FI → FJ → Prop} {l s : Nat → Int} {x1 : Int} {S : FS} {F : FI} {G : FJ} (hv : LV l) (hs : SV l s) (hpr : PR F 31 s) (h1 : 0 ≤ x1) (h1' : x1 < 24) (hk : k (sLd l s x1) S F G) : calI 0 244 [.inr (.inr (.inl 31)), .inl x1, .inl (l 2)] (mm S F G) k nof := by
  have hp : oP 31 := Or.inl rfl
  obtain ⟨⟨hv1, hv2⟩, ⟨hv3, hv4⟩, ⟨hv5, hv6⟩, ⟨hv7, hv8⟩, ⟨hv9, hv10⟩, ⟨hv11, hv12⟩, ⟨hv13, hv14⟩, hvw, hvs, hvk, hvc, hvx⟩ := id hv
  have p3 := hpr.2.2.1 x1 h1 h1'
  have p4 := hpr.2.2.2.1
  have s53 := hs.2.2.2.1
  have tb := tdm_b (h := x1) (n := s 53) (m := l 2) h1 s53.1 hv5
  unfold sLd at hk
  refine sg_244_0 ?_
  simp only [pk_ hp, pk1 hp, pk2 hp, pk3 hp, pk4 hp, pk5 hp, pk6 hp, pk7 hp, pr0 hp, pr1 hp, pr2 hp, pr3 hp, pr4 hp, pr5 hp, pr6 hp, p4]
  simp only [show (31 : Nat) + 3 = 34 from rfl] at p3 ⊢
  rw [p3]
  refine ck_i rfl (ck_i rfl (ck_i (jb_i h1 (by omega)) (cn_i (fun q => ?_) (fun q => ?_))))
  · rw [if_pos q] at hk
    rw [wr_id (by omega) (by omega)]
    exact ck_i rfl (cd_f (by omega) (cd_f (by omega) (ck_i rfl (ck_i (jz_i (by omega)) (ck_i (jz_i (by omega)) ⟨_, _, _, rfl, hk⟩)))))
  · rw [if_neg q] at hk
    exact ck_i rfl (ck_i rfl (ck_i (jb_i h1 (by omega)) ⟨_, _, _, rfl, hk⟩))
/-- looking moves up leaves all as it was known -/
theorem YK_L {S : FS} {F F' : FI} {G : FJ} {a b : Nat} {l s : Nat → Int} {w : La} (h : YK S F G a b l s w) (hF : KL b F' F) (hm : MC (F' 23) l w) : YK S F' G a b l s w ∧ QC S S F F' G G := by
  obtain ⟨ha, hb, -, -, -, -, -, -, -, v1, v2, v3, v4, v5, v6⟩ := id h
  have q : QC S S F F' G G := ⟨fun c hc => hF c (by unfold kpC at hc; omega) (by unfold kpC at hc; omega) (by unfold kpC at hc; omega), fun i _ => by rw [hF 1 (by decide) (by omega) (by omega)], fun _ _ => rfl, fun _ _ _ => rfl⟩
  refine ⟨YK_q h q ⟨hm, ?_, ?_, ?_, ?_, fun z => ?_⟩, q⟩
  · unfold RK
    rw [hF 22 (by decide) (by omega) (by omega), hF 24 (by decide) (by omega) (by omega)]
    exact v2
  · rw [hF 16 (by decide) (by omega) (by omega)]; exact v3
  · rw [hF 19 (by decide) (by omega) (by omega)]; exact v4
  · rw [hF 1 (by decide) (by omega) (by omega)]; exact v5
  · rw [hF 1 (by decide) (by omega) (by omega)] at z
    have := v6 z
    unfold SOL at this ⊢
    rw [hF 7 (by decide) (by omega) (by omega), hF 6 (by decide) (by omega) (by omega), hF 18 (by decide) (by omega) (by omega)]
    exact this
/-- what is lawful now -/
noncomputable def sNw (l s : Nat → Int) (w : La) (p h n : Int) : Int := if sEnd l h p n = 0 then sMask l w (-1) (sLd l s h) h p n else 0
theorem c_285 {k : Int → FS → FI → FJ → Prop} {a b : Nat} {l s : Nat → Int} {w : La} {x2 x3 x4 : Int} {S : FS} {F : FI} {G : FJ} (hk0 : YK S F G a b l s w) (h2 : 0 ≤ x2) (h2' : x2 < l 0) (h3 : 0 ≤ x3) (h3' : x3 ≤ l 3) (h4 : 0 ≤ x4) (h4' : x4 ≤ 12)
    (hk : ∀ F', KL b F' F → YK S F' G a b l s w → QC S S F F' G G → k (sNw l s w x2 x3 x4) S F' G) : calI 3 285 [.inr (.inr (.inl 26)), .inr (.inr (.inl 31)), .inl x2, .inl x3, .inl x4] (mm S F G) k nof := by
  obtain ⟨ha, hb, ⟨k1, k2, k3, k4⟩, hv, hs, hw, hl, hrw, hpr, v1, v2, v3, v4, v5, v6⟩ := id hk0
  have hv' := hv
  obtain ⟨⟨hv1, hv2⟩, ⟨hv3, hv4⟩, ⟨hv5, hv6⟩, ⟨hv7, hv8⟩, ⟨hv9, hv10⟩, ⟨hv11, hv12⟩, ⟨hv13, hv14⟩, hvw, hvs, hvk, hvc, hvx⟩ := id hv
  unfold sNw at hk
  refine sg_285_0 ?_
  simp only [k3, lk ha, lk1 ha, lk2 ha, lk3 ha, lk4 ha, lk5 ha, lk6 ha, lk7 ha, lk8 ha, lk9 ha, lr0 ha, lr1 ha, lr2 ha, lr3 ha, lr4 ha, lr5 ha, lr6 ha, lr7 ha, lr8 ha]
  refine ck_i rfl (c_208 ha hl hv2 h2 h2' h3' (fun v ev => ?_))
  simp only [k3, lk ha, lk1 ha, lk2 ha, lk3 ha, lk4 ha, lk5 ha, lk6 ha, lk7 ha, lk8 ha, lk9 ha, lr0 ha, lr1 ha, lr2 ha, lr3 ha, lr4 ha, lr5 ha, lr6 ha, lr7 ha, lr8 ha, hl.1.2.2.1]
  subst ev
  refine cn_i (fun z => ?_) (fun z => ?_)
  · rw [if_pos z] at hk
    have hh := (sEnd_n z).2
    have ld := sLd_b hv hs h3 (by omega)
    exact ck_i rfl (ck_i rfl (c_244 hv hs hpr h3 (by omega) (c_256 ha hb k3 k4 hv hw hl hrw v1 ld.1 (by omega) h2 h2' h3 (by omega) h4 (by omega) (fun F' kl mc => by
      obtain ⟨y1, y2⟩ := YK_L hk0 kl mc
      exact ⟨_, _, _, rfl, hk F' kl y1 y2⟩))))
  · rw [if_neg z] at hk
    exact ⟨_, _, _, rfl, hk F (fun _ _ _ _ => rfl) hk0 QC_r⟩
/-- a question's beginning: is a land told -/
def hasL (S : FS) (F : FI) (a : Nat) : Prop := oL a ∧ S 1 0 = a
theorem p_12 {k : Int → FS → FI → FJ → Prop} {kx : Nat → FS → FI → FJ → Prop} {a b : Nat} {l s : Nat → Int} {w : La} {x1 : Int} {S : FS} {F : FI} {G : FJ} (hL : hasL S F a) (hK : 1 ≤ F a 9 → YK S F G a b l s w) (noL : F a 9 < 1 → kx 3 S (rfc F 3) G) (noA : 1 ≤ F a 9 → ¬ (0 ≤ x1 ∧ x1 < 24) → kx 2 S (rfc F 2) G)
    (ok : 1 ≤ F a 9 → 0 ≤ x1 ∧ x1 < 24 → k (sLd l s x1) S F G) : calI 1 12 [.inr (.inr (.inl 1)), .inl x1] (mm S F G) k kx := by
  refine sg_12_0 (c_51 hL.1 hL.2 (fun q => ?_) (fun q => ex_3 ⟨_, _, _, rfl, noL q⟩))
  obtain ⟨ha, hb, ⟨k1, k2, k3, k4⟩, hv, hs, hw, hl, hrw, hpr, -⟩ := hK q
  refine c_57 (fun y => c_55_1 ?_) (fun y => c_55_0 (ex_2 ⟨_, _, _, rfl, noA q y⟩))
  simp only [k1, lk ha, lk1 ha, lk2 ha, lk3 ha, lk4 ha, lk5 ha, lk6 ha, lk7 ha, lk8 ha, lk9 ha, lr0 ha, lr1 ha, lr2 ha, lr3 ha, lr4 ha, lr5 ha, lr6 ha, lr7 ha, lr8 ha, hl.1.2.2.1]
  exact ck_i rfl (c_244 hv hs hpr y.1 y.2 ⟨_, _, _, rfl, ok q y⟩)
theorem p_13 {k : Int → FS → FI → FJ → Prop} {kx : Nat → FS → FI → FJ → Prop} {a b : Nat} {l s : Nat → Int} {w : La} {x1 x2 x3 : Int} {S : FS} {F : FI} {G : FJ} (hL : hasL S F a) (hK : 1 ≤ F a 9 → YK S F G a b l s w) (noL : F a 9 < 1 → kx 3 S (rfc F 3) G) (noA : 1 ≤ F a 9 → ¬ isSt l x1 x2 x3 → kx 2 S (rfc F 2) G)
    (ok : 1 ≤ F a 9 → isSt l x1 x2 x3 → ∀ S' F' G', YK S' F' G' a b l s w → QC S S' F F' G G' → k (sNw l s w x1 x2 x3) S' F' G') : calI 4 13 [.inr (.inr (.inl 1)), .inl x1, .inl x2, .inl x3] (mm S F G) k kx := by
  refine sg_13_0 (c_51 hL.1 hL.2 (fun q => ?_) (fun q => ex_3 ⟨_, _, _, rfl, noL q⟩))
  have hk0 := hK q
  obtain ⟨ha, hb, ⟨k1, k2, k3, k4⟩, hv, hs, hw, hl, hrw, hpr, -⟩ := id hk0
  have hv' := hv
  obtain ⟨⟨hv1, hv2⟩, ⟨hv3, hv4⟩, ⟨hv5, hv6⟩, ⟨hv7, hv8⟩, ⟨hv9, hv10⟩, ⟨hv11, hv12⟩, ⟨hv13, hv14⟩, hvw, hvs, hvk, hvc, hvx⟩ := id hv
  refine c_56 ha k1 (l := l) ⟨hl.1.1, hl.1.2.2.2.1, hl.1.2.2.2.2.1⟩ (fun y => ?_) (fun y => ex_2 ⟨_, _, _, rfl, noA q y⟩)
  have y' := y
  unfold isSt at y'
  exact c_285 hk0 y'.1 y'.2.1 y'.2.2.1 y'.2.2.2.1 y'.2.2.2.2.1 (by omega) (fun F' _ y1 y2 => ⟨_, _, _, rfl, ok q y S F' G y1 y2⟩)
theorem p_14 {k : Int → FS → FI → FJ → Prop} {kx : Nat → FS → FI → FJ → Prop} {a b : Nat} {l s : Nat → Int} {w : La} {x1 x2 x3 : Int} {S : FS} {F : FI} {G : FJ} (hL : hasL S F a) (hK : 1 ≤ F a 9 → YK S F G a b l s w) (noL : F a 9 < 1 → kx 3 S (rfc F 3) G) (noA : 1 ≤ F a 9 → ¬ isSt l x1 x2 x3 → kx 2 S (rfc F 2) G)
    (ok : 1 ≤ F a 9 → isSt l x1 x2 x3 → ∀ S' F' G', YK S' F' G' a b l s w → QC S S' F F' G G' → k (sTk l (sCf l s w) (l 4) x2 x1 x3) S' F' G') : calI 8 14 [.inr (.inr (.inl 1)), .inl x1, .inl x2, .inl x3] (mm S F G) k kx := by
  refine sg_14_0 (c_51 hL.1 hL.2 (fun q => ?_) (fun q => ex_3 ⟨_, _, _, rfl, noL q⟩))
  have hk0 := hK q
  obtain ⟨ha, hb, ⟨k1, k2, k3, k4⟩, hv, hs, hw, hl, hrw, hpr, -⟩ := id hk0
  have hv' := hv
  obtain ⟨⟨hv1, hv2⟩, ⟨hv3, hv4⟩, ⟨hv5, hv6⟩, ⟨hv7, hv8⟩, ⟨hv9, hv10⟩, ⟨hv11, hv12⟩, ⟨hv13, hv14⟩, hvw, hvs, hvk, hvc, hvx⟩ := id hv
  refine c_56 ha k1 (l := l) ⟨hl.1.1, hl.1.2.2.2.1, hl.1.2.2.2.2.1⟩ (fun y => ?_) (fun y => ex_2 ⟨_, _, _, rfl, noA q y⟩)
  have hw' := vs_of y
  unfold isSt at y
  refine c_60 hk0 (fun S1 F1 G1 y1 y2 y3 => ?_)
  have sol := y1.2.2.2.2.2.2.2.2.2.2.2.2.2.2 y3
  have sb := sp_b (d := 16) (h := x2) (p := x1) (n := x3) (Or.inl rfl) y.2.2.1 (by omega) y.1 (by omega) y.2.2.2.2.1 (by omega)
  refine c_271 (Or.inl rfl) y1.2.2.2.2.2.2.2.2.2.2.2.1 y.1 (by omega) y.2.2.1 (by omega) y.2.2.2.2.1 (by omega) (fun v ev => ?_)
  have : tM 16 = 3900 := rfl
  refine ck_i (jb_i (by omega) (by omega)) ⟨_, _, _, rfl, ?_⟩
  rw [ev, sol.2.2.2 x2 x1 x3 hw']
  exact ok q y S1 F1 G1 y1 y2
theorem p_15 {k : Int → FS → FI → FJ → Prop} {kx : Nat → FS → FI → FJ → Prop} {a b : Nat} {l s : Nat → Int} {w : La} {x1 x2 x3 x4 : Int} {S : FS} {F : FI} {G : FJ} (hL : hasL S F a) (hK : 1 ≤ F a 9 → YK S F G a b l s w) (noL : F a 9 < 1 → kx 3 S (rfc F 3) G) (noP : 1 ≤ F a 9 → ¬ (0 ≤ x1 ∧ x1 < l 2) → kx 0 S (rfc F 0) G) (noA : 1 ≤ F a 9 → 0 ≤ x1 ∧ x1 < l 2 → ¬ isSt l x2 x3 x4 → kx 2 S (rfc F 2) G)
    (ok : 1 ≤ F a 9 → 0 ≤ x1 ∧ x1 < l 2 → isSt l x2 x3 x4 → ∀ S' F' G', YK S' F' G' a b l s w → QC S S' F F' G G' → k (sW l (sCf l s w) (l 4) (l 3 - x3).toNat x1 x2 x4) S' F' G') : calL 8 15 [.inr (.inr (.inl 1)), .inl x1, .inl x2, .inl x3, .inl x4] (mm S F G) k kx := by
  refine sg_15_0 (c_51 hL.1 hL.2 (fun q => ?_) (fun q => ex_3 ⟨_, _, _, rfl, noL q⟩))
  have hk0 := hK q
  obtain ⟨ha, hb, ⟨k1, k2, k3, k4⟩, hv, hs, hw, hl, hrw, hpr, -⟩ := id hk0
  have hv' := hv
  obtain ⟨⟨hv1, hv2⟩, ⟨hv3, hv4⟩, ⟨hv5, hv6⟩, ⟨hv7, hv8⟩, ⟨hv9, hv10⟩, ⟨hv11, hv12⟩, ⟨hv13, hv14⟩, hvw, hvs, hvk, hvc, hvx⟩ := id hv
  refine c_52 ha k1 hl.1.2.2.1 (fun p => ?_) (fun p => ex_0 ⟨_, _, _, rfl, noP q p⟩)
  refine c_56 ha k1 (l := l) ⟨hl.1.1, hl.1.2.2.2.1, hl.1.2.2.2.2.1⟩ (fun y => ?_) (fun y => ex_2 ⟨_, _, _, rfl, noA q p y⟩)
  have hw' := vs_of y
  unfold isSt at y
  refine c_60 hk0 (fun S1 F1 G1 y1 y2 y3 => ?_)
  have sol := y1.2.2.2.2.2.2.2.2.2.2.2.2.2.2 y3
  have sb := sp_b (d := 16) (h := x3) (p := x2) (n := x4) (Or.inl rfl) y.2.2.1 (by omega) y.1 (by omega) y.2.2.2.2.1 (by omega)
  refine c_271 (Or.inl rfl) y1.2.2.2.2.2.2.2.2.2.2.2.1 y.1 (by omega) y.2.2.1 (by omega) y.2.2.2.2.1 (by omega) (fun v ev => ?_)
  have : tN 16 = 46800 := rfl
  have gs := sol.2.2.1 x3 x2 x4 hw' (2 + x1) ⟨by omega, Or.inl (by omega)⟩
  rw [fC_w p.1 (by omega), show (16 : Nat) + 1 = 17 from rfl] at gs
  rw [wr_id (a := v * 12) (by omega) (by omega), wr_id (a := v * 12 + 2) (by omega) (by omega), wr_id (by omega) (by omega), show v * 12 + 2 + x1 = sp 16 x3 x2 x4 * 12 + (2 + x1) by omega, gs]
  exact ck_i (jb_i (by omega) (by omega)) ⟨_, _, _, rfl, ok q p y S1 F1 G1 y1 y2⟩
theorem p_16 {k : Int → FS → FI → FJ → Prop} {kx : Nat → FS → FI → FJ → Prop} {a b : Nat} {l s : Nat → Int} {w : La} {x1 : Int} {S : FS} {F : FI} {G : FJ} (hL : hasL S F a) (hK : 1 ≤ F a 9 → YK S F G a b l s w) (noL : F a 9 < 1 → kx 3 S (rfc F 3) G) (noA : 1 ≤ F a 9 → ¬ (0 ≤ x1 ∧ x1 ≤ l 3) → kx 2 S (rfc F 2) G)
    (ok : 1 ≤ F a 9 → 0 ≤ x1 ∧ x1 ≤ l 3 → k (sScH l x1) S F G) : calL 1 16 [.inr (.inr (.inl 1)), .inl x1] (mm S F G) k kx := by
  refine sg_16_0 (c_51 hL.1 hL.2 (fun q => ?_) (fun q => ex_3 ⟨_, _, _, rfl, noL q⟩))
  obtain ⟨ha, hb, ⟨k1, k2, k3, k4⟩, hv, hs, hw, hl, hrw, hpr, -⟩ := hK q
  obtain ⟨⟨hv1, hv2⟩, ⟨hv3, hv4⟩, ⟨hv5, hv6⟩, ⟨hv7, hv8⟩, ⟨hv9, hv10⟩, ⟨hv11, hv12⟩, ⟨hv13, hv14⟩, hvw, hvs, hvk, hvc, hvx⟩ := id hv
  simp only [k1, lk ha, lk1 ha, lk2 ha, lk3 ha, lk4 ha, lk5 ha, lk6 ha, lk7 ha, lk8 ha, lk9 ha, lr0 ha, lr1 ha, lr2 ha, lr3 ha, lr4 ha, lr5 ha, lr6 ha, lr7 ha, lr8 ha, hl.1.2.2.2.1]
  refine cn_i (fun y => c_55_0 (ex_2 ⟨_, _, _, rfl, noA q (by omega)⟩)) (fun y => ck_i rfl (cn_i (fun y2 => c_55_0 (ex_2 ⟨_, _, _, rfl, noA q (by omega)⟩)) (fun y2 => c_55_1 ?_)))
  have sc := hl.2.2.2.2.2.2.1 x1 (by omega) (by omega)
  have ok := ok q (by omega)
  rw [← sc] at ok
  simp only [k1, lk ha, lk1 ha, lk2 ha, lk3 ha, lk4 ha, lk5 ha, lk6 ha, lk7 ha, lk8 ha, lk9 ha, lr0 ha, lr1 ha, lr2 ha, lr3 ha, lr4 ha, lr5 ha, lr6 ha, lr7 ha, lr8 ha]
  exact ck_i rfl (ck_i rfl (ck_i (jb_i (by omega) (by omega)) ⟨_, _, _, rfl, ok⟩))
theorem p_17 {k : Int → FS → FI → FJ → Prop} {kx : Nat → FS → FI → FJ → Prop} {a b : Nat} {l s : Nat → Int} {w : La} {S : FS} {F : FI} {G : FJ} (hL : hasL S F a) (hK : 1 ≤ F a 9 → YK S F G a b l s w) (noL : F a 9 < 1 → kx 3 S (rfc F 3) G)
    (ok : 1 ≤ F a 9 → ∀ S' F' G', YK S' F' G' a b l s w → QC S S' F F' G G' → k (sAll l (sCf l s w) (l 4)) S' F' G') : calL 8 17 [.inr (.inr (.inl 1))] (mm S F G) k kx := by
  refine sg_17_0 (c_51 hL.1 hL.2 (fun q => ?_) (fun q => ex_3 ⟨_, _, _, rfl, noL q⟩))
  have hk0 := hK q
  refine c_60 hk0 (fun S1 F1 G1 y1 y2 y3 => ?_)
  obtain ⟨ha, hb, ⟨k1, k2, k3, k4⟩, hv, hs, hw, hl, hrw, hpr, v1, v2, v3, v4, v5, v6⟩ := id y1
  have hv' := hv
  obtain ⟨⟨hv1, hv2⟩, ⟨hv3, hv4⟩, ⟨hv5, hv6⟩, ⟨hv7, hv8⟩, ⟨hv9, hv10⟩, ⟨hv11, hv12⟩, ⟨hv13, hv14⟩, hvw, hvs, hvk, hvc, hvx⟩ := id hv
  obtain ⟨so1, so2, so3, so4⟩ := v6 y3
  refine c_62 ha (Or.inl rfl) (Or.inl rfl) k1 hv ⟨hl.1.2.2.1, hl.1.2.2.2.2.2.2⟩ (by omega) (by omega) (sCf_v (w := w) _ hv hs) (so3 0 (l 6) (l 4) ⟨by omega, by omega, hv13, hv14, by omega, Int.le_refl _⟩) so2 v3 (by omega) (by omega) ⟨_, _, _, rfl, ?_⟩
  have := ok q S1 F1 G1 y1 y2
  unfold sTo
  rw [if_pos rfl]
  exact this
