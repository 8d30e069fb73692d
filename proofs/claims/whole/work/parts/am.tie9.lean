/-! ===== land and law told, for the tie ===== -/
theorem sSc_e {l l' : Nat → Int} (hv : LV l) (e : ∀ j, j < 708 → l' j = l j) : (∀ h : Int, 0 ≤ h → h < 24 → sSy l' h = sSy l h) ∧ ∀ t : Nat, (t : Int) ≤ l 3 → sSc l' t = sSc l t := by
  obtain ⟨⟨hv1, hv2⟩, ⟨hv3, hv4⟩, ⟨hv5, hv6⟩, ⟨hv7, hv8⟩, ⟨hv9, hv10⟩, ⟨hv11, hv12⟩, ⟨hv13, hv14⟩, hvw, hvs, hvk, hvc, hvx⟩ := id hv
  have sy : ∀ h : Int, 0 ≤ h → h < 24 → sSy l' h = sSy l h := by
    intro h h0 h1
    have i : sSyP l' h ↔ sSyP l h := by
      unfold sSyP sSn
      rw [e 1 (by decide)]
      constructor
      · rintro ⟨w, x, y, z⟩
        exact ⟨w, x, y, by rw [e _ (by omega)] at z; exact z⟩
      · rintro ⟨w, x, y, z⟩
        exact ⟨w, x, y, by rw [e _ (by omega)]; exact z⟩
    unfold sSy
    by_cases q : sSyP l h
    · rw [if_pos q, if_pos (i.mpr q)]
    · rw [if_neg q, if_neg (fun r => q (i.mp r))]
  refine ⟨sy, fun t => ?_⟩
  induction t with
  | zero => intro _; rfl
  | succ t ih =>
    intro ht
    show sSc l' t * _ = sSc l t * _
    rw [ih (by omega), e 3 (by decide), sy _ (by omega) (by omega)]
theorem LR_e {F : FI} {G : FJ} {a : Nat} {l l' : Nat → Int} (hv : LV l) (h : LR F G a l) (e : ∀ j, j < 708 → l' j = l j) : LR F G a l' := by
  have hv' := hv
  obtain ⟨⟨hv1, hv2⟩, ⟨hv3, hv4⟩, ⟨hv5, hv6⟩, ⟨hv7, hv8⟩, ⟨hv9, hv10⟩, ⟨hv11, hv12⟩, ⟨hv13, hv14⟩, hvw, hvs, hvk, hvc, hvx⟩ := id hv
  obtain ⟨sy, sc⟩ := sSc_e hv' e
  obtain ⟨⟨g1, g2, g3, g4, g5, g6, g7⟩, p2, p3, p4, p5, p6, p7, p8⟩ := h
  refine ⟨⟨by rw [e 0 (by decide)]; exact g1, by rw [e 1 (by decide)]; exact g2, by rw [e 2 (by decide)]; exact g3, by rw [e 3 (by decide)]; exact g4, by rw [e 4 (by decide)]; exact g5, by rw [e 5 (by decide)]; exact g6, by rw [e 6 (by decide)]; exact g7⟩, fun p p0 p1 => ?_, fun w h w0 w1 h0 h1 => ?_, fun h h0 h1 => ?_, fun k k0 k1 => ?_, fun k p k0 k1 p0 p1 => ?_, fun h h0 h1 => ?_, fun p w p0 p1 w0 w1 => ?_⟩
  · rw [e 0 (by decide)] at p1
    rw [e _ (by omega)]; exact p2 p p0 p1
  · rw [e 1 (by decide)] at w1
    unfold sSn
    rw [e _ (by omega)]; exact p3 w h w0 w1 h0 h1
  · rw [sy h h0 h1]; exact p4 h h0 h1
  · rw [e 2 (by decide)] at k1
    rw [e _ (by omega)]; exact p5 k k0 k1
  · rw [e 2 (by decide)] at k1
    rw [e 0 (by decide)] at p1
    rw [e _ (by omega)]; exact p6 k p k0 k1 p0 p1
  · rw [e 3 (by decide)] at h1
    have := p7 h h0 h1
    rw [this]
    unfold sScH
    rw [e 3 (by decide), sc _ (by omega)]
  · rw [e 0 (by decide)] at p1
    rw [e 1 (by decide)] at w1
    unfold sAt sOth
    rw [e _ (by omega), e _ (by omega)]
    exact p8 p w p0 p1 w0 w1
set_option maxRecDepth 100000 in
theorem p_2x {k : Int → FS → FI → FJ → Prop} {kx : Nat → FS → FI → FJ → Prop} {t : Nat → Int} {kd x1 : Int} {g : Nat → Int} {a a' b : Nat} {R : Pz × (Nat → Int)} {S : FS} {F : FI} {G : FJ} (ha : oL a) (ha' : oL a') (hb : oW b) (hS : S 1 0 = a ∧ S 1 1 = a' ∧ S 1 2 = b) (hT : TX F) (h2 : 0 ≤ F 2 1 ∧ F 2 1 ≤ 600) (hB : ∀ i : Nat, (i : Int) < F 2 1 → F 3 i = t i) (hR : R = lLo t x1 61 0 (0, -1, kd) (l00 g)) (h16 : F 16 0 = 1) (h19 : F 19 0 = 0)
    (noA : ¬ (0 ≤ x1 ∧ x1 ≤ F 2 1) → kx 2 S (rfc F 2) G)
    (bad : 0 ≤ x1 ∧ x1 ≤ F 2 1 → (pE R.1 R.2 x1).2.1 ≠ -1 → ∀ F', (∀ c, c ≠ 2 → ¬ (a' ≤ c ∧ c ≤ a' + 9) → F' c = F c) → F' 2 1 = 0 → F' 2 8 = (pE R.1 R.2 x1).2.1 → k (wr ((pE R.1 R.2 x1).2.2 - 10)) (u2 S 4 1 a') F' G)
    (good : 0 ≤ x1 ∧ x1 ≤ F 2 1 → (pE R.1 R.2 x1).2.1 = -1 → RV R.2 → 1 ≤ R.2 0 ∧ 1 ≤ R.2 2 → ∀ S' F' G', (∀ (l' s' : Nat → Int) (w : La), (∀ j, j < 708 → l' j = R.2 j) → (∀ j, j < 156 → s' j = s00 j) → w.1 = 0 → YK S' F' G' a' b l' s' w) → (S' 1 0 = a' ∧ S' 1 1 = a) → (∀ x i, x ≠ 4 → x ≠ 22 → ¬ (x = 1 ∧ (i = 0 ∨ i = 1)) → S' x i = S x i) → (∀ c, c ≠ 1 → c ≠ 2 → c ≠ 22 → c ≠ 23 → ¬ (31 ≤ c ∧ c ≤ 34) → ¬ (a' ≤ c ∧ c ≤ a' + 9) → c ≠ b → F' c = F c) → (∀ i, i ≠ 16 → i ≠ 17 → F' 1 i = F 1 i) → F' 1 16 = 0 → F' 1 17 = 0 → F' 2 1 = 0 → F' 2 8 = -1 → (∀ c, c ≠ a' + 8 → G' c = G c) → k (R.2 0) S' F' G') : calI 7 2 [.inr (.inr (.inl 1)), .inl x1] (mm S F G) k kx := by
  obtain ⟨s12, s13, s14⟩ := hS
  refine sg_2_0 (cn_i (fun z => c_55_0 (ex_2 ⟨_, _, _, rfl, noA (by omega)⟩)) (fun z => cn_i (fun z2 => c_55_0 (ex_2 ⟨_, _, _, rfl, noA (by omega)⟩)) (fun z2 => c_55_1 ?_)))
  have hx : 0 ≤ x1 ∧ x1 ≤ F 2 1 := by omega
  have bad := bad hx
  have good := good hx
  rw [s13]
  refine c_211 (t := t) (n := x1) (R := R) ha' hT hx.1 (by omega) (fun i hi => hB i (by omega)) hR (fun bd F' fr e7 e8 => cd_t rfl ⟨_, _, _, rfl, ?_⟩) (fun gd rv ne F1 G1 fr e8 g1 lr => cd_f (by decide) ?_)
  · rw [e7]
    refine bad bd _ (fun c c1 c2 => ?_) u2_s ?_
    · rw [u2_o c1]; exact fr.1 c c1 c2
    · rw [u2_n (by decide)]; exact e8
  · have hlv := RV_LV rv ne.1 ne.2
    have t12 : u2 S 4 1 a' 1 0 = a := by rw [u2_o (by decide)]; exact s12
    have t13 : u2 S 4 1 a' 1 1 = a' := by rw [u2_o (by decide)]; exact s13
    have t14 : u2 S 4 1 a' 1 2 = b := by rw [u2_o (by decide)]; exact s14
    rw [t12, t13, t14]
    have kb : kq (kk b) 0 2 = true := by rw [wk hb]; rfl
    refine ck_i (by rcases ha' with e | e <;> subst e <;> rfl) (ck_i (by rcases ha with e | e <;> subst e <;> rfl) (ck_i kb (sg_225_0 (ck_i kb (ck_i kb ⟨_, _, _, rfl, c_242 (fun F2 f2 pr => ?_)⟩)))))
    refine c_59 ha' hb (by rw [u2_n (by decide), u2_s]) (by rw [u2_n (by decide), u2_n (by decide)]; exact t14) (fun F3 f3 i3 h17 h6 h23 => ?_)
    have oab : ∀ i, i < 10 → a' + i ≠ 1 ∧ a' + i ≠ 2 ∧ a' + i ≠ 22 ∧ a' + i ≠ 23 ∧ ¬ (31 ≤ a' + i ∧ a' + i ≤ 34) ∧ a' + i ≠ b ∧ a' + i ≠ 3 := fun i hi => by omega
    have ob : b ≠ 1 ∧ b ≠ 2 ∧ b ≠ 22 ∧ b ≠ 23 ∧ ¬ (31 ≤ b ∧ b ≤ 34) ∧ ¬ (a' ≤ b ∧ b ≤ a' + 9) := by omega
    -- cells behind all of it
    have o3 : ∀ c, c ≠ 1 → c ≠ 2 → c ≠ 22 → c ≠ 23 → ¬ (31 ≤ c ∧ c ≤ 34) → c ≠ b → F3 c = F1 c := fun c c1 c2 c3 c4 c5 c6 => by
      rw [f3 c c1 c3 c4, u2_o c1, f2 c c5, u2_o c6, u2_o c6, u2_o c2]
    have lr3 : LR F3 G1 a' R.2 := LR_c lr (fun i hi => by
      have := oab i hi
      exact o3 _ this.1 this.2.1 this.2.2.1 this.2.2.2.1 this.2.2.2.2.1 this.2.2.2.2.2.1) rfl
    have sw : ∀ x i, u2 (u2 (u2 (u2 (u2 S 4 1 a') 1 0 a') 1 1 a) 22 0 a') 22 1 b x i = if x = 22 ∧ i = 1 then b else if x = 22 ∧ i = 0 then a' else if x = 1 ∧ i = 1 then a else if x = 1 ∧ i = 0 then a' else if x = 4 ∧ i = 1 then a' else S x i := fun x i => rfl
    have y12 : u2 (u2 (u2 (u2 (u2 S 4 1 a') 1 0 a') 1 1 a) 22 0 a') 22 1 b 1 0 = a' := by rw [sw]; rfl
    rw [y12]
    refine ck_i (by rw [lk ha']; rfl) ⟨_, _, _, rfl, ?_⟩
    rw [lr3.1.1]
    have f16 : F3 16 = F 16 := by rw [o3 16 (by decide) (by decide) (by decide) (by decide) (by decide) (by omega)]; exact fr.1 16 (by decide) (by omega)
    have f19 : F3 19 = F 19 := by rw [o3 19 (by decide) (by decide) (by decide) (by decide) (by decide) (by omega)]; exact fr.1 19 (by decide) (by omega)
    have f02 : F3 2 = u2 F1 2 1 0 2 := by
      rw [f3 2 (by decide) (by decide) (by decide), u2_o (by decide), f2 2 (by decide), u2_o (by omega), u2_o (by omega)]
    have f01 : ∀ i, i ≠ 17 → i ≠ 16 → F3 1 i = F 1 i := fun i h1 h2 => by
      rw [i3 i h1, u2_n h2, f2 1 (by decide), u2_o (by omega), u2_o (by omega), u2_o (by decide)]
      rw [fr.1 1 (by decide) (by omega)]
    refine good gd rv ne _ F3 G1 (fun l' s' w el es hw => ⟨ha', hb, ⟨y12, ?_, ?_, ?_⟩, RV_LV (RV_e rv el) (by rw [el 0 (by decide)]; exact ne.1) (by rw [el 2 (by decide)]; exact ne.2), SV_79 (fun i hi => es i (by omega)) (s00_SV (RV_LV (RV_e rv el) (by rw [el 0 (by decide)]; exact ne.1) (by rw [el 2 (by decide)]; exact ne.2))), LW_0 hw, LR_e hlv lr3 el, ⟨?_, fun k k0 k1 => by omega⟩, ?_, MC_0 h23, Or.inl h6, ?_, ?_, Or.inl h17, fun q => by rw [h17] at q; exact absurd q (by decide)⟩) ⟨y12, ?_⟩ (fun x i h1 h2 h3 => ?_) (fun c c1 c2 c3 c4 c5 c6 c7 => ?_) (fun i h1 h2 => f01 i h2 h1) ?_ h17 ?_ ?_ g1
    · rw [sw]; exact s14
    · rw [sw]; rfl
    · rw [sw]; rfl
    · rw [f3 b ob.1 ob.2.2.1 ob.2.2.2.1, u2_o ob.1, f2 b ob.2.2.2.2.1, u2_n (by decide), u2_s]
      exact hw.symm
    · refine PR_cg (PR_c pr (fun i hi => ?_)) es (by decide) (fun q => absurd rfl q)
      rw [f3 _ (by omega) (by omega) (by omega), u2_o (by omega)]
    · rw [f16]; exact h16
    · rw [f19]; exact h19
    · rw [sw]; rfl
    · rw [sw, if_neg (fun q => h2 q.1), if_neg (fun q => h2 q.1), if_neg (fun q => h3 ⟨q.1, Or.inr q.2⟩), if_neg (fun q => h3 ⟨q.1, Or.inl q.2⟩), if_neg (fun q => h1 q.1)]
    · rw [o3 c c1 c2 c3 c4 c5 c7]
      exact fr.1 c c2 c6
    · rw [i3 16 (by decide), u2_s]
    · rw [f02, u2_s]
    · rw [f02, u2_n (by decide)]
      exact e8
set_option maxRecDepth 100000 in
theorem p_3x {k : Int → FS → FI → FJ → Prop} {kx : Nat → FS → FI → FJ → Prop} {t : Nat → Int} {kd x1 : Int} {a b b' : Nat} {R : Px × List (Int × Int)} {S : FS} {F : FI} {G : FJ} (ha : oL a) (hb : oW b) (hb' : oW b') (hbb : b ≠ b') (hS : S 1 0 = a ∧ S 1 2 = b ∧ S 1 3 = b') (hT : TX F) (h2 : 0 ≤ F 2 1 ∧ F 2 1 ≤ 600) (hB : ∀ i : Nat, (i : Int) < F 2 1 → F 3 i = t i) (hz : F (b' + 2) 0 = 0) (hR : RUL t x1 11 ((0, -1, kd), []) [] R)
    (noA : ¬ (0 ≤ x1 ∧ x1 ≤ F 2 1) → kx 2 S (rfc F 2) G)
    (bad : 0 ≤ x1 ∧ x1 ≤ F 2 1 → R.1.1.2.1 ≠ -1 → ∀ F', (∀ c, c ≠ 2 → ¬ (b' ≤ c ∧ c ≤ b' + 3) → F' c = F c) → F' (b' + 2) 0 = 0 → F' 2 1 = 0 → F' 2 8 = R.1.1.2.1 → k (wr (R.1.1.2.2 - 10)) (u2 S 5 1 b') F' G)
    (good : 0 ≤ x1 ∧ x1 ≤ F 2 1 → R.1.1.2.1 = -1 → ∀ S' F', (∀ w, LMt w R.2 R.1.2 → LW w ∧ WR F' b' w ∧ ∀ l s w0, YK S F G a b l s w0 → YK S' F' G a b' l s w) → (S' 1 2 = b' ∧ S' 1 3 = b ∧ S' 22 0 = a ∧ S' 22 1 = b') → (∀ x i, x ≠ 5 → x ≠ 22 → ¬ (x = 1 ∧ (i = 2 ∨ i = 3)) → S' x i = S x i) → (∀ c, c ≠ 1 → c ≠ 2 → c ≠ 22 → c ≠ 23 → ¬ (b' ≤ c ∧ c ≤ b' + 3) → F' c = F c) → (∀ i, i ≠ 17 → F' 1 i = F 1 i) → F' 1 17 = 0 → F' (b' + 2) 0 = 0 → F' 2 1 = 0 → F' 2 8 = -1 → k (R.2.length : Int) S' F' G)
    (hw : 0 ≤ x1 ∧ x1 ≤ F 2 1 → R.1.1.2.1 = -1 → R.2.length ≤ 10 ∧ R.1.2.length ≤ 600 ∧ RWF R.2 R.1.2) : calI 93 3 [.inr (.inr (.inl 1)), .inl x1] (mm S F G) k kx := by
  obtain ⟨s12, s14, s15⟩ := hS
  have b2 : b' ≠ 2 ∧ b' ≠ 3 ∧ b' + 2 ≠ 2 ∧ 61 ≤ b' ∧ b' < 100 := by rcases hb' with e | e <;> subst e <;> decide
  refine sg_3_0 (cn_i (fun z => c_55_0 (ex_2 ⟨_, _, _, rfl, noA (by omega)⟩)) (fun z => cn_i (fun z2 => c_55_0 (ex_2 ⟨_, _, _, rfl, noA (by omega)⟩)) (fun z2 => c_55_1 ?_)))
  have hx : 0 ≤ x1 ∧ x1 ≤ F 2 1 := by omega
  have bad := bad hx
  have good := good hx
  rw [s15]
  refine c_231 (t := t) (n := x1) (kd := kd) (R := R) hb' hT hx.1 (by omega) (fun i hi => hB i (by omega)) hz hR (fun bd F' fr e7 e8 => cd_t rfl ⟨_, _, _, rfl, ?_⟩) (fun gd F1 fr e8 hr hp => cd_f (by decide) ?_)
  · rw [e7]
    refine bad bd _ (fun c c1 c2 => ?_) ?_ u2_s ?_
    · rw [u2_o c1]; exact fr.1 c c1 c2
    · rw [u2_o b2.2.2.1, fr.2.2]; exact hz
    · rw [u2_n (by decide)]; exact e8
  · obtain ⟨l10, l600, lwf⟩ := hw hx gd
    have t14 : u2 S 5 1 b' 1 2 = b := by rw [u2_o (by decide)]; exact s14
    have t15 : u2 S 5 1 b' 1 3 = b' := by rw [u2_o (by decide)]; exact s15
    have t12 : u2 S 5 1 b' 1 0 = a := by rw [u2_o (by decide)]; exact s12
    rw [t14, t15]
    refine ck_i (by rcases hb' with e | e <;> subst e <;> rfl) (ck_i (by rcases hb with e | e <;> subst e <;> rfl) ?_)
    refine c_59 ha hb' (by rw [u2_n (by decide), u2_n (by decide)]; exact t12) (by rw [u2_n (by decide), u2_s]) (fun F3 f3 i3 h17 h6 h23 => ?_)
    have sw : ∀ x i, u2 (u2 (u2 (u2 (u2 S 5 1 b') 1 2 b') 1 3 b) 22 0 a) 22 1 b' x i = if x = 22 ∧ i = 1 then b' else if x = 22 ∧ i = 0 then a else if x = 1 ∧ i = 3 then b else if x = 1 ∧ i = 2 then b' else if x = 5 ∧ i = 1 then b' else S x i := fun x i => rfl
    have y14 : u2 (u2 (u2 (u2 (u2 S 5 1 b') 1 2 b') 1 3 b) 22 0 a) 22 1 b' 1 2 = b' := by rw [sw]; rfl
    rw [y14]
    have o3 : ∀ c, c ≠ 1 → c ≠ 2 → c ≠ 22 → c ≠ 23 → F3 c = F1 c := fun c c1 c2 c3 c4 => by rw [f3 c c1 c3 c4, u2_o c2]
    have e5 : F3 b' 5 = (R.2.length : Int) := by rw [o3 b' (by omega) (by omega) (by omega) (by omega)]; exact hr.1
    rw [e5]
    have f01 : ∀ i, i ≠ 17 → F3 1 i = F 1 i := fun i h1 => by
      rw [i3 i h1, u2_o (by decide)]
      rw [fr.1 1 (by decide) (by omega)]
    have o4 : ∀ c, c ≠ 1 → c ≠ 2 → c ≠ 22 → c ≠ 23 → ¬ (b' ≤ c ∧ c ≤ b' + 3) → F3 c = F c := fun c c1 c2 c3 c4 c5 => by
      rw [o3 c c1 c2 c3 c4]
      exact fr.1 c c2 c5
    refine ck_i (by rw [wk hb']; rfl) ⟨_, _, _, rfl, good gd _ F3 (fun w lm => ?_) ⟨y14, ?_, ?_, ?_⟩ (fun x i h1 h2 h3 => ?_) o4 f01 h17 ?_ ?_ ?_⟩
    · obtain ⟨lw, lfr⟩ := LMt_LW lm lwf l10 l600
      have wr3 : WR F3 b' w := WR_c (LW_WR hr hp lm lwf lfr) (fun i hi => o3 _ (by omega) (by omega) (by omega) (by omega))
      refine ⟨lw, wr3, fun l s w0 hk => ?_⟩
      obtain ⟨ya, yb, ⟨k1, k2, k3, k4⟩, yv, ys, yw, yl, yr, yp, v1, v2, v3, v4, v5, v6⟩ := hk
      refine ⟨ya, hb', ⟨?_, y14, ?_, ?_⟩, yv, ys, lw, LR_c yl (fun i hi => o4 _ (by omega) (by omega) (by omega) (by omega) (by omega)) rfl, wr3, PR_c yp (fun i hi => o4 _ (by omega) (by omega) (by omega) (by omega) (by omega)), MC_0 h23, Or.inl h6, ?_, ?_, Or.inl h17, fun q => by rw [h17] at q; exact absurd q (by decide)⟩
      · rw [sw]; exact s12
      · rw [sw]; rfl
      · rw [sw]; rfl
      · rw [o4 16 (by decide) (by decide) (by decide) (by decide) (by omega)]; exact v3
      · rw [o4 19 (by decide) (by decide) (by decide) (by decide) (by omega)]; exact v4
    · rw [sw]; rfl
    · rw [sw]; rfl
    · rw [sw]; rfl
    · rw [sw, if_neg (fun q => h2 q.1), if_neg (fun q => h2 q.1), if_neg (fun q => h3 ⟨q.1, Or.inr q.2⟩), if_neg (fun q => h3 ⟨q.1, Or.inl q.2⟩), if_neg (fun q => h1 q.1)]
    · rw [o3 _ (by omega) b2.2.2.1 (by omega) (by omega), fr.2.2]; exact hz
    · rw [f3 2 (by decide) (by decide) (by decide), u2_s]
    · rw [f3 2 (by decide) (by decide) (by decide), u2_n (by decide)]; exact e8
