/-! ===== the class is told a land ===== -/
theorem c_59 {k : FS → FI → FJ → Prop} {a b : Nat} {S : FS} {F : FI} {G : FJ} (ha : oL a) (hb : oW b) (h12 : S 1 0 = a) (h14 : S 1 2 = b)
    (hk : ∀ F', (∀ c, c ≠ 1 → c ≠ 22 → c ≠ 23 → F' c = F c) → (∀ i, i ≠ 17 → F' 1 i = F 1 i) → F' 1 17 = 0 → F' 22 6 = -1 → (∀ j, j < 18720 → F' 23 j = 0) → k (u2 (u2 S 22 0 a) 22 1 b) F' G) : calV 2 59 [.inr (.inr (.inl 1))] (mm S F G) k nof := by
  refine sg_59_0 ?_
  rw [h12, h14]
  refine ck_i (by rcases ha with e | e <;> subst e <;> rfl) (ck_i (by rcases hb with e | e <;> subst e <;> rfl) (sg_254_0 (c_343 (n := 18720) rfl (by decide) ⟨_, _, _, rfl, ⟨_, _, _, rfl, hk _ (fun c h1 h2 h3 => ?_) (fun i hi => ?_) u2_s ?_ (fun j hj => ?_)⟩⟩)))
  · rw [u2_o h1, u2_o h2, yfl_o h3]
  · rw [u2_n hi, u2_o (by decide), yfl_o (by decide)]
  · rw [u2_o (by decide), u2_s]
  · rw [u2_o (by decide), u2_o (by decide), yfl_i hj]
theorem s00_SV {l : Nat → Int} (hv : LV l) : SV l s00 := by
  obtain ⟨⟨hv1, hv2⟩, ⟨hv3, hv4⟩, ⟨hv5, hv6⟩, ⟨hv7, hv8⟩, ⟨hv9, hv10⟩, ⟨hv11, hv12⟩, ⟨hv13, hv14⟩, hvw, hvs, hvk, hvc, hvx⟩ := id hv
  have z : ∀ j : Nat, j ≠ 53 → j < 29 ∨ 53 ≤ j → s00 j = 0 := fun j h1 h2 => by
    unfold s00
    rw [if_neg h1]
    by_cases q : j < 29
    · rw [if_pos q]
    · rw [if_neg q, if_neg (by omega)]
  have m : ∀ j : Nat, 29 ≤ j → j < 53 → s00 j = -1 := fun j h1 h2 => by
    unfold s00
    rw [if_neg (by omega), if_neg (by omega), if_pos h2]
  refine ⟨fun k k0 k1 => ?_, fun h h0 h1 => ?_, fun h h0 h1 => ?_, ?_, ?_, fun i i0 i1 => ?_⟩
  · rw [z _ (by omega) (by omega)]; omega
  · rw [z _ (by omega) (by omega)]; omega
  · rw [m _ (by omega) (by omega)]; omega
  · show (1 : Int) ≤ 1 ∧ (1 : Int) ≤ 12; decide
  · rw [z 54 (by decide) (by decide)]; omega
  · rw [z 54 (by decide) (by decide)] at i1; omega
theorem c_242 {k : FS → FI → FJ → Prop} {S : FS} {F : FI} {G : FJ} (hk : ∀ F', (∀ c, ¬ (31 ≤ c ∧ c ≤ 34) → F' c = F c) → PR F' 31 s00 → k S F' G) : calV 1 242 [.inr (.inr (.inl 31))] (mm S F G) k nof := by
  have hp : oP 31 := Or.inl rfl
  have z : ∀ j : Nat, j ≠ 53 → j < 29 ∨ 53 ≤ j → s00 j = 0 := fun j h1 h2 => by
    unfold s00
    rw [if_neg h1]
    by_cases q : j < 29
    · rw [if_pos q]
    · rw [if_neg q, if_neg (by omega)]
  have m : ∀ j : Nat, 29 ≤ j → j < 53 → s00 j = -1 := fun j h1 h2 => by
    unfold s00
    rw [if_neg (by omega), if_neg (by omega), if_pos h2]
  refine sg_242_0 (ck_i rfl (c_343 (r := 32) (n := 5) rfl (by decide) (ck_i rfl (c_343 (r := 33) (n := 24) rfl (by decide) (ck_i rfl (c_343 (r := 34) (n := 24) rfl (by decide) (ck_i rfl (ck_i rfl (ck_i rfl (ck_i rfl ⟨_, _, _, rfl, hk _ (fun c hc => ?_) ?_⟩)))))))))) 
  · rw [u2_o (by omega), u2_o (by omega), u2_o (by omega), u2_o (by omega), yfl_o (by omega), yfl_o (by omega), yfl_o (by omega)]
  · refine ⟨fun k k0 k1 => ?_, fun h h0 h1 => ?_, fun h h0 h1 => ?_, ?_, ?_, fun i i0 i1 => ?_, ?_, fun q => absurd (z 79 (by decide) (by decide)) q, fun q => absurd (z 79 (by decide) (by decide)) q, fun q => absurd (z 79 (by decide) (by decide)) q⟩
    · rw [z _ (by omega) (by omega), u2_o (by decide), u2_o (by decide), u2_o (by decide), u2_o (by decide), yfl_o (by decide), yfl_o (by decide), yfl_i (by omega)]
    · rw [z _ (by omega) (by omega), u2_o (by decide), u2_o (by decide), u2_o (by decide), u2_o (by decide), yfl_o (by decide), yfl_i (by omega)]
    · rw [m _ (by omega) (by omega), u2_o (by decide), u2_o (by decide), u2_o (by decide), u2_o (by decide), yfl_i (by omega)]
    · rw [u2_n (by decide), u2_n (by decide), u2_n (by decide), u2_s]; rfl
    · rw [u2_n (by decide), u2_n (by decide), u2_s]; rfl
    · rw [z 54 (by decide) (by decide)] at i1
      omega
    · rw [u2_n (by decide), u2_s, if_pos (z 79 (by decide) (by decide))]
theorem MC_0 {g l : Nat → Int} {w : La} (h : ∀ j, j < 18720 → g j = 0) : MC g l w := fun k h' p n k0 k1 h0 h1 p0 p1 n0 n1 => Or.inl (h _ (by omega))
theorem LW_0 {w : La} (h : w.1 = 0) : LW w := ⟨by omega, fun k k0 k1 => by omega⟩
set_option maxRecDepth 100000 in
theorem p_2 {k : Int → FS → FI → FJ → Prop} {kx : Nat → FS → FI → FJ → Prop} {t : Nat → Int} {kd x1 : Int} {g : Nat → Int} {a a' b : Nat} {w : La} {R : Pz × (Nat → Int)} {S : FS} {F : FI} {G : FJ} (ha : oL a) (ha' : oL a') (hb : oW b) (hS : S 1 0 = a ∧ S 1 1 = a' ∧ S 1 2 = b) (hT : TX F) (h2 : 0 ≤ F 2 1 ∧ F 2 1 ≤ 600) (hB : ∀ i : Nat, (i : Int) < F 2 1 → F 3 i = t i) (hR : R = lLo t x1 61 0 (0, -1, kd) (l00 g)) (hw : w.1 = 0) (h16 : F 16 0 = 1) (h19 : F 19 0 = 0)
    (noA : ¬ (0 ≤ x1 ∧ x1 ≤ F 2 1) → kx 2 S (rfc F 2) G)
    (bad : 0 ≤ x1 ∧ x1 ≤ F 2 1 → (pE R.1 R.2 x1).2.1 ≠ -1 → ∀ F', (∀ c, c ≠ 2 → ¬ (a' ≤ c ∧ c ≤ a' + 9) → F' c = F c) → F' 2 1 = 0 → F' 2 8 = (pE R.1 R.2 x1).2.1 → k (wr ((pE R.1 R.2 x1).2.2 - 10)) (u2 S 4 1 a') F' G)
    (good : 0 ≤ x1 ∧ x1 ≤ F 2 1 → (pE R.1 R.2 x1).2.1 = -1 → RV R.2 → 1 ≤ R.2 0 ∧ 1 ≤ R.2 2 → ∀ S' F' G', YK S' F' G' a' b R.2 s00 w → S' 1 1 = a → (∀ x i, x ≠ 4 → x ≠ 22 → ¬ (x = 1 ∧ (i = 0 ∨ i = 1)) → S' x i = S x i) → (∀ c, c ≠ 1 → c ≠ 2 → c ≠ 22 → c ≠ 23 → ¬ (31 ≤ c ∧ c ≤ 34) → ¬ (a' ≤ c ∧ c ≤ a' + 9) → c ≠ b → F' c = F c) → (∀ i, i ≠ 16 → i ≠ 17 → F' 1 i = F 1 i) → F' 1 16 = 0 → F' 1 17 = 0 → F' 2 1 = 0 → F' 2 8 = -1 → (∀ c, c ≠ a' + 8 → G' c = G c) → k (R.2 0) S' F' G') : calI 7 2 [.inr (.inr (.inl 1)), .inl x1] (mm S F G) k kx := by
  obtain ⟨s12, s13, s14⟩ := hS
  refine sg_2_0 (cn_i (fun z => c_55_0 (ex_2 ⟨_, _, _, rfl, noA (by omega)⟩)) (fun z => cn_i (fun z2 => c_55_0 (ex_2 ⟨_, _, _, rfl, noA (by omega)⟩)) (fun z2 => c_55_1 ?_)))
  have hx : 0 ≤ x1 ∧ x1 ≤ F 2 1 := by omega
  have bad := bad hx
  have good := good hx
  rw [s13]
  refine c_211 (t := t) (n := x1) (R := R) ha' hT hx.1 (by omega) (fun i hi => hB i (by omega)) hR (fun bd F' fr e7 e8 => cd_t rfl ⟨_, _, _, rfl, ?_⟩) (fun gd rv ne F1 G1 fr e8 g1 lr => cd_f (by decide) ?_)
  · rw [e7]
    refine bad bd _ (fun c c1 c2 => ?_) u2_s ?_
    · rw [u2_o c1]; exact fr.1 c c1 c2
    · rw [u2_n (by decide)]; exact e8
  · have hlv := RV_LV rv ne.1 ne.2
    have t12 : u2 S 4 1 a' 1 0 = a := by rw [u2_o (by decide)]; exact s12
    have t13 : u2 S 4 1 a' 1 1 = a' := by rw [u2_o (by decide)]; exact s13
    have t14 : u2 S 4 1 a' 1 2 = b := by rw [u2_o (by decide)]; exact s14
    rw [t12, t13, t14]
    have kb : kq (kk b) 0 2 = true := by rw [wk hb]; rfl
    refine ck_i (by rcases ha' with e | e <;> subst e <;> rfl) (ck_i (by rcases ha with e | e <;> subst e <;> rfl) (ck_i kb (sg_225_0 (ck_i kb (ck_i kb ⟨_, _, _, rfl, c_242 (fun F2 f2 pr => ?_)⟩)))))
    refine c_59 ha' hb (by rw [u2_n (by decide), u2_s]) (by rw [u2_n (by decide), u2_n (by decide)]; exact t14) (fun F3 f3 i3 h17 h6 h23 => ?_)
    have oab : ∀ i, i < 10 → a' + i ≠ 1 ∧ a' + i ≠ 2 ∧ a' + i ≠ 22 ∧ a' + i ≠ 23 ∧ ¬ (31 ≤ a' + i ∧ a' + i ≤ 34) ∧ a' + i ≠ b ∧ a' + i ≠ 3 := fun i hi => by omega
    have ob : b ≠ 1 ∧ b ≠ 2 ∧ b ≠ 22 ∧ b ≠ 23 ∧ ¬ (31 ≤ b ∧ b ≤ 34) ∧ ¬ (a' ≤ b ∧ b ≤ a' + 9) := by omega
    -- cells behind all of it
    have o3 : ∀ c, c ≠ 1 → c ≠ 2 → c ≠ 22 → c ≠ 23 → ¬ (31 ≤ c ∧ c ≤ 34) → c ≠ b → F3 c = F1 c := fun c c1 c2 c3 c4 c5 c6 => by
      rw [f3 c c1 c3 c4, u2_o c1, f2 c c5, u2_o c6, u2_o c6, u2_o c2]
    have lr3 : LR F3 G1 a' R.2 := LR_c lr (fun i hi => by
      have := oab i hi
      exact o3 _ this.1 this.2.1 this.2.2.1 this.2.2.2.1 this.2.2.2.2.1 this.2.2.2.2.2.1) rfl
    have sw : ∀ x i, u2 (u2 (u2 (u2 (u2 S 4 1 a') 1 0 a') 1 1 a) 22 0 a') 22 1 b x i = if x = 22 ∧ i = 1 then b else if x = 22 ∧ i = 0 then a' else if x = 1 ∧ i = 1 then a else if x = 1 ∧ i = 0 then a' else if x = 4 ∧ i = 1 then a' else S x i := fun x i => rfl
    have y12 : u2 (u2 (u2 (u2 (u2 S 4 1 a') 1 0 a') 1 1 a) 22 0 a') 22 1 b 1 0 = a' := by rw [sw]; rfl
    rw [y12]
    refine ck_i (by rw [lk ha']; rfl) ⟨_, _, _, rfl, ?_⟩
    rw [lr3.1.1]
    have f16 : F3 16 = F 16 := by rw [o3 16 (by decide) (by decide) (by decide) (by decide) (by decide) (by omega)]; exact fr.1 16 (by decide) (by omega)
    have f19 : F3 19 = F 19 := by rw [o3 19 (by decide) (by decide) (by decide) (by decide) (by decide) (by omega)]; exact fr.1 19 (by decide) (by omega)
    have f02 : F3 2 = u2 F1 2 1 0 2 := by
      rw [f3 2 (by decide) (by decide) (by decide), u2_o (by decide), f2 2 (by decide), u2_o (by omega), u2_o (by omega)]
    have f01 : ∀ i, i ≠ 17 → i ≠ 16 → F3 1 i = F 1 i := fun i h1 h2 => by
      rw [i3 i h1, u2_n h2, f2 1 (by decide), u2_o (by omega), u2_o (by omega), u2_o (by decide)]
      rw [fr.1 1 (by decide) (by omega)]
    refine good gd rv ne _ F3 G1 ⟨ha', hb, ⟨y12, ?_, ?_, ?_⟩, hlv, s00_SV hlv, LW_0 hw, lr3, ⟨?_, fun k k0 k1 => by omega⟩, ?_, MC_0 h23, Or.inl h6, ?_, ?_, Or.inl h17, fun q => by rw [h17] at q; exact absurd q (by decide)⟩ ?_ (fun x i h1 h2 h3 => ?_) (fun c c1 c2 c3 c4 c5 c6 c7 => ?_) (fun i h1 h2 => f01 i h2 h1) ?_ h17 ?_ ?_ g1
    · rw [sw]; exact s14
    · rw [sw]; rfl
    · rw [sw]; rfl
    · rw [f3 b ob.1 ob.2.2.1 ob.2.2.2.1, u2_o ob.1, f2 b ob.2.2.2.2.1, u2_n (by decide), u2_s]
      exact hw.symm
    · refine PR_c pr (fun i hi => ?_)
      rw [f3 _ (by omega) (by omega) (by omega), u2_o (by omega)]
    · rw [f16]; exact h16
    · rw [f19]; exact h19
    · rw [sw]; rfl
    · rw [sw, if_neg (fun q => h2 q.1), if_neg (fun q => h2 q.1), if_neg (fun q => h3 ⟨q.1, Or.inr q.2⟩), if_neg (fun q => h3 ⟨q.1, Or.inl q.2⟩), if_neg (fun q => h1 q.1)]
    · rw [o3 c c1 c2 c3 c4 c5 c7]
      exact fr.1 c c2 c6
    · rw [i3 16 (by decide), u2_s]
    · rw [f02, u2_s]
    · rw [f02, u2_n (by decide)]
      exact e8
