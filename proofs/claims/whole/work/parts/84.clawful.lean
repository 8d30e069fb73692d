/-! ===== the class's lawful moves ===== -/
theorem l_256 {Q : Rs → Mm → Prop} {a b : Nat} {l : Nat → Int} {w : La} {x2 x3 x5 x6 x8 x9 kp n : Int} {S : FS} {F F0 : FI} {G : FJ} (ha : oL a) (hb : oW b) (hS0 : S 22 0 = a) (hS1 : S 22 1 = b) (hv : LV l) (hw : LW w) (hrl : LR F0 G a l) (hrw : WR F0 b w)
    (h2 : 0 ≤ x2) (h2' : x2 < l 0) (h3 : 0 ≤ x3) (h3' : x3 < l 3) (h9 : 0 ≤ x9) (h9' : x9 ≤ l 1) (h6 : 0 ≤ x6) (h6' : x6 < 18720) (hF : ∀ c, c ≠ b + 4 → c ≠ b + 5 → F c = F0 c)
    (m0 : F (b + 4) 0 = x3) (m1 : F (b + 4) 1 = l 3 - x3) (m2 : F (b + 4) 2 = n) (m3 : F (b + 4) 3 = if l (7 + x2).toNat = 1 then 1 else 0) (m4 : F (b + 4) 4 = kp) (m5 : F (b + 4) 5 = x2) (e8 : x8 = sMk (sLf l w x5 kp x3 x2 n) (x9 + 1).toNat)
    (hk : ∀ F', (∀ c, c ≠ b + 4 → c ≠ b + 5 → F' c = F0 c) → Q (.inl (some (.inl (sMask l w x5 kp x3 x2 n)))) (mm S (if x5 = -1 then u2 F' 23 x6.toNat (sMask l w x5 kp x3 x2 n) else F') G)) :
    wph 2 256 144 [.inr (.inr (.inl 22)), jk, .inl x2, .inl x3, jk, .inl x5, .inl x6, .inr (.inr (.inl (b + 4))), .inl x8, .inl x9] [] (mm S F G) (0, 0) Q := by
  have hv' := hv
  obtain ⟨⟨hv1, hv2⟩, ⟨hv3, hv4⟩, ⟨hv5, hv6⟩, ⟨hv7, hv8⟩, ⟨hv9, hv10⟩, ⟨hv11, hv12⟩, ⟨hv13, hv14⟩, hvw, hvs, hvk, hvc, hvx⟩ := id hv
  have r1 : LR F G a l := LR_c hrl (fun i hi => hF _ (by omega) (by omega)) rfl
  have r2 : WR F b w := WR_c hrw (fun i hi => hF _ (by omega) (by omega))
  refine sg_256_144 ?_
  simp only [hS0, lk ha, lk1 ha, lk2 ha, lk3 ha, lk4 ha, lk5 ha, lk6 ha, lk7 ha, lk8 ha, lk9 ha, lr0 ha, lr1 ha, lr2 ha, lr3 ha, lr4 ha, lr5 ha, lr6 ha, lr7 ha, lr8 ha, wk hb, wk1 hb, wk2 hb, wk3 hb, wk4 hb, wk5 hb, wr0 hb, wr1 hb, wr2 hb, wr3 hb, wr4 hb, r1.1.2.1]
  refine ck_i rfl (cn_i (fun h => ?_) (fun h => ?_))
  · have sk : ¬ sLf l w x5 kp x3 x2 n (x9 + 1) → ∀ F', (∀ c, c ≠ b + 4 → c ≠ b + 5 → F' c = F0 c) → (∀ j : Nat, j < 6 → F' (b + 4) j = F (b + 4) j) → wph 2 256 144 [.inr (.inr (.inl 22)), jk, .inl x2, .inl x3, jk, .inl x5, .inl x6, .inr (.inr (.inl (b + 4))), .inl x8, .inl (x9 + 1)] [] (mm S F' G) (0, 0) Q := by
      intro hn F' hF' hj
      exact l_256 ha hb hS0 hS1 hv hw hrl hrw h2 h2' h3 h3' (by omega) (by omega) h6 h6' hF' ((hj 0 (by decide)).trans m0) ((hj 1 (by decide)).trans m1) ((hj 2 (by decide)).trans m2) ((hj 3 (by decide)).trans m3) ((hj 4 (by decide)).trans m4) ((hj 5 (by decide)).trans m5) (by rw [sMk_f (by omega) hn]; exact e8) hk
    have ac := r1.2.2.2.2.2.2.2 x2 x9 h2 h2' h9 h
    try simp (disch := omega) only [wr_id]
    rw [ac]
    refine ck_i rfl (ck_i rfl (ck_i (jb_i (by omega) (by omega)) (cn_i (fun g => ?_) (fun g => ?_))))
    · refine sk (fun q => ?_) F hF (fun _ _ => rfl)
      unfold sLf at q
      rw [if_neg (by omega), show x9 + 1 - 1 = x9 by omega] at q
      rw [if_pos q.1] at g
      have := sOth_b (p := x2) hv h9 h
      omega
    · have at1 : sAt l x9 x2 = 1 := by
        apply Classical.byContradiction
        intro q
        rw [if_neg q] at g
        exact g rfl
      rw [if_pos at1]
      have s0 : ∀ v, LR (u2 F (b + 4) 6 v) G a l := fun v => LR_c r1 (fun i hi => u2_o (by omega)) rfl
      refine ck_i rfl (ck_i rfl (ck_i rfl (c_206 ha (s0 _) hv4 h9 h h3 (by omega) (fun v1 e1 => ck_i rfl (ck_i rfl ?_)))))
      simp only [hS1, wk hb, wk1 hb, wk2 hb, wk3 hb, wk4 hb, wk5 hb, wr0 hb, wr1 hb, wr2 hb, wr3 hb, wr4 hb]
      have hF1 : ∀ c, c ≠ b + 4 → c ≠ b + 5 → (u2 (u2 F (b + 4) 6 (sOth l x9 x2)) (b + 4) 7 v1) c = F0 c := fun c c1 c2 => by rw [u2_o c1, u2_o c1]; exact hF c c1 c2
      have hj1 : ∀ j : Nat, j < 6 → (u2 (u2 F (b + 4) 6 (sOth l x9 x2)) (b + 4) 7 v1) (b + 4) j = F (b + 4) j := fun j hj => by rw [u2_n (by omega), u2_n (by omega)]
      refine ck_i rfl (c_228 hb hw (nm := sNm l kp x3 x2 n (sOth l x9 x2) (sSn l x9 x3)) (WR_c hrw (fun i hi => hF1 _ (by omega) (by omega))) (fun j j1 j2 => ?_) (fun v3 F' e3 hF' => ?_))
      · have c : j = 0 ∨ j = 1 ∨ j = 2 ∨ j = 3 ∨ j = 4 ∨ j = 5 ∨ j = 6 ∨ j = 7 := by omega
        rcases c with e | e | e | e | e | e | e | e <;> subst e
        · exact (hj1 0 (by decide)).trans m0
        · exact (hj1 1 (by decide)).trans m1
        · exact (hj1 2 (by decide)).trans m2
        · exact (hj1 3 (by decide)).trans m3
        · exact (hj1 4 (by decide)).trans m4
        · exact (hj1 5 (by decide)).trans m5
        · show u2 (u2 F (b + 4) 6 _) (b + 4) 7 _ (b + 4) 6 = _
          rw [u2_n (by decide), u2_s]
          rfl
        · show u2 (u2 F (b + 4) 6 _) (b + 4) 7 _ (b + 4) 7 = _
          rw [u2_s, e1]
          rfl
      · have hF2 : ∀ c, c ≠ b + 4 → c ≠ b + 5 → F' c = F0 c := fun c c1 c2 => (hF' c c2).trans (hF1 c c1 c2)
        have hj : ∀ j : Nat, j < 6 → F' (b + 4) j = F (b + 4) j := fun j hj => by rw [hF' (b + 4) (by omega)]; exact hj1 j hj
        have lf : sLf l w x5 kp x3 x2 n (x9 + 1) ↔ v3 = 1 := by
          unfold sLf
          rw [if_neg (by omega), show x9 + 1 - 1 = x9 by omega, e3]
          exact ⟨fun q => q.2, fun q => ⟨at1, q⟩⟩
        have h01 := sHo_01 w (sNm l kp x3 x2 n (sOth l x9 x2) (sSn l x9 x3)) 1 x5
        rw [← e3] at h01
        refine cn_i (fun z => ?_) (fun z => ?_)
        · exact sk (fun q => by rw [lf] at q; omega) F' hF2 hj
        · have mb := sMk_b (sLf l w x5 kp x3 x2 n) (x9 + 1).toNat
          rw [← e8] at mb
          rw [or_hi h9 (by omega) mb.1 mb.2]
          exact l_256 ha hb hS0 hS1 hv hw hrl hrw h2 h2' h3 h3' (by omega) (by omega) h6 h6' hF2 ((hj 0 (by decide)).trans m0) ((hj 1 (by decide)).trans m1) ((hj 2 (by decide)).trans m2) ((hj 3 (by decide)).trans m3) ((hj 4 (by decide)).trans m4) ((hj 5 (by decide)).trans m5) (by rw [sMk_t (by omega) (lf.mpr (by omega)), e8]) hk
  · have ex : x9 = l 1 := by omega
    subst ex
    have hkk := hk F hF
    have er : x8 = sRaw l w x5 kp x3 x2 n := e8
    unfold sMask at hkk
    rw [← er] at hkk
    refine cn_i (fun z => ?_) (fun z => ?_)
    · rw [if_pos z] at hkk
      refine cn_i (fun y => ?_) (fun y => ?_)
      · rw [if_pos y] at hkk
        exact ck_i (jb_i h6 (by omega)) hkk
      · rw [if_neg y] at hkk
        exact hkk
    · rw [if_neg z] at hkk
      refine cn_i (fun y => ?_) (fun y => ?_)
      · rw [if_pos y] at hkk
        exact ck_i (jb_i h6 (by omega)) hkk
      · rw [if_neg y] at hkk
        exact hkk
termination_by (l 1 - x9).toNat
decreasing_by all_goals omega
/-- masks that were worked before -/
def MC (g : Nat → Int) (l : Nat → Int) (w : La) : Prop := ∀ k h p n : Int, 0 ≤ k → k < 5 → 0 ≤ h → h < 24 → 0 ≤ p → p < 12 → 0 ≤ n → n < 13 → g ((k * 24 + h) * 156 + p * 13 + n).toNat = 0 ∨ g ((k * 24 + h) * 156 + p * 13 + n).toNat = sMask l w (-1) k h p n
theorem MC_s {g : Nat → Int} {l : Nat → Int} {w : La} {k h p n : Int} (hm : MC g l w) (k0 : 0 ≤ k) (k1 : k < 5) (h0 : 0 ≤ h) (h1 : h < 24) (p0 : 0 ≤ p) (p1 : p < 12) (n0 : 0 ≤ n) (n1 : n < 13) :
    MC (fun i => if i = ((k * 24 + h) * 156 + p * 13 + n).toNat then sMask l w (-1) k h p n else g i) l w := by
  intro k' h' p' n' a1 a2 a3 a4 a5 a6 a7 a8
  dsimp only
  by_cases c : k' = k ∧ h' = h ∧ p' = p ∧ n' = n
  · obtain ⟨c1, c2, c3, c4⟩ := c
    rw [c1, c2, c3, c4, if_pos rfl]
    exact Or.inr rfl
  · rw [if_neg (by omega)]
    exact hm k' h' p' n' a1 a2 a3 a4 a5 a6 a7 a8
/-- what looking a move up leaves as it is -/
def KL (b : Nat) (F F0 : FI) : Prop := ∀ c, c ≠ 23 → c ≠ b + 4 → c ≠ b + 5 → F c = F0 c
theorem sMask_b (l : Nat → Int) (w : La) (sk k h p n : Int) (hw : l 1 ≤ 24) (h0 : 0 ≤ l 1) : 1 ≤ sMask l w sk k h p n ∧ sMask l w sk k h p n < 33554432 := by
  have mb := sMk_b (sLf l w sk k h p n) (l 1 + 1).toNat
  have e : (2 : Int) ^ (l 1 + 1).toNat ≤ 2 ^ 25 := by
    have := Nat.pow_le_pow_right (n := 2) (by decide) (show (l 1 + 1).toNat ≤ 25 by omega)
    exact_mod_cast this
  have e2 : (2 : Int) ^ 25 = 33554432 := by decide
  unfold sMask sRaw
  split <;> omega
theorem m_256 {Q : Rs → Mm → Prop} {a b : Nat} {l : Nat → Int} {w : La} {x1 x2 x3 x4 x5 : Int} {S : FS} {F0 F1 : FI} {G : FJ} (ha : oL a) (hb : oW b) (hS0 : S 22 0 = a) (hS1 : S 22 1 = b) (hv : LV l) (hw : LW w) (hrl : LR F0 G a l) (hrw : WR F0 b w)
    (h1 : 0 ≤ x1) (h1' : x1 < 5) (h2 : 0 ≤ x2) (h2' : x2 < l 0) (h3 : 0 ≤ x3) (h3' : x3 < l 3) (h4 : 0 ≤ x4) (h4' : x4 < 13) (hF1 : ∀ c, c ≠ b + 4 → c ≠ b + 5 → F1 c = F0 c)
    (f0 : F1 (b + 4) 0 = x3) (f1 : F1 (b + 4) 1 = l 3 - x3) (f2 : F1 (b + 4) 2 = x4) (f3 : F1 (b + 4) 3 = if l (7 + x2).toNat = 1 then 1 else 0) (f4 : F1 (b + 4) 4 = x1) (f5 : F1 (b + 4) 5 = x2) (f6 : F1 (b + 4) 6 = x2) (f7 : F1 (b + 4) 7 = 0)
    (hk : ∀ F', (∀ c, c ≠ b + 4 → c ≠ b + 5 → F' c = F0 c) → Q (.inl (some (.inl (sMask l w x5 x1 x3 x2 x4)))) (mm S (if x5 = -1 then u2 F' 23 ((x1 * 24 + x3) * 156 + x2 * 13 + x4).toNat (sMask l w x5 x1 x3 x2 x4) else F') G)) :
    calI 1 228 [.inr (.inr (.inl b)), .inl 0, .inl x5] (mm S F1 G) (fun v2 S2 F2 G2 => cnd (decide (v2 = 0)) (wph 2 256 144 [.inr (.inr (.inl 22)), jk, .inl x2, .inl x3, jk, .inl x5, .inl ((x1 * 24 + x3) * 156 + x2 * 13 + x4), .inr (.inr (.inl (b + 4))), .inl 0, .inl 0] [] (mm S2 F2 G2) (0, 0) Q) (wph 2 256 144 [.inr (.inr (.inl 22)), jk, .inl x2, .inl x3, jk, .inl x5, .inl ((x1 * 24 + x3) * 156 + x2 * 13 + x4), .inr (.inr (.inl (b + 4))), .inl 1, .inl 0] [] (mm S2 F2 G2) (0, 0) Q)) nof := by
  have hv' := hv
  obtain ⟨⟨hv1, hv2⟩, ⟨hv3, hv4⟩, ⟨hv5, hv6⟩, ⟨hv7, hv8⟩, ⟨hv9, hv10⟩, ⟨hv11, hv12⟩, ⟨hv13, hv14⟩, hvw, hvs, hvk, hvc, hvx⟩ := id hv
  refine c_228 hb hw (nm := sNm l x1 x3 x2 x4 x2 0) (WR_c hrw (fun i hi => hF1 _ (by omega) (by omega))) (fun j j1 j2 => ?_) (fun v3 F' e3 hF' => ?_)
  · have c : j = 0 ∨ j = 1 ∨ j = 2 ∨ j = 3 ∨ j = 4 ∨ j = 5 ∨ j = 6 ∨ j = 7 := by omega
    rcases c with e | e | e | e | e | e | e | e <;> subst e
    · exact f0
    · exact f1
    · exact f2
    · exact f3
    · exact f4
    · exact f5
    · exact f6
    · exact f7
  · have hF2 : ∀ c, c ≠ b + 4 → c ≠ b + 5 → F' c = F0 c := fun c c1 c2 => (hF' c c2).trans (hF1 c c1 c2)
    have hj : F' (b + 4) = F1 (b + 4) := hF' (b + 4) (by omega)
    have h01 := sHo_01 w (sNm l x1 x3 x2 x4 x2 0) 0 x5
    rw [← e3] at h01
    have lf : sLf l w x5 x1 x3 x2 x4 0 ↔ v3 = 1 := by
      unfold sLf
      rw [if_pos rfl, e3]
    have go : ∀ y, y = sMk (sLf l w x5 x1 x3 x2 x4) (0 + 1 : Int).toNat → wph 2 256 144 [.inr (.inr (.inl 22)), jk, .inl x2, .inl x3, jk, .inl x5, .inl ((x1 * 24 + x3) * 156 + x2 * 13 + x4), .inr (.inr (.inl (b + 4))), .inl y, .inl 0] [] (mm S F' G) (0, 0) Q := fun y ey =>
      l_256 ha hb hS0 hS1 hv hw hrl hrw h2 h2' h3 h3' (by omega) hv3 (by omega) (by omega) hF2 (by rw [hj]; exact f0) (by rw [hj]; exact f1) (by rw [hj]; exact f2) (by rw [hj]; exact f3) (by rw [hj]; exact f4) (by rw [hj]; exact f5) ey hk
    refine cn_i (fun z => ?_) (fun z => ?_)
    · refine go 0 ?_
      rw [sMk_f (by omega) (fun q => by rw [lf] at q; omega)]
      rfl
    · refine go 1 ?_
      rw [sMk_t (by omega) (lf.mpr (by omega))]
      rfl
theorem c_256 {kk' : Int → FS → FI → FJ → Prop} {a b : Nat} {l : Nat → Int} {w : La} {x1 x2 x3 x4 x5 : Int} {S : FS} {F : FI} {G : FJ} (ha : oL a) (hb : oW b) (hS0 : S 22 0 = a) (hS1 : S 22 1 = b) (hv : LV l) (hw : LW w) (hrl : LR F G a l) (hrw : WR F b w) (hm : MC (F 23) l w)
    (h1 : 0 ≤ x1) (h1' : x1 < 5) (h2 : 0 ≤ x2) (h2' : x2 < l 0) (h3 : 0 ≤ x3) (h3' : x3 < l 3) (h4 : 0 ≤ x4) (h4' : x4 < 13)
    (hk : ∀ F', KL b F' F → MC (F' 23) l w → kk' (sMask l w x5 x1 x3 x2 x4) S F' G) : calI 2 256 [.inr (.inr (.inl 22)), .inl x1, .inl x2, .inl x3, .inl x4, .inl x5] (mm S F G) kk' nof := by
  have hv' := hv
  obtain ⟨⟨hv1, hv2⟩, ⟨hv3, hv4⟩, ⟨hv5, hv6⟩, ⟨hv7, hv8⟩, ⟨hv9, hv10⟩, ⟨hv11, hv12⟩, ⟨hv13, hv14⟩, hvw, hvs, hvk, hvc, hvx⟩ := id hv
  have hso := hrl.2.1 x2 h2 h2'
  have hho := hrl.1.2.2.2.1
  have hk' : ∀ F', (∀ c, c ≠ b + 4 → c ≠ b + 5 → F' c = F c) → kk' (sMask l w x5 x1 x3 x2 x4) S (if x5 = -1 then u2 F' 23 ((x1 * 24 + x3) * 156 + x2 * 13 + x4).toNat (sMask l w x5 x1 x3 x2 x4) else F') G := by
    intro F' hF'
    by_cases q : x5 = -1
    · rw [if_pos q]
      refine hk _ (fun c c1 c2 c3 => by rw [u2_o c1]; exact hF' c c2 c3) ?_
      have := MC_s hm h1 h1' h3 (by omega) h2 (by omega) h4 h4'
      have e : u2 F' 23 ((x1 * 24 + x3) * 156 + x2 * 13 + x4).toNat (sMask l w x5 x1 x3 x2 x4) 23 = fun i => if i = ((x1 * 24 + x3) * 156 + x2 * 13 + x4).toNat then sMask l w (-1) x1 x3 x2 x4 else F 23 i := by
        funext i
        rw [u2_k, hF' 23 (by omega) (by omega), q]
      rw [e]
      exact this
    · rw [if_neg q]
      refine hk _ (fun c _ c2 c3 => hF' c c2 c3) ?_
      rw [hF' 23 (by omega) (by omega)]
      exact hm
  refine sg_256_0 ?_
  simp only [hS0, hS1, lk ha, lk1 ha, lk2 ha, lk3 ha, lk4 ha, lk5 ha, lk6 ha, lk7 ha, lk8 ha, lk9 ha, lr0 ha, lr1 ha, lr2 ha, lr3 ha, lr4 ha, lr5 ha, lr6 ha, lr7 ha, lr8 ha, wk hb, wk1 hb, wk2 hb, wk3 hb, wk4 hb, wk5 hb, wr0 hb, wr1 hb, wr2 hb, wr3 hb, wr4 hb]
  have z0 : wr (wr (wr (wr (wr (x1 * 24) + x3) * 156) + wr (x2 * 13)) + x4) = (x1 * 24 + x3) * 156 + x2 * 13 + x4 := by
    try simp (disch := omega) only [wr_id]
  simp only [z0]
  simp (disch := omega) only [u2_o, hso, hho]
  have z1 : wr (l 3 - x3) = l 3 - x3 := wr_id (by omega) (by omega)
  simp only [z1]
  have go : ∀ y, y = (if l (7 + x2).toNat = 1 then (1 : Int) else 0) → ∀ F1, F1 = u2 (u2 (u2 (u2 (u2 (u2 (u2 (u2 F (b + 4) 0 x3) (b + 4) 1 (l 3 - x3)) (b + 4) 2 x4) (b + 4) 3 y) (b + 4) 4 x1) (b + 4) 5 x2) (b + 4) 6 x2) (b + 4) 7 0 → (∀ c, c ≠ b + 4 → c ≠ b + 5 → F1 c = F c) ∧ F1 (b + 4) 0 = x3 ∧ F1 (b + 4) 1 = l 3 - x3 ∧ F1 (b + 4) 2 = x4 ∧ F1 (b + 4) 3 = (if l (7 + x2).toNat = 1 then 1 else 0) ∧ F1 (b + 4) 4 = x1 ∧ F1 (b + 4) 5 = x2 ∧ F1 (b + 4) 6 = x2 ∧ F1 (b + 4) 7 = 0 := by
    intro y ey F1 e1
    rw [e1, ← ey]
    refine ⟨fun c c1 c2 => by simp (disch := omega) only [u2_o], ?_⟩
    refine ⟨?_, ?_, ?_, ?_, ?_, ?_, ?_, ?_⟩ <;> simp (disch := omega) only [u2_s, u2_n]
  have work : ∀ Q : Rs → Mm → Prop, (∀ F', (∀ c, c ≠ b + 4 → c ≠ b + 5 → F' c = F c) → Q (.inl (some (.inl (sMask l w x5 x1 x3 x2 x4)))) (mm S (if x5 = -1 then u2 F' 23 ((x1 * 24 + x3) * 156 + x2 * 13 + x4).toNat (sMask l w x5 x1 x3 x2 x4) else F') G)) → ∀ y, y = (if l (7 + x2).toNat = 1 then (1 : Int) else 0) → calI 1 228 [.inr (.inr (.inl b)), .inl 0, .inl x5] (mm S (u2 (u2 (u2 (u2 (u2 (u2 (u2 (u2 F (b + 4) 0 x3) (b + 4) 1 (l 3 - x3)) (b + 4) 2 x4) (b + 4) 3 y) (b + 4) 4 x1) (b + 4) 5 x2) (b + 4) 6 x2) (b + 4) 7 0) G) (fun v2 S2 F2 G2 => cnd (decide (v2 = 0)) (wph 2 256 144 [.inr (.inr (.inl 22)), jk, .inl x2, .inl x3, jk, .inl x5, .inl ((x1 * 24 + x3) * 156 + x2 * 13 + x4), .inr (.inr (.inl (b + 4))), .inl 0, .inl 0] [] (mm S2 F2 G2) (0, 0) Q) (wph 2 256 144 [.inr (.inr (.inl 22)), jk, .inl x2, .inl x3, jk, .inl x5, .inl ((x1 * 24 + x3) * 156 + x2 * 13 + x4), .inr (.inr (.inl (b + 4))), .inl 1, .inl 0] [] (mm S2 F2 G2) (0, 0) Q)) nof := by
    intro Q hQ y ey
    obtain ⟨g0, g1, g2, g3, g4, g5, g6, g7, g8⟩ := go y ey _ rfl
    exact m_256 ha hb hS0 hS1 hv hw hrl hrw h1 h1' h2 h2' h3 h3' h4 h4' g0 g1 g2 g3 g4 g5 g6 g7 g8 hQ
  refine cn_i (fun q => ?_) (fun q => ?_)
  · refine ck_i (jb_i (by omega) (by omega)) (cn_i (fun z => ?_) (fun z => ?_))
    · refine ck_i rfl (ck_i rfl (ck_i rfl (ck_i rfl (ck_i rfl (ck_i rfl (ck_i rfl (ck_i rfl (ck_i rfl (ck_i rfl (ck_i (jb_i (by omega) (by omega)) (cn_i (fun y => ?_) (fun y => ?_))))))))))))
      · refine ck_i rfl (ck_i rfl (ck_i rfl (ck_i rfl (ck_i rfl (ck_i rfl (ck_i rfl (ck_i rfl (ck_i rfl (ck_i rfl (ck_i rfl (?_)))))))))))
        exact work _ (fun F' hF' => ⟨_, _, _, rfl, hk' F' hF'⟩) 1 (if_pos y).symm
      · refine ck_i rfl (ck_i rfl (ck_i rfl (ck_i rfl (ck_i rfl (ck_i rfl (ck_i rfl (ck_i rfl (ck_i rfl (ck_i rfl (ck_i rfl (?_)))))))))))
        exact work _ (fun F' hF' => ⟨_, _, _, rfl, hk' F' hF'⟩) 0 (if_neg y).symm
    · refine ck_i (jb_i (by omega) (by omega)) ⟨_, _, _, rfl, ?_⟩
      have := hm x1 x3 x2 x4 h1 h1' h3 (by omega) h2 (by omega) h4 h4'
      have e : F 23 ((x1 * 24 + x3) * 156 + x2 * 13 + x4).toNat = sMask l w x5 x1 x3 x2 x4 := by
        rw [q]
        exact this.resolve_left z
      show kk' (F 23 _) S F G
      rw [e]
      exact hk F (fun _ _ _ _ => rfl) hm
  · refine ck_i rfl (ck_i rfl (ck_i rfl (ck_i rfl (ck_i rfl (ck_i rfl (ck_i rfl (ck_i rfl (ck_i rfl (ck_i rfl (ck_i (jb_i (by omega) (by omega)) (cn_i (fun y => ?_) (fun y => ?_))))))))))))
    · refine ck_i rfl (ck_i rfl (ck_i rfl (ck_i rfl (ck_i rfl (ck_i rfl (ck_i rfl (ck_i rfl (ck_i rfl (ck_i rfl (ck_i rfl (?_)))))))))))
      exact work _ (fun F' hF' => ⟨_, _, _, rfl, hk' F' hF'⟩) 1 (if_pos y).symm
    · refine ck_i rfl (ck_i rfl (ck_i rfl (ck_i rfl (ck_i rfl (ck_i rfl (ck_i rfl (ck_i rfl (ck_i rfl (ck_i rfl (ck_i rfl (?_)))))))))))
      exact work _ (fun F' hF' => ⟨_, _, _, rfl, hk' F' hF'⟩) 0 (if_neg y).symm
