/-! ===== the class reads a land ===== -/
theorem RV_sy {l : Nat → Int} (hv : RV l) {h : Int} (h0 : 0 ≤ h) (h1 : h < 24) : sSyP l h ↔ pSy l h := by
  obtain ⟨⟨a1, a2, a3, a4, a5, a6, a7⟩, b1, b2, b3, b4, b5⟩ := hv
  unfold sSyP pSy sSn
  constructor
  · rintro ⟨w, x, y, z⟩
    exact ⟨w, x, by omega, z⟩
  · rintro ⟨w, x, y, z⟩
    refine ⟨w, x, ?_, z⟩
    apply Classical.byContradiction
    intro c
    have := (b2 w h x y h0 h1).2 (by omega)
    omega
theorem LRp_sy {F : FI} {a : Nat} {l : Nat → Int} (hl : LRp F a l) (hv : RV l) {h : Int} (h0 : 0 ≤ h) (h1 : h < 24) : F (a + 5) h.toNat = sSy l h := by
  have s := RV_sy hv h0 h1
  rcases hl.2.2.2.2.1 h h0 h1 with ⟨e, n⟩ | ⟨e, n⟩
  · rw [e]
    exact (if_neg (fun q => n (s.mp q))).symm
  · rw [e]
    exact (if_pos (s.mpr n)).symm
theorem c_204p {k : Int → FS → FI → FJ → Prop} {a : Nat} {l : Nat → Int} {x1 : Int} {S : FS} {F : FI} {G : FJ} (ha : oL a) (h5 : F (a + 5) x1.toNat = sSy l x1) (h0 : 0 ≤ x1) (h1 : x1 < 24) (hk : k (sSh l x1) S F G) :
    calI 0 204 [.inr (.inr (.inl a)), .inl x1] (mm S F G) k nof := by
  have h6 := sSy_01 l x1
  refine sg_204_0 ?_
  simp only [lk ha, lr4 ha, lk5 ha]
  rw [h5]
  have e : sSh l x1 = if sSy l x1 = 1 then 16 else 1 := rfl
  refine ck_i rfl (ck_i rfl (ck_i (jb_i h0 (by omega)) ?_))
  refine cn_i (fun g => ?_) (fun g => ?_)
  · rw [e, if_neg (by omega)] at hk
    exact ⟨_, _, _, rfl, hk⟩
  · rw [e, if_pos (by omega)] at hk
    exact ⟨_, _, _, rfl, hk⟩
theorem l_203_58 {Q : Rs → Mm → Prop} {F0 : FI} {a : Nat} {l : Nat → Int} {S : FS} {G : FJ} (ha : oL a) (hl : LRp F0 a l) (hv : RV l)
    (hk : ∀ F', (∀ c, c ≠ a + 9 → F' c = F0 c) → (∀ p w : Int, 0 ≤ p → p < l 0 → 0 ≤ w → w < l 1 → F' (a + 9) (p * 24 + w).toNat = if sAt l w p = 1 then sOth l w p else -1) → Q (.inl none) (mm S F' G)) :
    ∀ (K : Nat) (x : Int) (F : FI), (K : Int) = l 1 - x → 0 ≤ x → (∀ c, c ≠ a + 9 → F c = F0 c) → (∀ p w : Int, 0 ≤ p → p < l 0 → 0 ≤ w → w < l 1 → F (a + 9) (p * 24 + w).toNat = if w < x ∧ sAt l w p = 1 then sOth l w p else -1) → wph 1 203 58 [.inr (.inr (.inl a)), .inl x] [] (mm S F G) (0, 0) Q := by
  have ka : kq (kk a) 0 0 = true := by rw [lk ha]; rfl
  obtain ⟨⟨a1, a2, a3, a4, a5, a6, a7⟩, b1, -⟩ := hv
  have h10 := (LRp_h hl).2.1
  intro K
  induction K with
  | zero =>
    intro x F hK h0 hF hp
    have hh : F a 10 = l 1 := by rw [hF a (by omega)]; exact h10
    refine sg_203_58 (ck_i ka (cd_f (by rw [hh]; omega) (hk F hF (fun p w p0 p1 w0 w1 => ?_))))
    rw [hp p w p0 p1 w0 w1]
    by_cases q : sAt l w p = 1
    · rw [if_pos q, if_pos ⟨by omega, q⟩]
    · rw [if_neg q, if_neg (fun r => q r.2)]
  | succ K ih =>
    intro x F hK h0 hF hp
    have hh : F a 10 = l 1 := by rw [hF a (by omega)]; exact h10
    have e3 := hl.2.2.1 x h0 (by omega)
    obtain ⟨y1, y2, y3, y4, y5⟩ := b1 x h0 (by omega)
    have e19 : F (a + 2) x.toNat = l (19 + x).toNat := by rw [hF _ (by omega)]; exact e3.1
    have e43 : F (a + 3) x.toNat = l (43 + x).toNat := by rw [hF _ (by omega)]; exact e3.2
    refine sg_203_58 (ck_i ka (cd_t (by rw [hh]; omega) ?_))
    rw [lr1 ha, lr2 ha, lr8 ha, lk2 ha, lk3 ha, lk9 ha, u2_o (show a + 3 ≠ a + 9 by omega), u2_o (show a + 2 ≠ a + 9 by omega), e19, e43]
    obtain ⟨u, eu⟩ : ∃ u, u = l (19 + x).toNat := ⟨_, rfl⟩
    obtain ⟨v, ev⟩ : ∃ v, v = l (43 + x).toNat := ⟨_, rfl⟩
    rw [← eu] at y1 y2 y5
    rw [← ev] at y3 y4 y5
    rw [← eu, ← ev]
    rw [wr_id (a := u * 24) (by omega) (by omega), wr_id (a := v * 24) (by omega) (by omega), wr_id (a := u * 24 + x) (by omega) (by omega), wr_id (a := v * 24 + x) (by omega) (by omega), wr_id (a := x + 1) (by omega) (by omega)]
    have kb : ∀ i j : Nat, Nat.beq ((i, j) : Nat × Nat).1 i = true := fun i j => Nat.beq_refl i
    refine ck_i ka (ck_i ka (ck_i rfl (ck_i (jb_i (by omega) (by omega)) (ck_i ka (ck_i rfl (ck_i (jb_i (by omega) (by omega)) (ck_i rfl (ck_i (jb_i (by omega) (by omega)) (ck_i ka (ck_i ka (ck_i rfl (ck_i (jb_i (by omega) (by omega)) (ck_i ka (ck_i rfl (ck_i (jb_i (by omega) (by omega)) (ck_i rfl (ck_i (jb_i (by omega) (by omega)) ?_)))))))))))))))))
    refine ih (x + 1) _ (by omega) (by omega) (fun c hc => by rw [u2_o hc, u2_o hc]; exact hF c hc) (fun p w p0 p1 w0 w1 => ?_)
    rw [u2_k, u2_k, hp p w p0 p1 w0 w1]
    by_cases q : w = x
    · subst q
      have sat : sAt l w p = if u = p ∨ v = p then 1 else 0 := by rw [eu, ev]; rfl
      have sot : sOth l w p = if u = p then v else u := by rw [eu, ev]; rfl
      rw [sat, sot]
      by_cases q1 : p = v
      · subst q1
        rw [if_pos rfl, if_pos ⟨by omega, by rw [if_pos (Or.inr rfl)]⟩, if_neg y5]
      · by_cases q2 : p = u
        · subst q2
          rw [if_neg (by omega), if_pos rfl, if_pos ⟨by omega, by rw [if_pos (Or.inl rfl)]⟩, if_pos rfl]
        · rw [if_neg (by omega), if_neg (by omega), if_neg (by omega)]
          rw [if_neg (fun r => by
            have r2 := r.2
            rw [if_neg (by omega)] at r2
            exact absurd r2 (by decide))]
    · rw [if_neg (by omega), if_neg (by omega)]
      by_cases q2 : w < x ∧ sAt l w p = 1
      · rw [if_pos q2, if_pos ⟨by omega, q2.2⟩]
      · rw [if_neg q2, if_neg (fun r => q2 ⟨by omega, r.2⟩)]
theorem l_203_17 {Q : Rs → Mm → Prop} {a : Nat} {l : Nat → Int} {S : FS} {F : FI} {G0 : FJ} (ha : oL a) (hl : LRp F a l) (hv : RV l) (hlv : LV l)
    (hk : ∀ G', (∀ c, c ≠ a + 8 → G' c = G0 c) → (∀ h : Int, 0 ≤ h → h ≤ l 3 → G' (a + 8) h.toNat = sScH l h) → wph 1 203 58 [.inr (.inr (.inl a)), .inl 0] [] (mm S (yfl F (a + 9) 288 (-1)) G') (0, 0) Q) :
    ∀ (K : Nat) (x : Int) (G : FJ), (K : Int) = x + 1 → x < l 3 → (∀ c, c ≠ a + 8 → G c = G0 c) → (∀ h : Int, x < h → h ≤ l 3 → G (a + 8) h.toNat = sScH l h) → wph 1 203 17 [.inr (.inr (.inl a)), .inl x] [] (mm S F G) (0, 0) Q := by
  have ka : kq (kk a) 0 0 = true := by rw [lk ha]; rfl
  have l3 := hv.1.2.2.2.1
  intro K
  induction K with
  | zero =>
    intro x G hK hx hG hs
    refine sg_203_17 (cd_t (by omega) (ck_i ka ?_))
    rw [lr8 ha]
    exact c_343 (lk9 ha) (by decide) (hk G hG (fun h h0 h1 => hs h (by omega) h1))
  | succ K ih =>
    intro x G hK hx hG hs
    refine sg_203_17 (cd_f (by omega) ?_)
    rw [lr7 ha, lk8 ha, wr_id (a := x + 1) (by omega) (by omega), wr_id (by omega) (by omega)]
    refine ck_i ka (ck_i ka (ck_i rfl (ck_i (jb_i (by omega) (by omega)) (ck_i ka (c_204p (l := l) ha (LRp_sy hl hv (by omega) (by omega)) (by omega) (by omega) (ck_i rfl (ck_i (jb_i (by omega) (by omega)) ?_)))))))
    have e1 := hs (x + 1) (by omega) (by omega)
    have e2 := sSc_s l (h := x) (by omega) hx
    have e3 := sScH_b hlv (h := x) (by omega) (by omega)
    have e2' : sScH l x = sScH l (x + 1) * sSh l x := e2
    rw [e1, ← e2', wl_id (by omega) (by omega)]
    refine ih (x + -1) _ (by omega) (by omega) (fun c hc => by rw [u2_o hc]; exact hG c hc) (fun h h0 h1 => ?_)
    rw [u2_k]
    by_cases q : h = x
    · rw [if_pos (by rw [q]), q]
    · rw [if_neg (by omega)]
      exact hs h (by omega) h1
theorem c_203 {k : FS → FI → FJ → Prop} {a : Nat} {l : Nat → Int} {S : FS} {F : FI} {G : FJ} (ha : oL a) (hl : LRp F a l) (hv : RV l) (h0 : 1 ≤ l 0) (h2 : 1 ≤ l 2) (hk : ∀ F' G', (∀ c, c ≠ a + 9 → F' c = F c) → (∀ c, c ≠ a + 8 → G' c = G c) → LR F' G' a l → k S F' G') : calV 1 203 [.inr (.inr (.inl a))] (mm S F G) k nof := by
  have ka : kq (kk a) 0 0 = true := by rw [lk ha]; rfl
  have hlv := RV_LV hv h0 h2
  have r := hv.1
  have l3 := r.2.2.2.1
  have e12 : F a 12 = l 3 := hl.1.2.2.2.1
  refine sg_203_0 ?_
  rw [lr7 ha, lk8 ha, e12, wr_id (by omega) (by omega)]
  refine ck_i ka (ck_i ka (ck_i rfl (ck_i (jb_i (by omega) (by omega)) (ck_i ka ?_))))
  refine l_203_17 (G0 := G) ha hl hv hlv (fun G' hG hs => ?_) (l 3).toNat (l 3 - 1) _ (by omega) (by omega) (fun c hc => u2_o hc) (fun h h0 h1 => ?_)
  · refine l_203_58 (F0 := F) ha hl hv (fun F' hF hp => ⟨_, _, _, rfl, hk F' G' hF hG ?_⟩) (l 1).toNat 0 _ (by omega) (Int.le_refl 0) (fun c hc => yfl_o hc) (fun p w p0 p1 w0 w1 => ?_)
    · rw [yfl_i (by omega), if_neg (fun q => by omega)]
    · obtain ⟨g1, g2, g3, g4, g5, g6, g7⟩ := LRp_c (F' := F) hl (fun _ _ => rfl)
      unfold LR
      rw [hF a (by omega), hF (a + 1) (by omega), hF (a + 4) (by omega), hF (a + 5) (by omega), hF (a + 6) (by omega), hF (a + 7) (by omega)]
      exact ⟨g1, g2, fun w h w0 w1 h0 h1 => g4 w h w0 (by omega) h0 h1, fun h h0 h1 => LRp_sy hl hv h0 h1, g6, fun k p k0 k1 p0 p1 => g7 k p k0 (by omega) p0 (by omega), hs, hp⟩
  · have e : h = l 3 := by omega
    rw [e, u2_s]
    show 1 = sSc l (l 3 - l 3).toNat
    rw [show (l 3 - l 3).toNat = 0 by omega]
    rfl
theorem c_202 {k : FS → FI → FJ → Prop} {a : Nat} {S : FS} {F : FI} {G : FJ} (g : Nat → Int) (ha : oL a) (hk : ∀ F', (∀ c, ¬ (a ≤ c ∧ c ≤ a + 9) → F' c = F c) → LRp F' a (l00 g) → k S F' G) : calV 1 202 [.inr (.inr (.inl a))] (mm S F G) k nof := by
  have ka : kq (kk a) 0 0 = true := by rw [lk ha]; rfl
  refine sg_202_0 (ck_i ka ?_)
  rw [lr3 ha, lr4 ha, lr6 ha]
  refine c_343 (lk4 ha) (by decide) (ck_i ka (c_343 (lk5 ha) (by decide) (ck_i ka (c_343 (lk7 ha) (by decide) (ck_i ka (ck_i ka (ck_i ka (ck_i ka (ck_i ka (ck_i ka (ck_i ka ⟨_, _, _, rfl, hk _ ?_ ?_⟩))))))))))) 
  · intro c hc
    rw [u2_o (by omega), u2_o (by omega), u2_o (by omega), u2_o (by omega), u2_o (by omega), u2_o (by omega), u2_o (by omega), yfl_o (by omega), yfl_o (by omega), yfl_o (by omega)]
  · have z : ∀ j : Nat, j < 708 → j ≠ 3 → j ≠ 4 → l00 g j = 0 := fun j h1 h2 h3 => by
      unfold l00
      rw [if_neg h3, if_neg h2, if_pos h1]
    have e3 : l00 g 3 = 12 := rfl
    have e4 : l00 g 4 = 12 := rfl
    refine ⟨⟨?_, ?_, ?_, ?_, ?_, ?_, ?_⟩, fun p p0 p1 => ?_, fun w w0 w1 => ?_, fun w h w0 w1 h0 h1 => ?_, fun h h0 h1 => ?_, fun k k0 k1 => ?_, fun k p k0 k1 p0 p1 => ?_⟩
    · rw [z 0 (by decide) (by decide) (by decide)]; rw [u2_n (by decide), u2_n (by decide), u2_n (by decide), u2_n (by decide), u2_n (by decide), u2_n (by decide), u2_s]
    · rw [z 1 (by decide) (by decide) (by decide)]; rw [u2_n (by decide), u2_n (by decide), u2_n (by decide), u2_n (by decide), u2_n (by decide), u2_s]
    · rw [z 2 (by decide) (by decide) (by decide)]; rw [u2_n (by decide), u2_n (by decide), u2_n (by decide), u2_n (by decide), u2_s]
    · rw [e3]; rw [u2_n (by decide), u2_n (by decide), u2_n (by decide), u2_s]
    · rw [e4]; rw [u2_n (by decide), u2_n (by decide), u2_s]
    · rw [z 5 (by decide) (by decide) (by decide)]; rw [u2_n (by decide), u2_s]
    · rw [z 6 (by decide) (by decide) (by decide)]; rw [u2_s]
    · rw [z 0 (by decide) (by decide) (by decide)] at p1
      omega
    · rw [z 1 (by decide) (by decide) (by decide)] at w1
      omega
    · rw [z (132 + 24 * w + h).toNat (by omega) (by omega) (by omega)]
      rw [u2_o (by omega), u2_o (by omega), u2_o (by omega), u2_o (by omega), u2_o (by omega), u2_o (by omega), u2_o (by omega), yfl_o (by omega), yfl_o (by omega), yfl_i (by omega)]
    · refine Or.inl ⟨?_, ?_⟩
      · rw [u2_o (by omega), u2_o (by omega), u2_o (by omega), u2_o (by omega), u2_o (by omega), u2_o (by omega), u2_o (by omega), yfl_o (by omega), yfl_i (by omega)]
      · rintro ⟨w, x, y, q⟩
        rw [z (132 + 24 * w + h).toNat (by omega) (by omega) (by omega)] at q
        omega
    · rw [z 2 (by decide) (by decide) (by decide)] at k1
      omega
    · rw [z (72 + 12 * k + p).toNat (by omega) (by omega) (by omega)]
      rw [u2_o (by omega), u2_o (by omega), u2_o (by omega), u2_o (by omega), u2_o (by omega), u2_o (by omega), u2_o (by omega), yfl_i (by omega)]
