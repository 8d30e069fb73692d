/-! ===== the class reads a line ===== -/
/-- a land as far as it is told, in the class's cells -/
def LRp (F : FI) (a : Nat) (l : Nat → Int) : Prop := (F a 9 = l 0 ∧ F a 10 = l 1 ∧ F a 11 = l 2 ∧ F a 12 = l 3 ∧ F a 13 = l 4 ∧ F a 14 = l 5 ∧ F a 15 = l 6) ∧
  (∀ p : Int, 0 ≤ p → p < l 0 → F (a + 1) p.toNat = l (7 + p).toNat) ∧ (∀ w : Int, 0 ≤ w → w < l 1 → F (a + 2) w.toNat = l (19 + w).toNat ∧ F (a + 3) w.toNat = l (43 + w).toNat) ∧
  (∀ w h : Int, 0 ≤ w → w < 24 → 0 ≤ h → h < 24 → F (a + 4) (w * 24 + h).toNat = l (132 + 24 * w + h).toNat) ∧ (∀ h : Int, 0 ≤ h → h < 24 → (F (a + 5) h.toNat = 0 ∧ ¬ pSy l h ∨ F (a + 5) h.toNat = 1 ∧ pSy l h)) ∧
  (∀ k : Int, 0 ≤ k → k < l 2 → F (a + 6) k.toNat = l (67 + k).toNat) ∧ (∀ k p : Int, 0 ≤ k → k < 5 → 0 ≤ p → p < 12 → F (a + 7) (k * 12 + p).toNat = l (72 + 12 * k + p).toNat)
theorem LRp_c {F F' : FI} {a : Nat} {l : Nat → Int} (h : LRp F a l) (hF : ∀ i, i < 8 → F' (a + i) = F (a + i)) : LRp F' a l := by
  have h0 := hF 0 (by decide)
  rw [Nat.add_zero] at h0
  unfold LRp at h ⊢
  rw [h0, hF 1 (by decide), hF 2 (by decide), hF 3 (by decide), hF 4 (by decide), hF 5 (by decide), hF 6 (by decide), hF 7 (by decide)]
  exact h
def FRc (a : Nat) (F F' : FI) : Prop := (∀ c, c ≠ 2 → ¬ (a ≤ c ∧ c ≤ a + 9) → F' c = F c) ∧ F' 2 1 = F 2 1
theorem FRc_r {a : Nat} {F : FI} : FRc a F F := ⟨fun _ _ _ => rfl, rfl⟩
theorem FRc_t {a : Nat} {F F1 F2 : FI} (h1 : FRc a F F1) (h2 : FRc a F1 F2) : FRc a F F2 := ⟨fun c x y => (h2.1 c x y).trans (h1.1 c x y), h2.2.trans h1.2⟩
theorem FRc_f {a : Nat} {F F' : FI} (h : TF F F') : FRc a F F' := ⟨fun c x _ => h.1 c x, h.2 1 (by decide) (by decide) (by decide) (by decide)⟩
theorem FRc_u {a c i : Nat} {v : Int} {F F' : FI} (h : FRc a F F') (hc : a ≤ c ∧ c ≤ a + 9) (h2 : c ≠ 2) : FRc a F (u2 F' c i v) := ⟨fun d x y => by rw [u2_o (fun q => y (by rw [q]; exact hc))]; exact h.1 d x y, by rw [u2_o (Ne.symm h2)]; exact h.2⟩
theorem FRc_e {a : Nat} {F F' : FI} {kd at' : Int} (h : FRc a F F') : FRc a F (cFt F' kd at') := ⟨fun c x y => by unfold cFt; rw [u2_o x, u2_o x]; exact h.1 c x y, by unfold cFt; rw [u2_n (by decide), u2_n (by decide)]; exact h.2⟩
/-- .. and no fault is told -/
def FRd (a : Nat) (F F' : FI) : Prop := FRc a F F' ∧ F' 2 8 = F 2 8
theorem FRd_r {a : Nat} {F : FI} : FRd a F F := ⟨FRc_r, rfl⟩
theorem FRd_t {a : Nat} {F F1 F2 : FI} (h1 : FRd a F F1) (h2 : FRd a F1 F2) : FRd a F F2 := ⟨FRc_t h1.1 h2.1, h2.2.trans h1.2⟩
theorem FRd_f {a : Nat} {F F' : FI} (h : TF F F') : FRd a F F' := ⟨FRc_f h, h.2 8 (by decide) (by decide) (by decide) (by decide)⟩
theorem FRd_u {a c i : Nat} {v : Int} {F F' : FI} (h : FRd a F F') (hc : a ≤ c ∧ c ≤ a + 9) (h2 : c ≠ 2) : FRd a F (u2 F' c i v) := ⟨FRc_u h.1 hc h2, by rw [u2_o (Ne.symm h2)]; exact h.2⟩
theorem cFt_7 {F : FI} {kd at' : Int} : (cFt F kd at') 2 7 = kd ∧ (cFt F kd at') 2 8 = at' := by
  unfold cFt
  rw [u2_n (by decide), u2_s, u2_s]
  exact ⟨rfl, rfl⟩
/-- what comes of a line in the class -/
def OC (t : Nat → Int) (n : Int) (a : Nat) (F F' : FI) (R : Pz × (Nat → Int)) (v : Int) : Prop := FRc a F F' ∧ ((R.1.2.1 = -1 ∧ v = 1 ∧ CTk F' t n (pSp t n R.1.1) ∧ LRp F' a R.2 ∧ F' 2 8 = F 2 8) ∨ (R.1.2.1 ≠ -1 ∧ v = 0 ∧ F' 2 7 = R.1.2.2 ∧ F' 2 8 = R.1.2.1))
theorem OC_b {t : Nat → Int} {n : Int} {a : Nat} {F F' : FI} {q : Pz} {l : Nat → Int} (h : FRc a F F') (hq : q.2.1 ≠ -1) : OC t n a F (cFt F' q.2.2 q.2.1) (q, l) 0 := ⟨FRc_e h, Or.inr ⟨hq, rfl, cFt_7.1, cFt_7.2⟩⟩
theorem CTk_k {F F' : FI} {t : Nat → Int} {n b : Int} (h : CTk F t n b) (h2 : F' 2 = F 2) (h3 : F' 3 = F 3) : CTk F' t n b := by
  unfold CTk at h ⊢
  rw [h2, h3]
  exact h
theorem tE_w {t : Nat → Int} {n b : Int} {s : Nat} (hs : okW s) (hb : 0 ≤ b) (hn : b ≤ n) (h : pWd t n b = tC s) : tE t n b = pLe t n b := by
  have w := ((isW_i (t := t) hs hb hn).mpr h).1
  unfold tS at w
  unfold tE
  by_cases q0 : n ≤ b
  · rw [if_pos q0] at w
    exact absurd w (by decide)
  · rw [if_neg q0] at w ⊢
    split at w
    · exact absurd w (by decide)
    · split at w
      · rename_i q1 q2
        rw [if_neg q1, if_pos q2]
      · exact absurd w (by decide)
/-- the next word, number or sign -/
theorem c_adv {k : FS → FI → FJ → Prop} {t : Nat → Int} {n b : Int} {r : Pz} {S : FS} {F : FI} {G : FJ} (hc : CTk F t n b) (hr : r.1 = tE t n b) (hk : ∀ F', TF F F' → CTk F' t n (pSp t n r.1) → k S F' G) : calV 1 276 [.inr (.inr (.inl 2))] (mm S F G) k nof := by
  obtain ⟨⟨e2, e3, e4, e5⟩, e6, hb, hs, hB⟩ := hc
  have te := tE_b (t := t) hb.1 hb.2.1
  exact c_276 (a := r.1) hb.2.2 (by omega) (by omega) hB e2 (by rw [e4, hr]) hk
theorem c_215_0 {k : Int → FS → FI → FJ → Prop} {t : Nat → Int} {n b : Int} {S : FS} {F : FI} {G : FJ} (hc : CTk F t n b) (hk : k 0 S (cFt F 3 b) G) : calI 2 215 [.inr (.inr (.inl 4)), .inl 0] (mm S F G) k nof :=
  sg_215_0 (cd_t rfl (c_281 hc (ck_i rfl ⟨_, _, _, rfl, hk⟩)))
theorem c_215_1 {k : Int → FS → FI → FJ → Prop} {t : Nat → Int} {n b : Int} {r : Pz} {S : FS} {F : FI} {G : FJ} (hc : CTk F t n b) (hr : r.1 = tE t n b) (hk : ∀ F', TF F F' → CTk F' t n (pSp t n r.1) → k 1 S F' G) : calI 2 215 [.inr (.inr (.inl 4)), .inl 1] (mm S F G) k nof :=
  sg_215_0 (cd_f (by decide) (c_adv hc hr (fun F' f c => ⟨_, _, _, rfl, hk F' f c⟩)))
/-- a number, read well -/
def gNum (t : Nat → Int) (n lo hi : Int) (p : Pz) (F F' : FI) : Prop := TF F F' ∧ (pNb t n p lo hi).2.2.1 = -1 ∧ (lo ≤ (pNb t n p lo hi).1 ∧ (pNb t n p lo hi).1 ≤ hi ∧ 0 ≤ (pNb t n p lo hi).1) ∧ CTk F' t n (pSp t n p.1) ∧ (pNb t n p lo hi).2.1 = tE t n (pSp t n p.1) ∧ F' 2 6 = (pNb t n p lo hi).1
theorem c_num {k : Int → FS → FI → FJ → Prop} {t : Nat → Int} {n lo hi : Int} {p : Pz} {S : FS} {F0 F : FI} {G : FJ} (tf : TF F0 F) (hc : CTk F t n (pSp t n p.1)) (hp : p.2.1 = -1) (hhi : hi ≤ 9999)
    (good : gNum t n lo hi p F0 F → k 1 S F G) (bad : ∀ q, q = (pNb t n p lo hi).2 → q.2.1 ≠ -1 → k 0 S (cFt F q.2.2 q.2.1) G) : calI 1 282 [.inr (.inr (.inl 2)), .inl lo, .inl hi] (mm S F G) k nof := by
  refine c_282 hc hp hhi (fun v ev vb e2 e6 => good ⟨tf, ?_, ?_, hc, ?_, ?_⟩) bad
  · rw [e2]; exact hp
  · rw [← ev]; exact vb
  · rw [e2]; rfl
  · rw [e6, ev]
theorem c_214 {k : Int → FS → FI → FJ → Prop} {t : Nat → Int} {n lo hi : Int} {p : Pz} {S : FS} {F : FI} {G : FJ} (hc : CTk F t n (pSp t n p.1)) (hp : p.2.1 = -1) (he : tE t n (pSp t n p.1) = pLe t n (pSp t n p.1)) (hhi : hi ≤ 9999)
    (good : ∀ F', gNum t n lo hi (pAt p (pLe t n (pSp t n p.1))) F F' → k 1 S F' G) (bad : ∀ F' q, TF F F' → q = (pNb t n (pAt p (pLe t n (pSp t n p.1))) lo hi).2 → q.2.1 ≠ -1 → k 0 S (cFt F' q.2.2 q.2.1) G) : calI 3 214 [.inr (.inr (.inl 4)), .inl 1, .inl lo, .inl hi] (mm S F G) k nof := by
  refine sg_214_0 (c_215_1 (r := pAt p (pLe t n (pSp t n p.1))) hc he.symm (fun F1 f1 c1 => cd_f (by decide) ?_))
  exact c_num f1 c1 hp hhi (fun g => cd_f (by decide) ⟨_, _, _, rfl, good F1 g⟩) (fun q eq hq => cd_t rfl ⟨_, _, _, rfl, bad F1 q f1 eq hq⟩)
theorem c_214_0 {k : Int → FS → FI → FJ → Prop} {t : Nat → Int} {n b lo hi : Int} {S : FS} {F : FI} {G : FJ} (hc : CTk F t n b) (hk : k 0 S (cFt F 3 b) G) : calI 3 214 [.inr (.inr (.inl 4)), .inl 0, .inl lo, .inl hi] (mm S F G) k nof :=
  sg_214_0 (c_215_0 hc (cd_t rfl ⟨_, _, _, rfl, hk⟩))
theorem c_216 {k : Int → FS → FI → FJ → Prop} {t : Nat → Int} {n b lo hi : Int} {r : Pz} {S : FS} {F : FI} {G : FJ} (hc : CTk F t n b) (hr : r.1 = tE t n b) (hp : r.2.1 = -1) (hhi : hi ≤ 9999)
    (good : ∀ F', gNum t n lo hi r F F' → k 1 S F' G) (bad : ∀ F' q, TF F F' → q = (pNb t n r lo hi).2 → q.2.1 ≠ -1 → k 0 S (cFt F' q.2.2 q.2.1) G) : calI 2 216 [.inr (.inr (.inl 4)), .inl lo, .inl hi] (mm S F G) k nof := by
  refine sg_216_0 (c_adv hc hr (fun F1 f1 c1 => ?_))
  exact c_num f1 c1 hp hhi (fun g => ck_i rfl ⟨_, _, _, rfl, good F1 g⟩) (fun q eq hq => ck_i rfl ⟨_, _, _, rfl, bad F1 q f1 eq hq⟩)
theorem c_217 {k : Int → FS → FI → FJ → Prop} {t : Nat → Int} {n b : Int} {r : Pz} {S : FS} {F : FI} {G : FJ} (hc : CTk F t n b) (hr : r.1 = tE t n b) (hk : ∀ F', TF F F' → CTk F' t n (pSp t n r.1) → k 1 S F' G) : calI 2 217 [.inr (.inr (.inl 4)), .inl 1] (mm S F G) k nof :=
  sg_217_0 (cd_f (by decide) (c_adv hc hr (fun F' f c => ck_i rfl ⟨_, _, _, rfl, hk F' f c⟩)))
theorem LRp_t {F F' : FI} {a : Nat} {l : Nat → Int} (ha : oL a) (h : LRp F a l) (hF : TF F F') : LRp F' a l := LRp_c h (fun i _ => hF.1 _ (by omega))
/-- one number of the land is told -/
theorem LRp_1 {F : FI} {a : Nat} {l : Nat → Int} {i : Nat} {v : Int} (ha : oL a) (h : LRp F a l) (hi : 3 ≤ i) (hi' : i ≤ 6) : LRp (u2 F a (9 + i) v) a (uL l i v) := by
  obtain ⟨⟨h9, h10, h11, h12, h13, h14, h15⟩, h2, h3, h4, h5, h6, h7⟩ := h
  have un : ∀ j : Nat, j ≠ i → uL l i v j = l j := fun j hj => if_neg hj
  have us : uL l i v i = v := if_pos rfl
  have cell : ∀ c, c ≠ a → u2 F a (9 + i) v c = F c := fun c hc => u2_o hc
  have sy : ∀ h : Int, 0 ≤ h → (pSy (uL l i v) h ↔ pSy l h) := fun h h0 => pSy_s (fun w w0 w1 => un _ (by omega))
  refine ⟨⟨?_, ?_, ?_, ?_, ?_, ?_, ?_⟩, fun p p0 p1 => ?_, fun w w0 w1 => ?_, fun w h w0 w1 h0 h1 => ?_, fun h h0 h1 => ?_, fun k k0 k1 => ?_, fun k p k0 k1 p0 p1 => ?_⟩
  · rw [u2_n (by omega), un 0 (by omega)]; exact h9
  · rw [u2_n (by omega), un 1 (by omega)]; exact h10
  · rw [u2_n (by omega), un 2 (by omega)]; exact h11
  · rw [u2_k]
    by_cases q : i = 3
    · subst q; rw [if_pos rfl, us]
    · rw [if_neg (by omega), un 3 (by omega)]; exact h12
  · rw [u2_k]
    by_cases q : i = 4
    · subst q; rw [if_pos rfl, us]
    · rw [if_neg (by omega), un 4 (by omega)]; exact h13
  · rw [u2_k]
    by_cases q : i = 5
    · subst q; rw [if_pos rfl, us]
    · rw [if_neg (by omega), un 5 (by omega)]; exact h14
  · rw [u2_k]
    by_cases q : i = 6
    · subst q; rw [if_pos rfl, us]
    · rw [if_neg (by omega), un 6 (by omega)]; exact h15
  · rw [un 0 (by omega)] at p1
    rw [cell _ (by omega), un _ (by omega)]; exact h2 p p0 p1
  · rw [un 1 (by omega)] at w1
    rw [cell _ (by omega), cell _ (by omega), un _ (by omega), un _ (by omega)]; exact h3 w w0 w1
  · rw [cell _ (by omega), un _ (by omega)]; exact h4 w h w0 w1 h0 h1
  · rw [cell _ (by omega), sy h h0]; exact h5 h h0 h1
  · rw [un 2 (by omega)] at k1
    rw [cell _ (by omega), un _ (by omega)]; exact h6 k k0 k1
  · rw [cell _ (by omega), un _ (by omega)]; exact h7 k p k0 k1 p0 p1
/-- a place more -/
theorem LRp_p {F : FI} {a : Nat} {l : Nat → Int} {v : Int} (ha : oL a) (h : LRp F a l) (hb : 0 ≤ l 0 ∧ l 0 < 12) (hr : RV l) : LRp (u2 (u2 F (a + 1) (l 0).toNat v) a 9 (l 0 + 1)) a (uL (uL l (7 + l 0).toNat v) 0 (l 0 + 1)) := by
  obtain ⟨⟨h9, h10, h11, h12, h13, h14, h15⟩, h2, h3, h4, h5, h6, h7⟩ := h
  have r1 := hr.1.2.1
  have r2 := hr.1.2.2.1
  obtain ⟨l', el⟩ : ∃ l', l' = uL (uL l (7 + l 0).toNat v) 0 (l 0 + 1) := ⟨_, rfl⟩
  rw [← el]
  have e0 : l' 0 = l 0 + 1 := by rw [el]; exact if_pos rfl
  have e7 : l' (7 + l 0).toNat = v := by
    rw [el]
    show (if _ = 0 then _ else if _ = _ then _ else _) = _
    rw [if_neg (by omega), if_pos rfl]
  have en : ∀ j : Nat, j ≠ 0 → j ≠ (7 + l 0).toNat → l' j = l j := fun j j0 j1 => by
    rw [el]
    show (if j = 0 then _ else if j = _ then _ else _) = _
    rw [if_neg j0, if_neg j1]
  have cell : ∀ c, c ≠ a → c ≠ a + 1 → u2 (u2 F (a + 1) (l 0).toNat v) a 9 (l 0 + 1) c = F c := fun c hc hc2 => by rw [u2_o hc, u2_o hc2]
  have head : ∀ i, i ≠ 9 → u2 (u2 F (a + 1) (l 0).toNat v) a 9 (l 0 + 1) a i = F a i := fun i hi => by rw [u2_n hi, u2_o (by omega)]
  have sy : ∀ h : Int, 0 ≤ h → (pSy l' h ↔ pSy l h) := fun h h0 => pSy_s (fun w w0 w1 => en _ (by omega) (by omega))
  refine ⟨⟨?_, ?_, ?_, ?_, ?_, ?_, ?_⟩, fun p p0 p1 => ?_, fun w w0 w1 => ?_, fun w h w0 w1 h0 h1 => ?_, fun h h0 h1 => ?_, fun k k0 k1 => ?_, fun k p k0 k1 p0 p1 => ?_⟩
  · rw [u2_s, e0]
  · rw [head 10 (by decide), en 1 (by decide) (by omega)]; exact h10
  · rw [head 11 (by decide), en 2 (by decide) (by omega)]; exact h11
  · rw [head 12 (by decide), en 3 (by decide) (by omega)]; exact h12
  · rw [head 13 (by decide), en 4 (by decide) (by omega)]; exact h13
  · rw [head 14 (by decide), en 5 (by decide) (by omega)]; exact h14
  · rw [head 15 (by decide), en 6 (by decide) (by omega)]; exact h15
  · rw [u2_o (by omega), u2_k]
    by_cases q : p = l 0
    · rw [if_pos (by rw [q]), q, e7]
    · rw [if_neg (by omega), en _ (by omega) (by omega)]
      exact h2 p p0 (by omega)
  · rw [en 1 (by decide) (by omega)] at w1
    rw [cell _ (by omega) (by omega), cell _ (by omega) (by omega), en _ (by omega) (by omega), en _ (by omega) (by omega)]; exact h3 w w0 w1
  · rw [cell _ (by omega) (by omega), en _ (by omega) (by omega)]; exact h4 w h w0 w1 h0 h1
  · rw [cell _ (by omega) (by omega), sy h h0]; exact h5 h h0 h1
  · rw [en 2 (by decide) (by omega)] at k1
    rw [cell _ (by omega) (by omega), en _ (by omega) (by omega)]; exact h6 k k0 k1
  · rw [cell _ (by omega) (by omega), en _ (by omega) (by omega)]; exact h7 k p k0 k1 p0 p1
/-- a way more -/
theorem LRp_w {F : FI} {a : Nat} {l : Nat → Int} {x y : Int} (ha : oL a) (h : LRp F a l) (hb : 0 ≤ l 1 ∧ l 1 < 24) (hr : RV l) : LRp (u2 (u2 (u2 F (a + 2) (l 1).toNat x) (a + 3) (l 1).toNat y) a 10 (l 1 + 1)) a (uL (uL (uL l (19 + l 1).toNat x) (43 + l 1).toNat y) 1 (l 1 + 1)) := by
  obtain ⟨⟨h9, h10, h11, h12, h13, h14, h15⟩, h2, h3, h4, h5, h6, h7⟩ := h
  have r0 := hr.1.1
  have r2 := hr.1.2.2.1
  obtain ⟨l', el⟩ : ∃ l', l' = uL (uL (uL l (19 + l 1).toNat x) (43 + l 1).toNat y) 1 (l 1 + 1) := ⟨_, rfl⟩
  rw [← el]
  have e1 : l' 1 = l 1 + 1 := by rw [el]; exact if_pos rfl
  have ex : l' (19 + l 1).toNat = x := by
    rw [el]
    show (if _ = 1 then _ else if _ = _ then _ else if _ = _ then _ else _) = _
    rw [if_neg (by omega), if_neg (by omega), if_pos rfl]
  have ey : l' (43 + l 1).toNat = y := by
    rw [el]
    show (if _ = 1 then _ else if _ = _ then _ else if _ = _ then _ else _) = _
    rw [if_neg (by omega), if_pos rfl]
  have en : ∀ j : Nat, j ≠ 1 → j ≠ (19 + l 1).toNat → j ≠ (43 + l 1).toNat → l' j = l j := fun j j0 j1 j2 => by
    rw [el]
    show (if j = 1 then _ else if j = _ then _ else if j = _ then _ else _) = _
    rw [if_neg j0, if_neg j2, if_neg j1]
  obtain ⟨M, eM⟩ : ∃ M, M = u2 (u2 (u2 F (a + 2) (l 1).toNat x) (a + 3) (l 1).toNat y) a 10 (l 1 + 1) := ⟨_, rfl⟩
  rw [← eM]
  have cell : ∀ c, c ≠ a → c ≠ a + 2 → c ≠ a + 3 → M c = F c := fun c hc hc2 hc3 => by rw [eM, u2_o hc, u2_o hc3, u2_o hc2]
  have head : ∀ i, i ≠ 10 → M a i = F a i := fun i hi => by rw [eM, u2_n hi, u2_o (by omega), u2_o (by omega)]
  have sy : ∀ h : Int, 0 ≤ h → (pSy l' h ↔ pSy l h) := fun h h0 => pSy_s (fun w w0 w1 => en _ (by omega) (by omega) (by omega))
  refine ⟨⟨?_, ?_, ?_, ?_, ?_, ?_, ?_⟩, fun p p0 p1 => ?_, fun w w0 w1 => ?_, fun w h w0 w1 h0 h1 => ?_, fun h h0 h1 => ?_, fun k k0 k1 => ?_, fun k p k0 k1 p0 p1 => ?_⟩
  · rw [head 9 (by decide), en 0 (by decide) (by omega) (by omega)]; exact h9
  · rw [eM, u2_s, e1]
  · rw [head 11 (by decide), en 2 (by decide) (by omega) (by omega)]; exact h11
  · rw [head 12 (by decide), en 3 (by decide) (by omega) (by omega)]; exact h12
  · rw [head 13 (by decide), en 4 (by decide) (by omega) (by omega)]; exact h13
  · rw [head 14 (by decide), en 5 (by decide) (by omega) (by omega)]; exact h14
  · rw [head 15 (by decide), en 6 (by decide) (by omega) (by omega)]; exact h15
  · rw [en 0 (by decide) (by omega) (by omega)] at p1
    rw [cell _ (by omega) (by omega) (by omega), en _ (by omega) (by omega) (by omega)]; exact h2 p p0 p1
  · rw [e1] at w1
    have m2 : M (a + 2) w.toNat = if w.toNat = (l 1).toNat then x else F (a + 2) w.toNat := by rw [eM, u2_o (by omega), u2_o (by omega), u2_k]
    have m3 : M (a + 3) w.toNat = if w.toNat = (l 1).toNat then y else F (a + 3) w.toNat := by rw [eM, u2_o (by omega), u2_k, u2_o (by omega)]
    rw [m2, m3]
    by_cases q : w = l 1
    · rw [if_pos (by rw [q]), if_pos (by rw [q]), q, ex, ey]
      exact ⟨rfl, rfl⟩
    · rw [if_neg (by omega), if_neg (by omega), en _ (by omega) (by omega) (by omega), en _ (by omega) (by omega) (by omega)]
      exact h3 w w0 (by omega)
  · rw [cell _ (by omega) (by omega) (by omega), en _ (by omega) (by omega) (by omega)]; exact h4 w h w0 w1 h0 h1
  · rw [cell _ (by omega) (by omega) (by omega), sy h h0]; exact h5 h h0 h1
  · rw [en 2 (by decide) (by omega) (by omega)] at k1
    rw [cell _ (by omega) (by omega) (by omega), en _ (by omega) (by omega) (by omega)]; exact h6 k k0 k1
  · rw [cell _ (by omega) (by omega) (by omega), en _ (by omega) (by omega) (by omega)]; exact h7 k p k0 k1 p0 p1
/-- a person more -/
theorem LRp_k {F : FI} {a : Nat} {l : Nat → Int} {v : Int} (ha : oL a) (h : LRp F a l) (hb : 0 ≤ l 2 ∧ l 2 < 5) (hr : RV l) : LRp (u2 (u2 F (a + 6) (l 2).toNat v) a 11 (l 2 + 1)) a (uL (uL l (67 + l 2).toNat v) 2 (l 2 + 1)) := by
  obtain ⟨⟨h9, h10, h11, h12, h13, h14, h15⟩, h2, h3, h4, h5, h6, h7⟩ := h
  have r0 := hr.1.1
  have r1 := hr.1.2.1
  obtain ⟨l', el⟩ : ∃ l', l' = uL (uL l (67 + l 2).toNat v) 2 (l 2 + 1) := ⟨_, rfl⟩
  rw [← el]
  have e0 : l' 2 = l 2 + 1 := by rw [el]; exact if_pos rfl
  have e7 : l' (67 + l 2).toNat = v := by
    rw [el]
    show (if _ = 2 then _ else if _ = _ then _ else _) = _
    rw [if_neg (by omega), if_pos rfl]
  have en : ∀ j : Nat, j ≠ 2 → j ≠ (67 + l 2).toNat → l' j = l j := fun j j0 j1 => by
    rw [el]
    show (if j = 2 then _ else if j = _ then _ else _) = _
    rw [if_neg j0, if_neg j1]
  have cell : ∀ c, c ≠ a → c ≠ a + 6 → u2 (u2 F (a + 6) (l 2).toNat v) a 11 (l 2 + 1) c = F c := fun c hc hc2 => by rw [u2_o hc, u2_o hc2]
  have head : ∀ i, i ≠ 11 → u2 (u2 F (a + 6) (l 2).toNat v) a 11 (l 2 + 1) a i = F a i := fun i hi => by rw [u2_n hi, u2_o (by omega)]
  have sy : ∀ h : Int, 0 ≤ h → (pSy l' h ↔ pSy l h) := fun h h0 => pSy_s (fun w w0 w1 => en _ (by omega) (by omega))
  refine ⟨⟨?_, ?_, ?_, ?_, ?_, ?_, ?_⟩, fun p p0 p1 => ?_, fun w w0 w1 => ?_, fun w h w0 w1 h0 h1 => ?_, fun h h0 h1 => ?_, fun k k0 k1 => ?_, fun k p k0 k1 p0 p1 => ?_⟩
  · rw [head 9 (by decide), en 0 (by decide) (by omega)]; exact h9
  · rw [head 10 (by decide), en 1 (by decide) (by omega)]; exact h10
  · rw [u2_s, e0]
  · rw [head 12 (by decide), en 3 (by decide) (by omega)]; exact h12
  · rw [head 13 (by decide), en 4 (by decide) (by omega)]; exact h13
  · rw [head 14 (by decide), en 5 (by decide) (by omega)]; exact h14
  · rw [head 15 (by decide), en 6 (by decide) (by omega)]; exact h15
  · rw [en 0 (by decide) (by omega)] at p1
    rw [cell _ (by omega) (by omega), en _ (by omega) (by omega)]; exact h2 p p0 p1
  · rw [en 1 (by decide) (by omega)] at w1
    rw [cell _ (by omega) (by omega), cell _ (by omega) (by omega), en _ (by omega) (by omega), en _ (by omega) (by omega)]; exact h3 w w0 w1
  · rw [cell _ (by omega) (by omega), en _ (by omega) (by omega)]; exact h4 w h w0 w1 h0 h1
  · rw [cell _ (by omega) (by omega), sy h h0]; exact h5 h h0 h1
  · rw [u2_o (by omega), u2_k]
    by_cases q : k = l 2
    · rw [if_pos (by rw [q]), q, e7]
    · rw [if_neg (by omega), en _ (by omega) (by omega)]
      exact h6 k k0 (by omega)
  · rw [cell _ (by omega) (by omega), en _ (by omega) (by omega)]; exact h7 k p k0 k1 p0 p1
/-- a wish -/
theorem LRp_n {F : FI} {a : Nat} {l : Nat → Int} {k0 p0 v : Int} (ha : oL a) (h : LRp F a l) (hk : 0 ≤ k0 ∧ k0 < 5) (hp : 0 ≤ p0 ∧ p0 < 12) (hr : RV l) : LRp (u2 F (a + 7) (k0 * 12 + p0).toNat v) a (uL l (72 + 12 * k0 + p0).toNat v) := by
  obtain ⟨⟨h9, h10, h11, h12, h13, h14, h15⟩, h2, h3, h4, h5, h6, h7⟩ := h
  have r0 := hr.1.1
  have r1 := hr.1.2.1
  have r2 := hr.1.2.2.1
  have en : ∀ j : Nat, j ≠ (72 + 12 * k0 + p0).toNat → uL l (72 + 12 * k0 + p0).toNat v j = l j := fun j hj => if_neg hj
  have cell : ∀ c, c ≠ a + 7 → u2 F (a + 7) (k0 * 12 + p0).toNat v c = F c := fun c hc => u2_o hc
  have sy : ∀ h : Int, 0 ≤ h → (pSy (uL l (72 + 12 * k0 + p0).toNat v) h ↔ pSy l h) := fun h h0 => pSy_s (fun w w0 w1 => en _ (by omega))
  refine ⟨⟨?_, ?_, ?_, ?_, ?_, ?_, ?_⟩, fun p p0 p1 => ?_, fun w w0 w1 => ?_, fun w h w0 w1 h0 h1 => ?_, fun h h0 h1 => ?_, fun k k0 k1 => ?_, fun k p k0' k1 p0' p1 => ?_⟩
  · rw [cell a (by omega), en 0 (by omega)]; exact h9
  · rw [cell a (by omega), en 1 (by omega)]; exact h10
  · rw [cell a (by omega), en 2 (by omega)]; exact h11
  · rw [cell a (by omega), en 3 (by omega)]; exact h12
  · rw [cell a (by omega), en 4 (by omega)]; exact h13
  · rw [cell a (by omega), en 5 (by omega)]; exact h14
  · rw [cell a (by omega), en 6 (by omega)]; exact h15
  · rw [en 0 (by omega)] at p1
    rw [cell _ (by omega), en _ (by omega)]; exact h2 p p0 p1
  · rw [en 1 (by omega)] at w1
    rw [cell _ (by omega), cell _ (by omega), en _ (by omega), en _ (by omega)]; exact h3 w w0 w1
  · rw [cell _ (by omega), en _ (by omega)]; exact h4 w h w0 w1 h0 h1
  · rw [cell _ (by omega), sy h h0]; exact h5 h h0 h1
  · rw [en 2 (by omega)] at k1
    rw [cell _ (by omega), en _ (by omega)]; exact h6 k k0 k1
  · rw [u2_k]
    by_cases q : k = k0 ∧ p = p0
    · rw [if_pos (by rw [q.1, q.2]), q.1, q.2]
      exact (if_pos rfl).symm
    · rw [if_neg (by omega), en _ (by omega)]
      exact h7 k p k0' k1 p0' p1
