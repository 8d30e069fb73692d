/-! ===== the class reads a line: each sort ===== -/
theorem TX_f {F F' : FI} (h : TX F) (hF : TF F F') : TX F' := by
  intro t i a b
  rw [hF.1 (2000000 + t) (by omega)]
  exact h t i a b
theorem pNb_sp {t : Nat → Int} {n lo hi : Int} {q : Pz} (h : q.1 ≤ n) (hq : q.2.1 = -1) : pNb t n (pAt q (pSp t n q.1)) lo hi = pNb t n q lo hi := by
  unfold pNb
  have e1 : (pAt q (pSp t n q.1)).1 = pSp t n q.1 := rfl
  have e2 : (pAt q (pSp t n q.1)).2.1 = q.2.1 := rfl
  have e3 : ∀ x, pAt (pAt q (pSp t n q.1)) x = pAt q x := fun _ => rfl
  simp only [e1, e2, e3, pSp_f h]
  rw [if_neg (show ¬ (q.2.1 ≠ -1) from fun r => r hq), if_neg (show ¬ (q.2.1 ≠ -1) from fun r => r hq)]
theorem pNb_x {t : Nat → Int} {n lo hi : Int} {q : Pz} (hq : q.2.1 ≠ -1) : pNb t n q lo hi = (0, q) := if_pos hq
theorem OC_f {t : Nat → Int} {n : Int} {a : Nat} {F F' : FI} {q : Pz} {R : Pz × (Nat → Int)} (h : FRd a F F') (hq : q.2.1 ≠ -1) (e : R.1.2 = q.2) : OC t n a F (cFt F' q.2.2 q.2.1) R 0 := ⟨FRc_e h.1, Or.inr ⟨by rw [e]; exact hq, rfl, by rw [e]; exact cFt_7.1, by rw [e]; exact cFt_7.2⟩⟩
theorem OC_g {t : Nat → Int} {n : Int} {a : Nat} {F F' : FI} {R : Pz × (Nat → Int)} (h : FRd a F F') (hq : R.1.2.1 = -1) (hc : CTk F' t n (pSp t n R.1.1)) (hl : LRp F' a R.2) : OC t n a F F' R 1 := ⟨h.1, Or.inl ⟨hq, rfl, hc, hl, h.2⟩⟩
theorem OC_v {t : Nat → Int} {n v : Int} {a : Nat} {F F' : FI} {R : Pz × (Nat → Int)} (h : OC t n a F F' R v) : v = 0 ∨ v = 1 := by
  rcases h.2 with q | q
  · exact Or.inr q.2.1
  · exact Or.inl q.2.1
theorem OC_z {t : Nat → Int} {n v : Int} {a : Nat} {F F' : FI} {R : Pz × (Nat → Int)} (h : OC t n a F F' R v) : zb v = true := by
  rcases OC_v h with q | q <;> subst q <;> rfl
theorem u2_id {F : FI} {a i : Nat} : u2 F a i (F a i) = F := by
  funext x y
  by_cases h : x = a
  · subst h
    rw [u2_k]
    split
    · rename_i e; rw [e]
    · rfl
  · rw [u2_o h]
theorem c_214r {k : Int → FS → FI → FJ → Prop} {t : Nat → Int} {n b lo hi : Int} {r : Pz} {S : FS} {F : FI} {G : FJ} (hc : CTk F t n b) (hr : r.1 = tE t n b) (hp : r.2.1 = -1) (hhi : hi ≤ 9999)
    (good : ∀ F', gNum t n lo hi r F F' → k 1 S F' G) (bad : ∀ F' q, TF F F' → q = (pNb t n r lo hi).2 → q.2.1 ≠ -1 → k 0 S (cFt F' q.2.2 q.2.1) G) : calI 3 214 [.inr (.inr (.inl 4)), .inl 1, .inl lo, .inl hi] (mm S F G) k nof := by
  refine sg_214_0 (c_215_1 (r := r) hc hr (fun F1 f1 c1 => cd_f (by decide) ?_))
  exact c_num f1 c1 hp hhi (fun g => cd_f (by decide) ⟨_, _, _, rfl, good F1 g⟩) (fun q eq hq => cd_t rfl ⟨_, _, _, rfl, bad F1 q f1 eq hq⟩)
theorem c_217_0 {k : Int → FS → FI → FJ → Prop} {S : FS} {F : FI} {G : FJ} (hk : k 0 S F G) : calI 2 217 [.inr (.inr (.inl 4)), .inl 0] (mm S F G) k nof := sg_217_0 (cd_t rfl ⟨_, _, _, rfl, hk⟩)
/-- a number of the land -/
theorem ln_num {k' : Int → FS → FI → FJ → Prop} {t : Nat → Int} {n b lo hi x1 : Int} {a i j : Nat} {r : Pz} {l : Nat → Int} {S : FS} {F : FI} {G : FJ} (ha : oL a) (hS : S 4 1 = a) (hc : CTk F t n b) (hr : r.1 = tE t n b) (hp : r.2.1 = -1) (hl : LRp F a l) (hx : x1 = 0 ∨ x1 = 1) (hhi : hi ≤ 9999) (hi3 : 3 ≤ i) (hi6 : i ≤ 6) (hj : j = 9 + i)
    (blk : x1 = 0 → k' 0 S (cFt F 3 b) G) (ok : x1 = 1 → ∀ F' v, OC t n a F F' (rOn t n r l i lo hi) v → k' v S F' G) :
    calI 3 214 [.inr (.inr (.inl 4)), .inl x1, .inl lo, .inl hi] (mm S F G) (fun v9 S9 F9 G9 => cnd (decide (v9 = 0)) (chk (kq (kk (S9 4 1)) 0 0) (chk (kq (kk (S9 4 1)) 0 0) (calI 2 217 [.inr (.inr (.inl 4)), .inl v9] (mm S9 (u2 F9 (S9 4 1) j (F9 (S9 4 1) j)) G9) (fun v10 S10 F10 G10 => chk (zb v10) (k' v10 S10 F10 G10)) nof))) (chk (kq (kk (S9 4 1)) 0 0) (calI 2 217 [.inr (.inr (.inl 4)), .inl v9] (mm S9 (u2 F9 (S9 4 1) j (F9 2 6)) G9) (fun v11 S11 F11 G11 => chk (zb v11) (k' v11 S11 F11 G11)) nof))) nof := by
  have ka : kq (kk (S 4 1)) 0 0 = true := by rw [hS, lk ha]; rfl
  rcases hx with x0 | x0
  · subst x0
    refine c_214_0 hc (cd_t rfl (ck_i ka (ck_i ka ?_)))
    rw [u2_id]
    exact c_217_0 (ck_i rfl (blk rfl))
  · subst x0
    have ok := ok rfl
    unfold rOn at ok
    refine c_214r hc hr hp hhi (fun F1 g => cd_f (by decide) (ck_i ka ?_)) (fun F1 q f1 eq hq => cd_t rfl (ck_i ka (ck_i ka ?_)))
    · obtain ⟨f1, g1, g2, g3, g4, g5⟩ := g
      rw [if_neg (fun r => r g1)] at ok
      rw [hS, g5]
      subst hj
      have a2 : a ≠ 2 := by rcases ha with e | e <;> subst e <;> decide
      have a3 : a ≠ 3 := by rcases ha with e | e <;> subst e <;> decide
      have c2 := CTk_k (F' := u2 F1 a (9 + i) (pNb t n r lo hi).1) g3 (u2_o (Ne.symm a2)) (u2_o (Ne.symm a3))
      refine c_217 c2 g4 (fun F2 f2 c3 => ck_i rfl (ok F2 1 (OC_g ?_ g1 c3 ?_)))
      · exact FRd_t (FRd_u (FRd_f f1) ⟨Nat.le_refl _, by omega⟩ a2) (FRd_f f2)
      · exact LRp_t ha (LRp_1 ha (LRp_t ha hl f1) hi3 hi6) f2
    · rw [u2_id]
      have ok := ok (cFt F1 q.2.2 q.2.1) 0
      rw [if_pos (by rw [← eq]; exact hq)] at ok
      exact c_217_0 (ck_i rfl (ok (OC_f (FRd_f f1) hq (by rw [eq]))))
theorem c_213 {k : Int → FS → FI → FJ → Prop} {t : Nat → Int} {n b x1 w : Int} {a : Nat} {r : Pz} {l : Nat → Int} {S : FS} {F : FI} {G : FJ} (ha : oL a) (hS : S 4 1 = a) (hT : TX F) (hc : CTk F t n b) (hw : w = pWd t n b) (hr : isCl w → r.1 = tE t n b) (hp : r.2.1 = -1) (hl : LRp F a l) (hv : RV l) (hx : x1 = 0 ∨ x1 = 1)
    (h6 : w ≠ tC 6) (h7 : w ≠ tC 7) (h8 : w ≠ tC 8) (h9 : w ≠ tC 9) (h10 : w ≠ tC 10)
    (nc : ¬ isCl w → k 0 S (cFt F 1 b) G) (blk : isCl w → x1 = 0 → k 0 S (cFt F 3 b) G) (ok : isCl w → x1 = 1 → ∀ F' v, OC t n a F F' (rC t n w r l) v → k v S F' G) : calI 4 213 [.inr (.inr (.inl 4)), .inl x1] (mm S F G) k nof := by
  obtain ⟨⟨-, -, -, -, -, s11, s12, s13, s14, -⟩, -⟩ := tC_same
  have l0 := hv.1.1
  unfold rC at ok
  rw [if_neg h6, if_neg h7, if_neg h8, if_neg h9, if_neg h10] at ok
  have ka : kq (kk (S 4 1)) 0 0 = true := by rw [hS, lk ha]; rfl
  have e9 : F (S 4 1) 9 = l 0 := by rw [hS]; exact hl.1.1
  unfold isCl at nc blk ok
  refine sg_213_0 (c_279 (s := 31) rfl (okW_i (by decide) (by decide)) hT hc (fun z => cd_f (by decide) ?_) (fun z1 => cd_t rfl ?_))
  · rw [s11, ← hw] at z
    rw [if_pos z] at ok
    exact ln_num (i := 3) ha hS hc (hr (by unfold isCl; omega)) hp hl hx (by decide) (by decide) (by decide) rfl (fun x0 => ⟨_, _, _, rfl, blk (by omega) x0⟩) (fun x0 F' v o => ⟨_, _, _, rfl, ok (by omega) x0 F' v o⟩)
  rw [s11, ← hw] at z1
  rw [if_neg z1] at ok
  refine c_279 (s := 32) rfl (okW_i (by decide) (by decide)) hT hc (fun z => cd_f (by decide) ?_) (fun z2 => cd_t rfl ?_)
  · rw [s12, ← hw] at z
    rw [if_pos z] at ok
    exact ln_num (i := 4) ha hS hc (hr (by unfold isCl; omega)) hp hl hx (by decide) (by decide) (by decide) rfl (fun x0 => ⟨_, _, _, rfl, blk (by omega) x0⟩) (fun x0 F' v o => ⟨_, _, _, rfl, ok (by omega) x0 F' v o⟩)
  rw [s12, ← hw] at z2
  rw [if_neg z2] at ok
  refine c_279 (s := 33) rfl (okW_i (by decide) (by decide)) hT hc (fun z => cd_f (by decide) ?_) (fun z3 => cd_t rfl ?_)
  · rw [s13, ← hw] at z
    rw [if_pos z] at ok
    exact ln_num (i := 5) ha hS hc (hr (by unfold isCl; omega)) hp hl hx (by decide) (by decide) (by decide) rfl (fun x0 => ⟨_, _, _, rfl, blk (by omega) x0⟩) (fun x0 F' v o => ⟨_, _, _, rfl, ok (by omega) x0 F' v o⟩)
  rw [s13, ← hw] at z3
  rw [if_neg z3] at ok
  refine c_279 (s := 34) rfl (okW_i (by decide) (by decide)) hT hc (fun z => cd_f (by decide) (ck_i ka ?_)) (fun z4 => cd_t rfl ?_)
  · rw [s14, ← hw] at z
    rw [e9, wr_id (by omega) (by omega)]
    exact ln_num (i := 6) ha hS hc (hr (by unfold isCl; omega)) hp hl hx (by omega) (by decide) (by decide) rfl (fun x0 => ⟨_, _, _, rfl, blk (by omega) x0⟩) (fun x0 F' v o => ⟨_, _, _, rfl, ok (by omega) x0 F' v o⟩)
  rw [s14, ← hw] at z4
  exact c_281 hc (ck_i rfl ⟨_, _, _, rfl, nc (by omega)⟩)
