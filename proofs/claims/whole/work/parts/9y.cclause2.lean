/-! ===== the class reads a line: a place, a way, a person, a wish ===== -/
theorem oL_2 {a : Nat} (h : oL a) : a ≠ 2 ∧ a ≠ 3 := by rcases h with e | e <;> subst e <;> decide
theorem LRp_h {F : FI} {a : Nat} {l : Nat → Int} (h : LRp F a l) : F a 9 = l 0 ∧ F a 10 = l 1 ∧ F a 11 = l 2 := ⟨h.1.1, h.1.2.1, h.1.2.2.1⟩
theorem c_218 {k : Int → FS → FI → FJ → Prop} {t : Nat → Int} {n b x1 : Int} {a : Nat} {r : Pz} {l : Nat → Int} {S : FS} {F : FI} {G : FJ} (ha : oL a) (hS : S 4 1 = a) (hT : TX F) (hc : CTk F t n b) (hr : r.1 = tE t n b) (hp : r.2.1 = -1) (hl : LRp F a l) (hv : RV l) (hx : x1 = 0 ∨ x1 = 1)
    (blk : x1 = 0 ∨ l 0 = 12 → k 0 S (cFt F 3 b) G) (ok : x1 = 1 → l 0 ≠ 12 → ∀ F' v, OC t n a F F' ((if rPl t n r = 0 then pAt r (pSp t n r.1) else pAt r (pLe t n (pSp t n r.1))), uL (uL l (7 + l 0).toNat (rPl t n r)) 0 (l 0 + 1)) v → k v S F' G) : calI 3 218 [.inr (.inr (.inl 4)), .inl x1] (mm S F G) k nof := by
  have l0 := hv.1.1
  have ka : kq (kk (S 4 1)) 0 0 = true := by rw [hS, lk ha]; rfl
  have h9 := (LRp_h hl).1
  have a2 := oL_2 ha
  have s35 : tC 35 = tC 4 := by decide +kernel
  have s36 : tC 36 = tC 5 := by decide +kernel
  refine sg_218_0 (cn_i (fun z => c_215_0 hc (cd_t rfl ⟨_, _, _, rfl, blk (Or.inl z)⟩)) (fun z => ck_i ka (cn_i (fun y => ?_) (fun y => c_215_0 hc (cd_t rfl ⟨_, _, _, rfl, blk (Or.inr (by rw [hS, h9] at y; omega))⟩)))))
  rw [hS, h9] at y
  have ok := ok (by omega) (by omega)
  refine c_215_1 hc hr (fun F1 f1 c1 => cd_f (by decide) ?_)
  have t1 := TX_f hT f1
  have l1 := LRp_t ha hl f1
  have h91 := (LRp_h l1).1
  have fs : pSp t n (pSp t n r.1) = pSp t n r.1 := c1.2.2.2.1
  have b1 := c1.2.2.1
  -- behind the write
  have wr1 : ∀ v : Int, LRp (u2 (u2 F1 (a + 1) (l 0).toNat v) a 9 (l 0 + 1)) a (uL (uL l (7 + l 0).toNat v) 0 (l 0 + 1)) ∧ FRd a F (u2 (u2 F1 (a + 1) (l 0).toNat v) a 9 (l 0 + 1)) ∧ CTk (u2 (u2 F1 (a + 1) (l 0).toNat v) a 9 (l 0 + 1)) t n (pSp t n r.1) := fun v => by
    refine ⟨LRp_p ha l1 (by omega) hv, FRd_u (FRd_u (FRd_f f1) ⟨by omega, by omega⟩ (by rcases ha with e | e <;> subst e <;> decide)) ⟨by omega, by omega⟩ a2.1, CTk_k c1 ?_ ?_⟩
    · rw [u2_o (by omega), u2_o (by rcases ha with e | e <;> subst e <;> decide)]
    · rw [u2_o (by omega), u2_o (by rcases ha with e | e <;> subst e <;> decide)]
  have chks : ∀ (v : Int) (X : FI → Prop), X (u2 (u2 F1 (a + 1) (l 0).toNat v) a 9 (l 0 + 1)) → chk (kq (kk (S 4 1)) 0 0) (chk (kq (kk (S 4 1)) 0 0) (chk (Nat.beq (kk (rr (S 4 1) 0)).1 1) (chk (ib (F1 (S 4 1) 9) (kk (rr (S 4 1) 0)).2) (chk (kq (kk (S 4 1)) 0 0) (chk (kq (kk (S 4 1)) 0 0) (X (u2 (u2 F1 (rr (S 4 1) 0) (((F1 (S 4 1) 9)).toNat) v) (S 4 1) 9 (wr (((u2 F1 (rr (S 4 1) 0) (((F1 (S 4 1) 9)).toNat) v) (S 4 1) 9) + 1))))))))) := fun v X hX => by
    refine ck_i ka (ck_i ka ?_)
    rw [hS, lr0 ha, lk1 ha, h91, u2_o (by omega), h91, wr_id (by omega) (by omega)]
    rw [hS] at ka
    exact ck_i rfl (ck_i (jb_i (by omega) (by omega)) (ck_i ka (ck_i ka hX)))
  have adv : ∀ v : Int, (v = 1 ∨ v = 2) → rPl t n r = v → tE t n (pSp t n r.1) = pLe t n (pSp t n r.1) → calI 2 217 [.inr (.inr (.inl 4)), .inl 1] (mm S (u2 (u2 F1 (a + 1) (l 0).toNat v) a 9 (l 0 + 1)) G) (fun v4 S4 F4 G4 => cnd (decide (v4 = 0)) (∃ S' F' G', mm S4 F4 G4 = mm S' F' G' ∧ k 0 S' F' G') (∃ S' F' G', mm S4 F4 G4 = mm S' F' G' ∧ k 1 S' F' G')) nof := by
    intro v hv' e te
    obtain ⟨w1, w2, w3⟩ := wr1 v
    refine c_217 (r := pAt r (pLe t n (pSp t n r.1))) w3 te.symm (fun F2 f2 c2 => cd_f (by decide) ⟨_, _, _, rfl, ok F2 1 (OC_g (FRd_t w2 (FRd_f f2)) ?_ ?_ ?_)⟩)
    · show (if _ then _ else _ : Pz).2.1 = -1
      split <;> exact hp
    · show CTk F2 t n (pSp t n (if _ then _ else _ : Pz).1)
      rw [if_neg (by omega)]
      exact c2
    · rw [e]
      exact LRp_t ha w1 f2
  refine c_279 (s := 35) rfl (okW_i (by decide) (by decide)) t1 c1 (fun e => cd_f (by decide) (chks 1 (fun M => calI 2 217 [.inr (.inr (.inl 4)), .inl 1] (mm S M G) _ nof) ?_)) (fun e => cd_t rfl (c_279 (s := 36) rfl (okW_i (by decide) (by decide)) t1 c1 (fun e2 => cd_f (by decide) (chks 2 (fun M => calI 2 217 [.inr (.inr (.inl 4)), .inl 1] (mm S M G) _ nof) ?_)) (fun e2 => cd_t rfl (chks 0 (fun M => ∃ S' F' G', mm S M G = mm S' F' G' ∧ k 1 S' F' G') ⟨_, _, _, rfl, ?_⟩))))
  · refine adv 1 (Or.inl rfl) ?_ (tE_w (okW_i (s := 35) (by decide) (by decide)) b1.1 b1.2.1 e)
    unfold rPl pKi
    rw [if_pos (by rw [e, s35])]
  · refine adv 2 (Or.inr rfl) ?_ (tE_w (okW_i (s := 36) (by decide) (by decide)) b1.1 b1.2.1 e2)
    unfold rPl pKi
    rw [if_neg (by rw [← s35]; exact e), if_pos (by rw [e2, s36])]
  · have ez : rPl t n r = 0 := by
      unfold rPl pKi
      rw [if_neg (by rw [← s35]; exact e), if_neg (by rw [← s36]; exact e2)]
    obtain ⟨w1, w2, w3⟩ := wr1 0
    refine ok _ 1 (OC_g w2 ?_ ?_ ?_)
    · show (if _ then _ else _ : Pz).2.1 = -1
      split <;> exact hp
    · show CTk _ t n (pSp t n (if _ then _ else _ : Pz).1)
      rw [if_pos ez]
      show CTk _ t n (pSp t n (pSp t n r.1))
      rw [fs]
      exact w3
    · rw [ez]
      exact w1
theorem c_220 {k : Int → FS → FI → FJ → Prop} {t : Nat → Int} {n b x1 : Int} {a : Nat} {r : Pz} {l : Nat → Int} {S : FS} {F : FI} {G : FJ} (ha : oL a) (hS : S 4 1 = a) (hc : CTk F t n b) (hr : r.1 = tE t n b) (hp : r.2.1 = -1) (hl : LRp F a l) (hv : RV l) (hx : x1 = 0 ∨ x1 = 1)
    (blk : x1 = 0 ∨ l 2 = 5 → k 0 S (cFt F 3 b) G) (ok : x1 = 1 → l 2 ≠ 5 → ∀ F' v, OC t n a F F' (if (pNb t n r 0 9).2.2.1 ≠ -1 then ((pNb t n r 0 9).2, l) else ((pNb t n r 0 9).2, uL (uL l (67 + l 2).toNat (pNb t n r 0 9).1) 2 (l 2 + 1))) v → k v S F' G) : calI 4 220 [.inr (.inr (.inl 4)), .inl x1] (mm S F G) k nof := by
  have l0 := hv.1.2.2.1
  have ka : kq (kk (S 4 1)) 0 0 = true := by rw [hS, lk ha]; rfl
  have h9 := (LRp_h hl).2.2
  have a2 := oL_2 ha
  refine sg_220_0 (cn_i (fun z => c_214_0 hc (cd_t rfl ⟨_, _, _, rfl, blk (Or.inl z)⟩)) (fun z => ck_i ka (cn_i (fun y => ?_) (fun y => c_214_0 hc (cd_t rfl ⟨_, _, _, rfl, blk (Or.inr (by rw [hS, h9] at y; omega))⟩)))))
  rw [hS, h9] at y
  have ok := ok (by omega) (by omega)
  refine c_214r hc hr hp (by decide) (fun F1 g => cd_f (by decide) ?_) (fun F1 q f1 eq hq => cd_t rfl ⟨_, _, _, rfl, ?_⟩)
  · obtain ⟨f1, g1, g2, g3, g4, g5⟩ := g
    have l1 := LRp_t ha hl f1
    have h91 := (LRp_h l1).2.2
    rw [if_neg (fun r => r g1)] at ok
    refine ck_i ka (ck_i ka ?_)
    rw [hS] at ka
    rw [hS, lr5 ha, lk6 ha, h91, u2_o (by omega), h91, wr_id (by omega) (by omega), g5]
    refine ck_i rfl (ck_i (jb_i (by omega) (by omega)) (ck_i ka (ck_i ka ?_)))
    have c2 : CTk (u2 (u2 F1 (a + 6) (l 2).toNat (pNb t n r 0 9).1) a 11 (l 2 + 1)) t n (pSp t n r.1) := by
      refine CTk_k g3 ?_ ?_
      · rw [u2_o (by omega), u2_o (by rcases ha with e | e <;> subst e <;> decide)]
      · rw [u2_o (by omega), u2_o (by rcases ha with e | e <;> subst e <;> decide)]
    refine c_217 c2 g4 (fun F2 f2 c3 => ck_i rfl ⟨_, _, _, rfl, ok F2 1 (OC_g ?_ g1 c3 ?_)⟩)
    · exact FRd_t (FRd_u (FRd_u (FRd_f f1) ⟨by omega, by omega⟩ (by rcases ha with e | e <;> subst e <;> decide)) ⟨by omega, by omega⟩ a2.1) (FRd_f f2)
    · exact LRp_t ha (LRp_k ha l1 (by omega) hv) f2
  · have ok := ok (cFt F1 q.2.2 q.2.1) 0
    rw [if_pos (by rw [← eq]; exact hq)] at ok
    exact ok (OC_f (FRd_f f1) hq (by rw [eq]))
theorem c_219 {k : Int → FS → FI → FJ → Prop} {t : Nat → Int} {n b x1 : Int} {a : Nat} {r : Pz} {l : Nat → Int} {S : FS} {F : FI} {G : FJ} (ha : oL a) (hS : S 4 1 = a) (hc : CTk F t n b) (hr : r.1 = tE t n b) (hp : r.2.1 = -1) (hl : LRp F a l) (hv : RV l) (hx : x1 = 0 ∨ x1 = 1)
    (blk : x1 = 0 ∨ l 1 = 24 → k 0 S (cFt F 3 b) G) (ok : x1 = 1 → l 1 ≠ 24 → ∀ F' v, OC t n a F F' (if (rW3 t n r l).2.2.1 ≠ -1 then ((rW3 t n r l).2, l) else if (rW1 t n r l).1 = (rW3 t n r l).1 then (pFl (rW3 t n r l).2 2 (pSp t n (rW1 t n r l).2.1), l) else ((rW3 t n r l).2, uL (uL (uL l (19 + l 1).toNat (rW1 t n r l).1) (43 + l 1).toNat (rW3 t n r l).1) 1 (l 1 + 1))) v → k v S F' G) : calI 4 219 [.inr (.inr (.inl 4)), .inl x1] (mm S F G) k nof := by
  have l0 := hv.1.1
  have l1' := hv.1.2.1
  have ka : kq (kk (S 4 1)) 0 0 = true := by rw [hS, lk ha]; rfl
  have h9 := (LRp_h hl).1
  have h10 := (LRp_h hl).2.1
  have a2 := oL_2 ha
  have e9 : wr (F (S 4 1) 9 - 1) = l 0 - 1 := by rw [hS, h9, wr_id (by omega) (by omega)]
  refine sg_219_0 (cn_i (fun z => ck_i ka (c_214_0 hc (cd_t rfl ⟨_, _, _, rfl, blk (Or.inl z)⟩))) (fun z => ck_i ka (cn_i (fun y => ck_i ka ?_) (fun y => ck_i ka (c_214_0 hc (cd_t rfl ⟨_, _, _, rfl, blk (Or.inr (by rw [hS, h10] at y; omega))⟩))))))
  rw [hS, h10] at y
  have ok := ok (by omega) (by omega)
  rw [e9]
  unfold rW3 at ok
  unfold rW1 at ok
  refine c_214r hc hr hp (by omega) (fun F1 g => cd_f (by decide) (ck_i ka ?_)) (fun F1 q f1 eq hq => cd_t rfl ⟨_, _, _, rfl, ?_⟩)
  · obtain ⟨f1, g1, g2, g3, g4, g5⟩ := g
    have la := LRp_t ha hl f1
    rw [hS, (LRp_h la).1, wr_id (by omega) (by omega)]
    have te := tE_b (t := t) g3.2.2.1.1 g3.2.2.1.2.1
    rw [pNb_sp (by omega) g1] at ok
    obtain ⟨v1, ev1⟩ : ∃ v, v = pNb t n r 0 (l 0 - 1) := ⟨_, rfl⟩
    rw [← ev1] at g1 g2 g4 g5 ok
    refine c_216 g3 g4 g1 (by omega) (fun F2 g' => cd_f (by decide) ?_) (fun F2 q f2 eq hq => cd_t rfl ⟨_, _, _, rfl, ?_⟩)
    · obtain ⟨f2, p1, p2, p3, p4, p5⟩ := g'
      have lb := LRp_t ha la f2
      have f12 := TF_t f1 f2
      rw [if_neg (fun r => r p1)] at ok
      rw [g5, p5]
      obtain ⟨v2, ev2⟩ : ∃ v, v = pNb t n v1.2 0 (l 0 - 1) := ⟨_, rfl⟩
      rw [← ev2] at p1 p2 p4 p5 ok
      refine cn_i (fun e => ?_) (fun e => ?_) <;> rw [← ev2] at e
      · have ok := ok (cFt F2 2 (pSp t n v1.2.1)) 0
        rw [if_pos e.symm] at ok
        refine c_281 p3 (ck_i rfl ⟨_, _, _, rfl, ok ?_⟩)
        have ef : pFl v2.2 2 (pSp t n v1.2.1) = (v2.2.1, pSp t n v1.2.1, 2) := by unfold pFl; rw [if_pos p1]
        rw [ef]
        exact OC_f (q := (v2.2.1, pSp t n v1.2.1, 2)) (FRd_f f12) (by show pSp t n v1.2.1 ≠ -1; have := p3.2.2.1.1; omega) rfl
      · rw [if_neg (fun q => e q.symm)] at ok
        refine ck_i ka (ck_i ka ?_)
        have hb10 := (LRp_h lb).2.1
        rw [hS] at ka
        rw [hS, lr1 ha, lr2 ha, lk2 ha, lk3 ha, hb10, u2_o (show a ≠ a + 2 by omega), hb10, u2_o (show a ≠ a + 3 by omega), u2_o (show a ≠ a + 2 by omega), hb10, wr_id (by omega) (by omega), u2_o (show 2 ≠ a + 2 by rcases ha with e | e <;> subst e <;> decide), p5]
        refine ck_i rfl (ck_i (jb_i (by omega) (by omega)) (ck_i ka (ck_i ka (ck_i rfl (ck_i (jb_i (by omega) (by omega)) (ck_i ka (ck_i ka ?_)))))))
        have c2 : CTk (u2 (u2 (u2 F2 (a + 2) (l 1).toNat v1.1) (a + 3) (l 1).toNat v2.1) a 10 (l 1 + 1)) t n (pSp t n v1.2.1) := by
          refine CTk_k p3 ?_ ?_
          · rw [u2_o (by omega), u2_o (by rcases ha with e | e <;> subst e <;> decide), u2_o (by rcases ha with e | e <;> subst e <;> decide)]
          · rw [u2_o (by omega), u2_o (by rcases ha with e | e <;> subst e <;> decide), u2_o (by rcases ha with e | e <;> subst e <;> decide)]
        refine c_217 c2 p4 (fun F3 f3 c3 => ck_i rfl ⟨_, _, _, rfl, ok F3 1 (OC_g ?_ p1 c3 ?_)⟩)
        · exact FRd_t (FRd_u (FRd_u (FRd_u (FRd_f f12) ⟨by omega, by omega⟩ (by rcases ha with e | e <;> subst e <;> decide)) ⟨by omega, by omega⟩ (by rcases ha with e | e <;> subst e <;> decide)) ⟨by omega, by omega⟩ a2.1) (FRd_f f3)
        · exact LRp_t ha (LRp_w ha lb (by omega) hv) f3
    · have ok := ok (cFt F2 q.2.2 q.2.1) 0
      rw [if_pos (by rw [← eq]; exact hq)] at ok
      exact ok (OC_f (FRd_f (TF_t f1 f2)) hq (by rw [eq]))
  · have ok := ok (cFt F1 q.2.2 q.2.1) 0
    have e2 : pNb t n (pAt (pNb t n r 0 (l 0 - 1)).2 (pSp t n (pNb t n r 0 (l 0 - 1)).2.1)) 0 (l 0 - 1) = (0, pAt q (pSp t n q.1)) := by
      rw [← eq]
      exact pNb_x hq
    rw [e2, if_pos (show (pAt q (pSp t n q.1)).2.1 ≠ -1 from hq)] at ok
    exact ok (OC_f (FRd_f f1) hq rfl)
theorem c_223 {k : Int → FS → FI → FJ → Prop} {t : Nat → Int} {n b x1 : Int} {a : Nat} {r : Pz} {l : Nat → Int} {S : FS} {F : FI} {G : FJ} (ha : oL a) (hS : S 4 1 = a) (hc : CTk F t n b) (hr : r.1 = tE t n b) (hp : r.2.1 = -1) (hl : LRp F a l) (hv : RV l) (hx : x1 = 0 ∨ x1 = 1)
    (blk : x1 = 0 → k 0 S (cFt F 3 b) G) (ok : x1 = 1 → ∀ F' v, OC t n a F F' (if (rN3 t n r l).2.2.1 ≠ -1 then ((rN3 t n r l).2, l) else ((rN3 t n r l).2, uL l (72 + 12 * (rN1 t n r l).1 + (rN2 t n r l).1).toNat (rN3 t n r l).1)) v → k v S F' G) : calI 4 223 [.inr (.inr (.inl 4)), .inl x1] (mm S F G) k nof := by
  have l0 := hv.1.1
  have l2 := hv.1.2.2.1
  have ka : kq (kk (S 4 1)) 0 0 = true := by rw [hS, lk ha]; rfl
  have h11 := (LRp_h hl).2.2
  have a2 := oL_2 ha
  have e11 : wr (F (S 4 1) 11 - 1) = l 2 - 1 := by rw [hS, h11, wr_id (by omega) (by omega)]
  refine sg_223_0 (ck_i ka ?_)
  rw [e11]
  rcases hx with x0 | x0
  · subst x0
    exact c_214_0 hc (cd_t rfl ⟨_, _, _, rfl, blk rfl⟩)
  subst x0
  have ok := ok rfl
  unfold rN3 at ok
  unfold rN2 at ok
  unfold rN1 at ok
  obtain ⟨v1, ev1⟩ : ∃ v, v = pNb t n r 0 (l 2 - 1) := ⟨_, rfl⟩
  obtain ⟨v2, ev2⟩ : ∃ v, v = pNb t n v1.2 0 (l 0 - 1) := ⟨_, rfl⟩
  obtain ⟨v3, ev3⟩ : ∃ v, v = pNb t n v2.2 0 99 := ⟨_, rfl⟩
  rw [← ev1, ← ev2, ← ev3] at ok
  refine c_214r hc hr hp (by omega) (fun F1 g => cd_f (by decide) (ck_i ka ?_)) (fun F1 q f1 eq hq => cd_t rfl ⟨_, _, _, rfl, ?_⟩)
  · obtain ⟨f1, g1, g2, g3, g4, g5⟩ := g
    rw [← ev1] at g1 g2 g4 g5
    have la := LRp_t ha hl f1
    rw [hS, (LRp_h la).1, wr_id (by omega) (by omega)]
    refine c_216 g3 g4 g1 (by omega) (fun F2 g' => cd_f (by decide) ?_) (fun F2 q f2 eq hq => cd_t rfl ⟨_, _, _, rfl, ?_⟩)
    · obtain ⟨f2, p1, p2, p3, p4, p5⟩ := g'
      rw [← ev2] at p1 p2 p4 p5
      refine c_216 p3 p4 p1 (by decide) (fun F3 g'' => cd_f (by decide) ?_) (fun F3 q f3 eq hq => cd_t rfl ⟨_, _, _, rfl, ?_⟩)
      · obtain ⟨f3, q1, q2, q3, q4, q5⟩ := g''
        rw [← ev3] at q1 q2 q4 q5
        have f123 := TF_t (TF_t f1 f2) f3
        have lb := LRp_t ha hl f123
        rw [if_neg (fun r => r q1)] at ok
        refine ck_i ka ?_
        rw [hS] at ka
        rw [hS, lr6 ha, lk7 ha, g5, p5, q5, wr_id (a := v1.1 * 12) (by omega) (by omega), wr_id (a := v1.1 * 12 + v2.1) (by omega) (by omega)]
        refine ck_i rfl (ck_i (jb_i (by omega) (by omega)) ?_)
        have c2 : CTk (u2 F3 (a + 7) (v1.1 * 12 + v2.1).toNat v3.1) t n (pSp t n v2.2.1) := by
          refine CTk_k q3 ?_ ?_
          · rw [u2_o (by rcases ha with e | e <;> subst e <;> decide)]
          · rw [u2_o (by rcases ha with e | e <;> subst e <;> decide)]
        refine c_217 c2 q4 (fun F4 f4 c3 => ck_i rfl ⟨_, _, _, rfl, ok F4 1 (OC_g ?_ q1 c3 ?_)⟩)
        · exact FRd_t (FRd_u (FRd_f f123) ⟨by omega, by omega⟩ (by rcases ha with e | e <;> subst e <;> decide)) (FRd_f f4)
        · exact LRp_t ha (LRp_n ha lb (by omega) (by omega) hv) f4
      · rw [← ev3] at eq
        have ok := ok (cFt F3 q.2.2 q.2.1) 0
        rw [if_pos (by rw [← eq]; exact hq)] at ok
        exact ok (OC_f (FRd_f (TF_t (TF_t f1 f2) f3)) hq (by rw [eq]))
    · rw [← ev2] at eq
      have ok := ok (cFt F2 q.2.2 q.2.1) 0
      have e3 : v3 = (0, q) := by rw [ev3, ← eq]; exact pNb_x hq
      rw [e3, if_pos (show q.2.1 ≠ -1 from hq)] at ok
      exact ok (OC_f (FRd_f (TF_t f1 f2)) hq rfl)
  · rw [← ev1] at eq
    have ok := ok (cFt F1 q.2.2 q.2.1) 0
    have e2 : v2 = (0, q) := by rw [ev2, ← eq]; exact pNb_x hq
    have e3 : v3 = (0, q) := by rw [ev3, e2]; exact pNb_x hq
    rw [e3, if_pos (show q.2.1 ≠ -1 from hq)] at ok
    exact ok (OC_f (FRd_f f1) hq rfl)
