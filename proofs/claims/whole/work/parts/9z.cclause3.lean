/-! ===== the class reads a line: snow; any line ===== -/
/-- one hour of snow -/
theorem LRp_s {F : FI} {a : Nat} {l : Nat → Int} {w0 h0 v : Int} (ha : oL a) (h : LRp F a l) (hw : 0 ≤ w0 ∧ w0 < 24) (hh : 0 ≤ h0 ∧ h0 < 24) (hv : 1 ≤ v) (hr : (0 ≤ l 0 ∧ l 0 ≤ 12) ∧ (0 ≤ l 1 ∧ l 1 ≤ 24) ∧ (0 ≤ l 2 ∧ l 2 ≤ 5)) : LRp (u2 (u2 F (a + 4) (w0 * 24 + h0).toNat v) (a + 5) h0.toNat 1) a (uL l (132 + 24 * w0 + h0).toNat v) := by
  obtain ⟨⟨h9, h10, h11, h12, h13, h14, h15⟩, h2, h3, h4, h5, h6, h7⟩ := h
  obtain ⟨r0, r1, r2⟩ := hr
  have en : ∀ j : Nat, j ≠ (132 + 24 * w0 + h0).toNat → uL l (132 + 24 * w0 + h0).toNat v j = l j := fun j hj => if_neg hj
  have cell : ∀ c, c ≠ a + 4 → c ≠ a + 5 → u2 (u2 F (a + 4) (w0 * 24 + h0).toNat v) (a + 5) h0.toNat 1 c = F c := fun c hc hc2 => by rw [u2_o hc2, u2_o hc]
  refine ⟨⟨?_, ?_, ?_, ?_, ?_, ?_, ?_⟩, fun p p0 p1 => ?_, fun w w0 w1 => ?_, fun w h w0' w1 h0' h1 => ?_, fun h h0' h1 => ?_, fun k k0 k1 => ?_, fun k p k0' k1 p0' p1 => ?_⟩
  · rw [cell a (by omega) (by omega), en 0 (by omega)]; exact h9
  · rw [cell a (by omega) (by omega), en 1 (by omega)]; exact h10
  · rw [cell a (by omega) (by omega), en 2 (by omega)]; exact h11
  · rw [cell a (by omega) (by omega), en 3 (by omega)]; exact h12
  · rw [cell a (by omega) (by omega), en 4 (by omega)]; exact h13
  · rw [cell a (by omega) (by omega), en 5 (by omega)]; exact h14
  · rw [cell a (by omega) (by omega), en 6 (by omega)]; exact h15
  · rw [en 0 (by omega)] at p1
    rw [cell _ (by omega) (by omega), en _ (by omega)]; exact h2 p p0 p1
  · rw [en 1 (by omega)] at w1
    rw [cell _ (by omega) (by omega), cell _ (by omega) (by omega), en _ (by omega), en _ (by omega)]; exact h3 w w0 w1
  · rw [u2_o (by omega), u2_k]
    by_cases q : w = w0 ∧ h = h0
    · rw [if_pos (by rw [q.1, q.2]), q.1, q.2]
      exact (if_pos rfl).symm
    · rw [if_neg (by omega), en _ (by omega)]
      exact h4 w h w0' w1 h0' h1
  · rw [u2_k]
    by_cases q : h = h0
    · rw [if_pos (by rw [q])]
      refine Or.inr ⟨rfl, w0, hw.1, hw.2, ?_⟩
      rw [q, show uL l (132 + 24 * w0 + h0).toNat v (132 + 24 * w0 + h0).toNat = v from if_pos rfl]
      omega
    · rw [if_neg (by omega), u2_o (by omega), pSy_s (l := l) (fun w w0 w1 => en _ (by omega))]
      exact h5 h h0' h1
  · rw [en 2 (by omega)] at k1
    rw [cell _ (by omega) (by omega), en _ (by omega)]; exact h6 k k0 k1
  · rw [cell _ (by omega) (by omega), en _ (by omega)]; exact h7 k p k0' k1 p0' p1
theorem wSj_0 {l : Nat → Int} {w x v : Int} : wSn l w x (x - 1) v = l := by
  funext j
  unfold wSn
  rw [if_neg (by omega)]
theorem wSj_s {l : Nat → Int} {w x h v : Int} (hx : x ≤ h) (h0 : 0 ≤ 132 + 24 * w + h) : uL (wSn l w x (h - 1) v) (132 + 24 * w + h).toNat v = wSn l w x (h + 1 - 1) v := by
  funext j
  unfold wSn uL
  by_cases q : j = (132 + 24 * w + h).toNat
  · rw [if_pos q, if_pos (by omega)]
  · rw [if_neg q]
    show (if _ then _ else _) = _
    by_cases q2 : 132 + 24 * w + x ≤ (j : Int) ∧ (j : Int) ≤ 132 + 24 * w + (h - 1)
    · rw [if_pos q2, if_pos (by omega)]
    · rw [if_neg q2, if_neg (by omega)]
theorem l_222_5 {Q : Rs → Mm → Prop} {a : Nat} {l : Nat → Int} {x1 x2 : Int} {S : FS} {F : FI} {G : FJ} (ha : oL a) (hS : S 4 1 = a) (hl : LRp F a l) (hk : Q (.inl (some (.inl (snC (fun h => pSy l h ∨ x1 ≤ h ∧ h ≤ x2) 24)))) (mm S F G)) :
    ∀ (K j : Nat), K + j = 24 → wph 0 222 5 [.inr (.inr (.inl 4)), .inl x1, .inl x2, .inl (snC (fun h => pSy l h ∨ x1 ≤ h ∧ h ≤ x2) j), .inl (j : Int)] [] (mm S F G) (0, 0) Q := by
  have ka : kq (kk a) 0 0 = true := by rw [lk ha]; rfl
  intro K
  induction K with
  | zero =>
    intro j hj
    have e : j = 24 := by omega
    subst e
    exact sg_222_5 (cd_f (by decide) hk)
  | succ K ih =>
    intro j hj
    have sb := snC_b (fun h => pSy l h ∨ x1 ≤ h ∧ h ≤ x2) j
    have es : snC (fun h => pSy l h ∨ x1 ≤ h ∧ h ≤ x2) (j + 1) = snC (fun h => pSy l h ∨ x1 ≤ h ∧ h ≤ x2) j + @ite _ (pSy l j ∨ x1 ≤ (j : Int) ∧ (j : Int) ≤ x2) (Classical.propDecidable _) 1 0 := rfl
    have nx := ih (j + 1) (by omega)
    obtain ⟨c, ec⟩ : ∃ c, c = snC (fun h => pSy l h ∨ x1 ≤ h ∧ h ≤ x2) j := ⟨_, rfl⟩
    rw [← ec] at sb es ⊢
    rw [es] at nx
    have h5 := hl.2.2.2.2.1 j (by omega) (by omega)
    refine sg_222_5 (cd_t (by omega) ?_)
    rw [hS, lr4 ha, lk5 ha, wr_id (a := (j : Int) + 1) (by omega) (by omega), wr_id (a := c + 1) (by omega) (by omega), show (j : Int) + 1 = ((j + 1 : Nat) : Int) by omega]
    refine ck_i ka (ck_i rfl (ck_i (jb_i (by omega) (by omega)) (cn_i (fun z => cn_i (fun y => ?_) (fun y => cn_i (fun u => ?_) (fun u => ?_))) (fun z => ?_))))
    · rw [if_neg (fun q => q.elim (fun q => by rcases h5 with h5 | h5; exact h5.2 q; omega) (fun q => by omega)), Int.add_zero] at nx
      exact nx
    · rw [if_neg (fun q => q.elim (fun q => by rcases h5 with h5 | h5; exact h5.2 q; omega) (fun q => by omega)), Int.add_zero] at nx
      exact nx
    · rw [if_pos (Or.inr (by omega))] at nx
      exact nx
    · rw [if_pos (Or.inl (by rcases h5 with h5 | h5; omega; exact h5.2))] at nx
      exact nx
theorem c_222 {k : Int → FS → FI → FJ → Prop} {a : Nat} {l : Nat → Int} {x1 x2 : Int} {S : FS} {F : FI} {G : FJ} (ha : oL a) (hS : S 4 1 = a) (hl : LRp F a l) (hk : k (snC (fun h => pSy l h ∨ x1 ≤ h ∧ h ≤ x2) 24) S F G) : calI 0 222 [.inr (.inr (.inl 4)), .inl x1, .inl x2] (mm S F G) k nof :=
  sg_222_0 (l_222_5 ha hS hl ⟨_, _, _, rfl, hk⟩ 24 0 rfl)
theorem l_221_105 {Q : Rs → Mm → Prop} {F0 : FI} {t : Nat → Int} {n b w x y v : Int} {a : Nat} {r : Pz} {l : Nat → Int} {S : FS} {G : FJ} (ha : oL a) (hS : S 4 1 = a) (hr : r.1 = tE t n b) (hw : 0 ≤ w ∧ w < 24) (hx : 0 ≤ x ∧ x ≤ y ∧ y ≤ 23) (hv : 1 ≤ v) (h0 : (0 ≤ l 0 ∧ l 0 ≤ 12) ∧ (0 ≤ l 1 ∧ l 1 ≤ 24) ∧ (0 ≤ l 2 ∧ l 2 ≤ 5))
    (hk : ∀ F', FRd a F0 F' → CTk F' t n (pSp t n r.1) → LRp F' a (wSn l w x y v) → Q (.inl (some (.inl 1))) (mm S F' G)) :
    ∀ (K : Nat) (h : Int) (F : FI), (K : Int) = y + 1 - h → x ≤ h → FRd a F0 F → CTk F t n b → F 2 6 = v → LRp F a (wSn l w x (h - 1) v) → wph 4 221 105 [.inr (.inr (.inl 4)), jk, .inl w, jk, .inl y, .inl h] [] (mm S F G) (0, 0) Q := by
  have ka : kq (kk a) 0 0 = true := by rw [lk ha]; rfl
  intro K
  induction K with
  | zero =>
    intro h F hK hh fr hc e6 hl
    refine sg_221_105 (cd_t (by omega) (c_217 hc hr (fun F2 f2 c2 => ck_i rfl ?_)))
    refine hk F2 (FRd_t fr (FRd_f f2)) c2 ?_
    rw [show h - 1 = y by omega] at hl
    exact LRp_t ha hl f2
  | succ K ih =>
    intro h F hK hh fr hc e6 hl
    refine sg_221_105 (cd_f (by omega) ?_)
    rw [hS, lr3 ha, lr4 ha, lk4 ha, lk5 ha, wr_id (a := w * 24) (by omega) (by omega), wr_id (a := w * 24 + h) (by omega) (by omega), wr_id (a := h + 1) (by omega) (by omega), e6]
    refine ck_i ka (ck_i rfl (ck_i (jb_i (by omega) (by omega)) (ck_i ka (ck_i rfl (ck_i (jb_i (by omega) (by omega)) (ih (h + 1) _ (by omega) (by omega) ?_ ?_ ?_ ?_))))))
    · exact FRd_u (FRd_u fr ⟨by omega, by omega⟩ (by rcases ha with e | e <;> subst e <;> decide)) ⟨by omega, by omega⟩ (by rcases ha with e | e <;> subst e <;> decide)
    · refine CTk_k hc ?_ ?_
      · rw [u2_o (by rcases ha with e | e <;> subst e <;> decide), u2_o (by rcases ha with e | e <;> subst e <;> decide)]
      · rw [u2_o (by rcases ha with e | e <;> subst e <;> decide), u2_o (by rcases ha with e | e <;> subst e <;> decide)]
    · rw [u2_o (by rcases ha with e | e <;> subst e <;> decide), u2_o (by rcases ha with e | e <;> subst e <;> decide)]
      exact e6
    · have un : ∀ j : Nat, j < 132 → wSn l w x (h - 1) v j = l j := fun j hj => by unfold wSn; rw [if_neg (by omega)]
      have := LRp_s (v := v) ha hl hw (h0 := h) (by omega) hv (by rw [un 0 (by decide), un 1 (by decide), un 2 (by decide)]; exact h0)
      rw [wSj_s hh (by omega)] at this
      exact this
theorem c_221 {k : Int → FS → FI → FJ → Prop} {t : Nat → Int} {n b x1 : Int} {a : Nat} {r : Pz} {l : Nat → Int} {S : FS} {F : FI} {G : FJ} (ha : oL a) (hS : S 4 1 = a) (hc : CTk F t n b) (hr : r.1 = tE t n b) (hp : r.2.1 = -1) (hl : LRp F a l) (hv : RV l) (hx : x1 = 0 ∨ x1 = 1)
    (blk : x1 = 0 → k 0 S (cFt F 3 b) G) (ok : x1 = 1 → ∀ F' v, OC t n a F F' (if (rS5 t n r l).2.2.1 ≠ -1 then ((rS5 t n r l).2, l) else ((rS5 t n r l).2, wSn l (rS1 t n r l).1 (rS2 t n r l).1 (rS3 t n r l).1 (rS5 t n r l).1)) v → k v S F' G) : calI 4 221 [.inr (.inr (.inl 4)), .inl x1] (mm S F G) k nof := by
  have l0 := hv.1.1
  have l1 := hv.1.2.1
  have l2 := hv.1.2.2.1
  have ka : kq (kk (S 4 1)) 0 0 = true := by rw [hS, lk ha]; rfl
  have h10 := (LRp_h hl).2.1
  have a2 := oL_2 ha
  have e10 : wr (F (S 4 1) 10 - 1) = l 1 - 1 := by rw [hS, h10, wr_id (by omega) (by omega)]
  refine sg_221_0 (ck_i ka ?_)
  rw [e10]
  rcases hx with x0 | x0
  · subst x0
    exact c_214_0 hc (cd_t rfl ⟨_, _, _, rfl, blk rfl⟩)
  subst x0
  have ok := ok rfl
  obtain ⟨v1, ev1⟩ : ∃ v, v = pNb t n r 0 (l 1 - 1) := ⟨_, rfl⟩
  obtain ⟨v2, ev2⟩ : ∃ v, v = pNb t n v1.2 0 23 := ⟨_, rfl⟩
  obtain ⟨v3, ev3⟩ : ∃ v, v = pNb t n (pAt v2.2 (pSp t n v2.2.1)) v2.1 23 := ⟨_, rfl⟩
  have ew1 : rS1 t n r l = v1 := ev1.symm
  have ew2 : rS2 t n r l = v2 := by unfold rS2; rw [ew1]; exact ev2.symm
  have ew3 : rS3 t n r l = v3 := by unfold rS3; rw [ew2]; exact ev3.symm
  obtain ⟨sc, esc⟩ : ∃ c, c = snC (fun h => pSy l h ∨ v2.1 ≤ h ∧ h ≤ v3.1) 24 := ⟨_, rfl⟩
  have ewc : rSc t n r l = sc := by unfold rSc; rw [ew2, ew3]; exact esc.symm
  have ew4 : rS4 t n r l = if v3.2.2.1 = -1 ∧ 10 < sc then pFl v3.2 2 (pSp t n v2.2.1) else v3.2 := by unfold rS4; rw [ewc, ew3, ew2]
  have ew5 : rS5 t n r l = pNb t n (if v3.2.2.1 = -1 ∧ 10 < sc then pFl v3.2 2 (pSp t n v2.2.1) else v3.2) 1 16 := by unfold rS5; rw [ew4]
  rw [ew5, ew1, ew2, ew3] at ok
  -- a fault at the third number or before
  have bad : ∀ (X : Pz) (F' : FI) (q : Pz), FRd a F F' → q.2.1 ≠ -1 → v3.2.2 = q.2 → k 0 S (cFt F' q.2.2 q.2.1) G := by
    intro X F' q fr hq e
    have ok := ok (cFt F' q.2.2 q.2.1) 0
    have ne : v3.2.2.1 ≠ -1 := by rw [e]; exact hq
    rw [if_neg (show ¬ (v3.2.2.1 = -1 ∧ 10 < sc) from fun r => ne r.1), pNb_x ne, if_pos ne] at ok
    exact ok (OC_f fr hq e)
  refine c_214r hc hr hp (by omega) (fun F1 g => cd_f (by decide) ?_) (fun F1 q f1 eq hq => cd_t rfl ⟨_, _, _, rfl, ?_⟩)
  · obtain ⟨f1, g1, g2, g3, g4, g5⟩ := g
    rw [← ev1] at g1 g2 g4 g5
    refine c_216 g3 g4 g1 (by omega) (fun F2 g' => cd_f (by decide) ?_) (fun F2 q f2 eq hq => cd_t rfl ⟨_, _, _, rfl, ?_⟩)
    · obtain ⟨f2, p1, p2, p3, p4, p5⟩ := g'
      rw [← ev2] at p1 p2 p4 p5
      rw [p5]
      have te := tE_b (t := t) p3.2.2.1.1 p3.2.2.1.2.1
      have ev3' : v3 = pNb t n v2.2 v2.1 23 := by rw [ev3]; exact pNb_sp (by omega) p1
      refine c_216 p3 p4 p1 (by decide) (fun F3 g'' => cd_f (by decide) ?_) (fun F3 q f3 eq hq => cd_t rfl ⟨_, _, _, rfl, ?_⟩)
      · obtain ⟨f3, q1, q2, q3, q4, q5⟩ := g''
        rw [← ev3'] at q1 q2 q4 q5
        have f123 := TF_t (TF_t f1 f2) f3
        have lb := LRp_t ha hl f123
        rw [q5]
        refine c_222 ha hS lb ?_
        rw [← esc]
        refine cn_i (fun z => ?_) (fun z => ?_)
        · have ok := ok (cFt F3 2 (pSp t n v2.2.1)) 0
          have ef : pFl v3.2 2 (pSp t n v2.2.1) = (v3.2.1, pSp t n v2.2.1, 2) := by unfold pFl; rw [if_pos q1]
          have b0 := q3.2.2.1.1
          have ne : pSp t n v2.2.1 ≠ -1 := by omega
          rw [if_pos (show v3.2.2.1 = -1 ∧ 10 < sc from ⟨q1, z⟩), ef, pNb_x (q := (v3.2.1, pSp t n v2.2.1, 2)) ne, if_pos (show ((v3.2.1, pSp t n v2.2.1, (2 : Int)) : Pz).2.1 ≠ -1 from ne)] at ok
          exact c_281 q3 (ck_i rfl ⟨_, _, _, rfl, ok (OC_f (q := (v3.2.1, pSp t n v2.2.1, 2)) (FRd_f f123) ne rfl)⟩)
        · rw [if_neg (show ¬ (v3.2.2.1 = -1 ∧ 10 < sc) from fun r => z r.2)] at ok
          obtain ⟨v5, ev5⟩ : ∃ v, v = pNb t n v3.2 1 16 := ⟨_, rfl⟩
          rw [← ev5] at ok
          refine c_216 q3 q4 q1 (by decide) (fun F4 g'' => cd_f (by decide) ?_) (fun F4 q f4 eq hq => cd_t rfl ⟨_, _, _, rfl, ?_⟩)
          · obtain ⟨f4, s1, s2, s3, s4, s5⟩ := g''
            rw [← ev5] at s1 s2 s4 s5
            rw [if_neg (fun r => r s1)] at ok
            rw [g5]
            refine l_221_105 (F0 := F) (x := v2.1) (v := v5.1) (l := l) ha hS s4 ⟨by omega, by omega⟩ ⟨by omega, by omega, by omega⟩ s2.1 ⟨l0, l1, l2⟩ (fun F5 fr c5 l5 => ⟨_, _, _, rfl, ok F5 1 (OC_g fr s1 c5 l5)⟩) (v3.1 + 1 - v2.1).toNat v2.1 F4 (by omega) (Int.le_refl _) (FRd_f (TF_t f123 f4)) s3 s5 ?_
            rw [wSj_0]
            exact LRp_t ha lb f4
          · rw [← ev5] at eq
            have ok := ok (cFt F4 q.2.2 q.2.1) 0
            rw [if_pos (by rw [← eq]; exact hq)] at ok
            exact ok (OC_f (FRd_f (TF_t f123 f4)) hq (by rw [eq]))
      · rw [← ev3'] at eq
        exact bad q F3 q (FRd_f (TF_t (TF_t f1 f2) f3)) hq (by rw [eq])
    · rw [← ev2] at eq
      refine bad q F2 q (FRd_f (TF_t f1 f2)) hq ?_
      rw [ev3, ← eq, pNb_x (q := pAt q (pSp t n q.1)) hq]
      rfl
  · rw [← ev1] at eq
    refine bad q F1 q (FRd_f f1) hq ?_
    have e2 : v2 = (0, q) := by rw [ev2, ← eq]; exact pNb_x hq
    rw [ev3, e2, pNb_x (q := pAt q (pSp t n q.1)) hq]
    rfl
/-- any line -/
theorem c_212 {k : Int → FS → FI → FJ → Prop} {t : Nat → Int} {n b x1 : Int} {a : Nat} {r : Pz} {l : Nat → Int} {S : FS} {F : FI} {G : FJ} (ha : oL a) (hS : S 4 1 = a) (hT : TX F) (hc : CTk F t n b) (hr : r = (pLe t n b, -1, r.2.2)) (hl : LRp F a l) (hv : RV l) (hx : x1 = 0 ∨ x1 = 1)
    (nc : ¬ isCl (pWd t n b) → k 0 S (cFt F 1 b) G) (blk : isCl (pWd t n b) → (x1 = 0 ∨ flF (pWd t n b) l) → k 0 S (cFt F 3 b) G) (ok : isCl (pWd t n b) → x1 = 1 → ¬ flF (pWd t n b) l → ∀ F' v, OC t n a F F' (rC t n (pWd t n b) r l) v → k v S F' G) : calI 5 212 [.inr (.inr (.inl 4)), .inl x1] (mm S F G) k nof := by
  obtain ⟨⟨s6, s7, s9, s8, s10, -⟩, -⟩ := tC_same
  have b1 := hc.2.2.1
  have wd : (tC 6 ≠ tC 7 ∧ tC 6 ≠ tC 8 ∧ tC 6 ≠ tC 9 ∧ tC 6 ≠ tC 10) ∧ (tC 7 ≠ tC 8 ∧ tC 7 ≠ tC 9 ∧ tC 7 ≠ tC 10) ∧ (tC 8 ≠ tC 9 ∧ tC 8 ≠ tC 10) ∧ tC 9 ≠ tC 10 ∧ ((tC 6 ≠ tC 11 ∧ tC 6 ≠ tC 12) ∧ tC 6 ≠ tC 13 ∧ tC 6 ≠ tC 14) := by decide +kernel
  have hp : r.2.1 = -1 := by rw [hr]
  have te : ∀ s, 4 ≤ s → s < 51 → pWd t n b = tC s → r.1 = tE t n b := fun s h1 h2 e => by
    rw [tE_w (okW_i h1 h2) b1.1 b1.2.1 e, hr]
  obtain ⟨w, ew⟩ : ∃ w, w = pWd t n b := ⟨_, rfl⟩
  have te := fun s h1 h2 (e : w = tC s) => te s h1 h2 (ew.symm.trans e)
  rw [← ew] at nc blk ok
  refine sg_212_0 (c_279 (s := 26) rfl (okW_i (by decide) (by decide)) hT hc (fun z => cd_f (by decide) ?_) (fun z6 => cd_t rfl ?_))
  · rw [← ew] at z
    have hr := te 26 (by decide) (by decide) z
    rw [s6] at z
    have cl : isCl w := Or.inl z
    refine c_218 ha hS hT hc hr hp hl hv hx (fun q => ck_i rfl ⟨_, _, _, rfl, blk cl (q.elim Or.inl (fun q => Or.inr (Or.inl ⟨z, q⟩)))⟩) (fun x1 nf F' v o => ck_i (OC_z o) ⟨_, _, _, rfl, ok cl x1 ?_ F' v ?_⟩)
    · rintro (q | q | q)
      · exact nf q.2
      · exact wd.1.1 (z.symm.trans q.1)
      · exact wd.1.2.2.1 (z.symm.trans q.1)
    · unfold rC
      rw [if_pos z]
      exact o
  rw [s6, ← ew] at z6
  refine c_279 (s := 27) rfl (okW_i (by decide) (by decide)) hT hc (fun z => cd_f (by decide) ?_) (fun z7 => cd_t rfl ?_)
  · rw [← ew] at z
    have hr := te 27 (by decide) (by decide) z
    rw [s7] at z
    have cl : isCl w := Or.inr (Or.inl z)
    refine c_219 ha hS hc hr hp hl hv hx (fun q => ck_i rfl ⟨_, _, _, rfl, blk cl (q.elim Or.inl (fun q => Or.inr (Or.inr (Or.inl ⟨z, q⟩))))⟩) (fun x1 nf F' v o => ck_i (OC_z o) ⟨_, _, _, rfl, ok cl x1 ?_ F' v ?_⟩)
    · rintro (q | q | q)
      · exact z6 q.1
      · exact nf q.2
      · exact wd.2.1.2.1 (z.symm.trans q.1)
    · unfold rC
      rw [if_neg z6, if_pos z]
      exact o
  rw [s7, ← ew] at z7
  refine c_279 (s := 28) rfl (okW_i (by decide) (by decide)) hT hc (fun z => cd_f (by decide) ?_) (fun z9 => cd_t rfl ?_)
  · rw [← ew] at z
    have hr := te 28 (by decide) (by decide) z
    rw [s9] at z
    have cl : isCl w := Or.inr (Or.inr (Or.inr (Or.inl z)))
    refine c_220 ha hS hc hr hp hl hv hx (fun q => ck_i rfl ⟨_, _, _, rfl, blk cl (q.elim Or.inl (fun q => Or.inr (Or.inr (Or.inr ⟨z, q⟩))))⟩) (fun x1 nf F' v o => ck_i (OC_z o) ⟨_, _, _, rfl, ok cl x1 ?_ F' v ?_⟩)
    · rintro (q | q | q)
      · exact z6 q.1
      · exact z7 q.1
      · exact nf q.2
    · unfold rC
      rw [if_neg z6, if_neg z7, if_neg (fun q => wd.2.2.1.1 (q.symm.trans z)), if_pos z]
      exact o
  rw [s9, ← ew] at z9
  have nofl : ¬ flF w l := by
    rintro (q | q | q)
    · exact z6 q.1
    · exact z7 q.1
    · exact z9 q.1
  refine c_279 (s := 29) rfl (okW_i (by decide) (by decide)) hT hc (fun z => cd_f (by decide) ?_) (fun z8 => cd_t rfl ?_)
  · rw [← ew] at z
    have hr := te 29 (by decide) (by decide) z
    rw [s8] at z
    have cl : isCl w := Or.inr (Or.inr (Or.inl z))
    refine c_221 ha hS hc hr hp hl hv hx (fun q => ck_i rfl ⟨_, _, _, rfl, blk cl (Or.inl q)⟩) (fun x1 F' v o => ck_i (OC_z o) ⟨_, _, _, rfl, ok cl x1 nofl F' v ?_⟩)
    unfold rC
    rw [if_neg z6, if_neg z7, if_pos z]
    exact o
  rw [s8, ← ew] at z8
  refine c_279 (s := 30) rfl (okW_i (by decide) (by decide)) hT hc (fun z => cd_f (by decide) ?_) (fun z10 => cd_t rfl ?_)
  · rw [← ew] at z
    have hr := te 30 (by decide) (by decide) z
    rw [s10] at z
    have cl : isCl w := Or.inr (Or.inr (Or.inr (Or.inr (Or.inl z))))
    refine c_223 ha hS hc hr hp hl hv hx (fun q => ck_i rfl ⟨_, _, _, rfl, blk cl (Or.inl q)⟩) (fun x1 F' v o => ck_i (OC_z o) ⟨_, _, _, rfl, ok cl x1 nofl F' v ?_⟩)
    unfold rC
    rw [if_neg z6, if_neg z7, if_neg z8, if_neg z9, if_pos z]
    exact o
  rw [s10, ← ew] at z10
  have te2 : isCl w → r.1 = tE t n b := by
    rintro (q | q | q | q | q | q | q | q | q)
    · exact te 6 (by decide) (by decide) q
    · exact te 7 (by decide) (by decide) q
    · exact te 8 (by decide) (by decide) q
    · exact te 9 (by decide) (by decide) q
    · exact te 10 (by decide) (by decide) q
    · exact te 11 (by decide) (by decide) q
    · exact te 12 (by decide) (by decide) q
    · exact te 13 (by decide) (by decide) q
    · exact te 14 (by decide) (by decide) q
  exact c_213 ha hS hT hc ew te2 hp hl hv hx z6 z7 z8 z9 z10 (fun q => ck_i rfl ⟨_, _, _, rfl, nc q⟩) (fun q x0 => ck_i rfl ⟨_, _, _, rfl, blk q (Or.inl x0)⟩) (fun q x1 F' v o => ck_i (OC_z o) ⟨_, _, _, rfl, ok q x1 nofl F' v o⟩)
