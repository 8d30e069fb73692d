/-! ===== the class: a state is filled, on ===== -/
theorem sp_n {d : Nat} {h h' p q n s : Int} (hd : oT d) (h0 : 0 ≤ h) (p0 : 0 ≤ p) (p1 : p < 12) (n0 : 0 ≤ n) (n1 : n ≤ 12) (q0 : 0 ≤ q) (q1 : q < 12) (s0 : 0 ≤ s) (s1 : s ≤ 12) (hh : h' = h + 1 ∨ d = 16 ∧ h' ≠ h ∧ 0 ≤ h' ∨ h' = h ∧ (q ≠ p ∨ s ≠ n)) : sp d h' q s ≠ sp d h p n := by
  unfold sp
  rcases hd with e | e
  · rw [if_pos e, if_pos e]
    omega
  · rw [if_neg (by omega), if_neg (by omega)]
    omega
/-- what filling a state leaves as it is -/
def KD (b d : Nat) (s : Int) (F F0 : FI) : Prop := (∀ c, c ≠ 22 → c ≠ 23 → c ≠ 25 → c ≠ b + 4 → c ≠ b + 5 → c ≠ d + 2 → F c = F0 c) ∧ (∀ j, j < 8 → F 22 j = F0 22 j) ∧ ∀ i : Nat, (i : Int) ≠ s → F (d + 2) i = F0 (d + 2) i
theorem KD_r {b d : Nat} {s : Int} {F : FI} : KD b d s F F := ⟨fun _ _ _ _ _ _ _ => rfl, fun _ _ => rfl, fun _ _ => rfl⟩
theorem KD_a {b d : Nat} {s : Int} {F F1 F2 : FI} (hd : oT d) (h1 : KD b d s F1 F) (h2 : KA 8 F2 F1) : KD b d s F2 F := ⟨fun c a1 a2 a3 a4 a5 a6 => (h2.1 c a1).trans (h1.1 c a1 a2 a3 a4 a5 a6), fun j h => (h2.2 j h).trans (h1.2.1 j h), fun i hi => by rw [h2.1 (d + 2) (by omega)]; exact h1.2.2 i hi⟩
theorem KD_b {b d : Nat} {s : Int} {F F1 F2 : FI} (hd : oT d) (hb : oW b) (h1 : KD b d s F1 F) (h2 : KB b F2 F1) : KD b d s F2 F := ⟨fun c a1 a2 a3 a4 a5 a6 => (h2.1 c a1 a2 a3 a4 a5).trans (h1.1 c a1 a2 a3 a4 a5 a6), fun j h => (h2.2 j (by omega)).trans (h1.2.1 j h), fun i hi => by rw [h2.1 (d + 2) (by omega) (by omega) (by omega) (by omega) (by omega)]; exact h1.2.2 i hi⟩
theorem KD_u {b d : Nat} {s v : Int} {F F1 : FI} (hd : oT d) (hs : 0 ≤ s) (h1 : KD b d s F1 F) : KD b d s (u2 F1 (d + 2) s.toNat v) F := ⟨fun c a1 a2 a3 a4 a5 a6 => by rw [u2_o a6]; exact h1.1 c a1 a2 a3 a4 a5 a6, fun j h => by rw [u2_o (by omega)]; exact h1.2.1 j h, fun i hi => by rw [u2_n (by omega)]; exact h1.2.2 i hi⟩
theorem YX_d {S : FS} {F F' : FI} {G : FJ} {a b c d : Nat} {l : Nat → Int} {w : La} {st s : Int} (h : YX S F G a b c d l w st) (hF : KD b d s F' F) : YX S F' G a b c d l w st := YX_k h hF.1 (fun _ _ => rfl)
theorem YS_g {G G' : FJ} {d : Nat} {l : Nat → Int} {g : Cf} {st h p n : Int} (hv : LV l) (hd : oT d) (hs : 0 ≤ st) (hst : st ≤ 12) (h1 : 0 ≤ h) (h3 : 0 ≤ p) (h4 : p < l 0) (h5 : 1 ≤ n) (h6 : n ≤ st) (hy : YS G d l g st h p n) (hG : GX G' G d (sp d h p n)) (h2 : h < l 3) : YS G' d l g st h p n := by
  have hv' := hv
  obtain ⟨⟨hv1, hv2⟩, ⟨hv3, hv4⟩, ⟨hv5, hv6⟩, ⟨hv7, hv8⟩, ⟨hv9, hv10⟩, ⟨hv11, hv12⟩, ⟨hv13, hv14⟩, hvw, hvs, hvk, hvc, hvx⟩ := id hv
  intro q hq o ho
  have hq2 : 0 ≤ q ∧ q < l 0 := by
    rcases hq with e | ⟨m, am, m1, e⟩
    · omega
    · have : m ≤ l 1 := by
        unfold AM at am
        omega
      have := sOth_b (p := p) hv (w := m - 1) (by omega) (by omega)
      omega
  have a := sAf_b (l := l) (st := st) (q := q) (n := n) hs hst h5 h6
  have ne := sp_n (h := h) (h' := h + 1) (p := p) (n := n) (q := q) (s := sAf l st q n) hd h1 h3 (by omega) (by omega) (by omega) hq2.1 (by omega) a.1 (by omega) (Or.inl rfl)
  have b1 := sp_b (h := h + 1) (p := q) (n := sAf l st q n) hd (by omega) (by omega) hq2.1 (by omega) a.1 (by omega)
  have b2 := sp_b (h := h) (p := p) (n := n) hd (by omega) (by omega) h3 (by omega) (by omega) (by omega)
  have ho' := ho
  unfold YV at ho'
  rw [hG.2 _ (by omega)]
  exact hy q hq o ho
theorem l_260_211 {Q : Rs → Mm → Prop} {a b c d : Nat} {l : Nat → Int} {w : La} {g : Cf} {st h p n s x12 : Int} {S : FS} {F : FI} {G G0 : FJ} (hx : YX S F G0 a b c d l w st) (hc : CV l st g) (h1 : 0 ≤ p) (h1' : p < l 0) (h2 : 0 ≤ h) (h2' : h < l 3) (h3 : 1 ≤ n) (h3' : n ≤ st) (he : sEnd l h p n = 0) (es : s = sp d h p n)
    (am : AM l p (sTk l g st h p n)) (ai : AI F d l st h p n (sTk l g st h p n)) (hy : YS G0 d l g st h p n) (h12 : 0 ≤ x12) (h12' : x12 ≤ 2 + l 2) (hG : GX G G0 d s) (g1 : ∀ o, 0 ≤ o → o < x12 → G (d + 1) (s * 12 + o).toNat = fC l g st (l 3 - h).toNat o p n) (g2 : ∀ o, 7 ≤ o → o < 12 → G (d + 1) (s * 12 + o).toNat = G0 (d + 1) (s * 12 + o).toNat)
    (hk : ∀ G', GX G' G0 d s → (∀ o, 0 ≤ o → o < 2 + l 2 → G' (d + 1) (s * 12 + o).toNat = fC l g st (l 3 - h).toNat o p n) → (∀ o, 7 ≤ o → o < 12 → G' (d + 1) (s * 12 + o).toNat = G0 (d + 1) (s * 12 + o).toNat) → Q (.inl none) (mm S F G')) :
    wph 5 260 211 [.inr (.inr (.inl 22)), jk, jk, jk, .inl s, jk, jk, jk, jk, .inr (.inr (.inl (d + 1))), .inl (F 22 12 * 12), .inl (F 22 13 * 12), .inl x12] [] (mm S F G) (0, 0) Q := by
  obtain ⟨ha, hb, hc', hd, ⟨s0, s1, s2, s3⟩, hv, hw', hl, hrw, hst', htw, hs1, hs2⟩ := id (YX_g hx hG)
  have hv' := hv
  obtain ⟨⟨hv1, hv2⟩, ⟨hv3, hv4⟩, ⟨hv5, hv6⟩, ⟨hv7, hv8⟩, ⟨hv9, hv10⟩, ⟨hv11, hv12⟩, ⟨hv13, hv14⟩, hvw, hvs, hvk, hvc, hvx⟩ := id hv
  have tkk := sTk_in hv hc ⟨h2, by omega, h1, h1', by omega, h3'⟩ he
  have tb := tk_bit hv hc ⟨h2, by omega, h1, h1', by omega, h3'⟩ he
  have hysG : YS G d l g st h p n := YS_g hv hd hs1 hs2 h2 h1 h1' h3 h3' hy (by rw [← es]; exact hG) h2'
  obtain ⟨t1, ⟨t2, t2'⟩, ⟨t3, t3'⟩, q, t4, t5, t6⟩ := id ai
  have hb0 : 0 ≤ q ∧ q < l 0 := by
    rcases t4 with e | ⟨e1, e2⟩
    · omega
    · have := sOth_b (p := p) hv (w := sTk l g st h p n - 1) (by omega) (by omega)
      omega
  have ap := sAf_b (l := l) (st := st) (q := p) (n := n) hs1 hs2 h3 h3'
  have aq := sAf_b (l := l) (st := st) (q := q) (n := n) hs1 hs2 h3 h3'
  have bp := sp_b (h := h + 1) (p := p) (n := sAf l st p n) hd (by omega) (by omega) h1 (by omega) (by omega) (by omega)
  have bq := sp_b (h := h + 1) (p := q) (n := sAf l st q n) hd (by omega) (by omega) hb0.1 (by omega) (by omega) (by omega)
  have bs := sp_b (h := h) (p := p) (n := n) hd (by omega) (by omega) h1 (by omega) (by omega) (by omega)
  rw [← es] at bs
  refine sg_260_211 ?_
  simp only [s0, lk ha, lk1 ha, lk2 ha, lk3 ha, lk4 ha, lk5 ha, lk6 ha, lk7 ha, lk8 ha, lk9 ha, lr0 ha, lr1 ha, lr2 ha, lr3 ha, lr4 ha, lr5 ha, lr6 ha, lr7 ha, lr8 ha, tk hd, tk1 hd, tk2 hd, tr1 hd, tr2 hd, hl.1.2.2.1, t1, t5]
  rw [wr_id (a := 2 + l 2) (by omega) (by omega)]
  refine ck_i rfl (cn_i (fun z => ?_) (fun z => ?_))
  · have yv : YV l g x12 := ⟨h12, Or.inl z⟩
    have z1 : wr (sp d (h + 1) p (sAf l st p n) * 12 + x12) = sp d (h + 1) p (sAf l st p n) * 12 + x12 := wr_id (by omega) (by omega)
    have z2 : wr (sp d (h + 1) q (sAf l st q n) * 12 + x12) = sp d (h + 1) q (sAf l st q n) * 12 + x12 := wr_id (by omega) (by omega)
    have z3 : wr (wr (s * 12) + x12) = s * 12 + x12 := by
      rw [wr_id (a := s * 12) (by omega) (by omega), wr_id (by omega) (by omega)]
    simp only [z1, z2, z3]
    have gp := hysG p (Or.inl rfl) x12 yv
    have gq := hysG q (t4.elim Or.inl (fun y => Or.inr ⟨_, am, y.1, y.2⟩)) x12 yv
    have e1 := fC_B hv hs1 hs2 hc yv (t := (l 3 - (h + 1)).toNat) (by omega) h1 h1' ap.1 ap.2
    have e2 := fC_B hv hs1 hs2 hc yv (t := (l 3 - (h + 1)).toNat) (by omega) hb0.1 hb0.2 aq.1 aq.2
    unfold B5 at e1 e2
    have m1 := mul_b (b := F 22 14) (c := 1125899906842624) e1.1 e1.2 t2
    have m2 := mul_b (b := F 22 15) (c := 1125899906842624) e2.1 e2.2 t3
    rw [Int.mul_comm (fC l g st (l 3 - (h + 1)).toNat x12 p (sAf l st p n))] at m1
    rw [Int.mul_comm (fC l g st (l 3 - (h + 1)).toNat x12 q (sAf l st q n))] at m2
    have e3 := t6 (fC l g st (l 3 - (h + 1)).toNat x12)
    rw [← fC_g h2' he (by omega)] at e3
    rw [gp, gq]
    have z4 : wl (wl (F 22 14 * fC l g st (l 3 - (h + 1)).toNat x12 p (sAf l st p n)) + wl (F 22 15 * fC l g st (l 3 - (h + 1)).toNat x12 q (sAf l st q n))) = fC l g st (l 3 - h).toNat x12 p n := by
      rw [wl_id (a := F 22 14 * _) (by omega) (by omega), wl_id (a := F 22 15 * _) (by omega) (by omega), wl_id (by omega) (by omega)]
      exact e3
    rw [z4, wr_id (a := x12 + 1) (by omega) (by omega)]
    refine ck_i rfl (ck_i (jb_i (by omega) (by omega)) (ck_i rfl (ck_i (jb_i (by omega) (by omega)) (ck_i rfl (ck_i (jb_i (by omega) (by omega)) ?_)))))
    have rcc := l_260_211 (G := u2 G (d + 1) (s * 12 + x12).toNat (fC l g st (l 3 - h).toNat x12 p n)) (x12 := x12 + 1) hx hc h1 h1' h2 h2' h3 h3' he es am ai hy (by omega) (by omega) (GX_u hG (by omega) (by omega)) (fun o o0 o1 => ?_) (fun o o0 o1 => ?_) hk
    · rw [t1, t5] at rcc
      exact rcc
    · rw [u2_k]
      by_cases y : o = x12
      · rw [y, if_pos rfl]
      · rw [if_neg (by omega)]
        exact g1 o o0 (by omega)
    · rw [u2_n (by omega)]
      exact g2 o o0 o1
  · have : x12 = 2 + l 2 := by omega
    rw [this] at g1
    exact hk G hG g1 g2
termination_by (2 + l 2 - x12).toNat
decreasing_by omega
/-- the move is taken, and the columns follow -/
theorem t_260 {Q : Rs → Mm → Prop} {a b c d : Nat} {l : Nat → Int} {w : La} {g : Cf} {st h p n s m : Int} {S : FS} {F : FI} {G : FJ} (hx : YX S F G a b c d l w st) (hc : CV l st g) (h1 : 0 ≤ p) (h1' : p < l 0) (h2 : 0 ≤ h) (h2' : h < l 3) (h3 : 1 ≤ n) (h3' : n ≤ st) (he : sEnd l h p n = 0) (es : s = sp d h p n)
    (am : AM l p (sTk l g st h p n)) (hst : ST F d l st h p n) (hy : YS G d l g st h p n) (em : m = sTk l g st h p n)
    (hk : ∀ F' G', KA 13 F' (u2 F (d + 2) s.toNat m) → GX G' G d s → (∀ o, 0 ≤ o → o < 2 + l 2 → G' (d + 1) (s * 12 + o).toNat = fC l g st (l 3 - h).toNat o p n) → (∀ o, 7 ≤ o → o < 12 → G' (d + 1) (s * 12 + o).toNat = G (d + 1) (s * 12 + o).toNat) → Q (.inl none) (mm S F' G')) :
    chk (kq (kk (S 22 3)) 0 7) (chk (Nat.beq (kk (rr (S 22 3) 2)).1 1) (chk (ib s (kk (rr (S 22 3) 2)).2) (calV 1 268 [.inr (.inr (.inl 22)), .inl m] (mm S (u2 F (rr (S 22 3) 2) s.toNat m) G) (fun S5 F5 G5 => chk (kq (kk (S5 22 3)) 0 7) (wph 5 260 211 [.inr (.inr (.inl 22)), jk, jk, jk, .inl s, jk, jk, jk, jk, .inr (.inr (.inl (rr (S5 22 3) 1))), .inl (wr (F5 22 12 * 12)), .inl (wr (F5 22 13 * 12)), .inl 0] [] (mm S5 F5 G5) (0, 0) Q)) nof))) := by
  obtain ⟨ha, hb, hc', hd, ⟨s0, s1, s2, s3⟩, hv, hw', hl, hrw, hst', htw, hs1, hs2⟩ := id hx
  have hv' := hv
  obtain ⟨⟨hv1, hv2⟩, ⟨hv3, hv4⟩, ⟨hv5, hv6⟩, ⟨hv7, hv8⟩, ⟨hv9, hv10⟩, ⟨hv11, hv12⟩, ⟨hv13, hv14⟩, hvw, hvs, hvk, hvc, hvx⟩ := id hv
  have bs := sp_b (h := h) (p := p) (n := n) hd (by omega) (by omega) h1 (by omega) (by omega) (by omega)
  rw [← es] at bs
  simp only [s3, tk hd, tk1 hd, tk2 hd, tr1 hd, tr2 hd]
  have xF : YX S (u2 F (d + 2) s.toNat m) G a b c d l w st := YX_k hx (fun j _ _ _ _ _ h6 => u2_o h6) (fun _ _ => rfl)
  have stF : ST (u2 F (d + 2) s.toNat m) d l st h p n := ST_j hst (fun j _ => by rw [u2_o (by omega)])
  have tkk := sTk_in hv hc ⟨h2, by omega, h1, h1', by omega, h3'⟩ he
  rw [em] at xF stF hk ⊢
  refine ck_i rfl (ck_i rfl (ck_i (jb_i (by omega) (by omega)) (c_268 xF h1 h1' h2 h2' h3 h3' stF am (fun F5 k5 ai => ?_))))
  simp only [s3, tk hd, tk1 hd, tk2 hd, tr1 hd, tr2 hd]
  have hb0 : 0 ≤ F5 22 12 ∧ F5 22 12 < 3900 ∧ 0 ≤ F5 22 13 ∧ F5 22 13 < 3900 := by
    obtain ⟨t1, -, -, q, t4, t5, -⟩ := id ai
    have hb0 : 0 ≤ q ∧ q < l 0 := by
      rcases t4 with e | ⟨e1, e2⟩
      · omega
      · have := sOth_b (p := p) hv (w := sTk l g st h p n - 1) (by omega) (by omega)
        omega
    have ap := sAf_b (l := l) (st := st) (q := p) (n := n) hs1 hs2 h3 h3'
    have aq := sAf_b (l := l) (st := st) (q := q) (n := n) hs1 hs2 h3 h3'
    have bp := sp_b (h := h + 1) (p := p) (n := sAf l st p n) hd (by omega) (by omega) h1 (by omega) (by omega) (by omega)
    have bq := sp_b (h := h + 1) (p := q) (n := sAf l st q n) hd (by omega) (by omega) hb0.1 (by omega) (by omega) (by omega)
    rw [t1, t5]
    omega
  rw [wr_id (a := F5 22 12 * 12) (by omega) (by omega), wr_id (a := F5 22 13 * 12) (by omega) (by omega)]
  refine ck_i rfl (l_260_211 (YX_a xF k5) hc h1 h1' h2 h2' h3 h3' he es am ai hy (by omega) (by omega) GX_r (fun o a b => by omega) (fun o _ _ => rfl) (fun G' x1 x2 x3 => hk F5 G' k5 x1 x2 x3))
theorem l_260_50 {Q : Rs → Mm → Prop} {a b c d : Nat} {l : Nat → Int} {w : La} {g : Cf} {st h p n s x6 : Int} {S : FS} {F F0 : FI} {G G0 : FJ} (hx : YX S F0 G0 a b c d l w st) (hr : SR F0 c l w g) (hc : CV l st g) (hcw : CW l g) (h1 : 0 ≤ p) (h1' : p < l 0) (h2 : 0 ≤ h) (h2' : h < l 3) (h3 : 1 ≤ n) (h3' : n ≤ st) (he : sEnd l h p n = 0) (es : s = sp d h p n)
    (hst : ST F0 d l st h p n) (hy : YS G0 d l g st h p n) (h6 : 0 ≤ x6) (h6' : x6 ≤ l 2) (hF : KB b F F0) (hmc : MC (F 23) l w) (hG : GX G G0 d s) (gk : ∀ k, 0 ≤ k → k < x6 → cK g k = 1 ∨ cK g k = 4 → G (d + 1) (s * 12 + (7 + k)).toNat = fC l g st (l 3 - h).toNat (7 + k) p n)
    (hk : ∀ F' G', KD b d s F' F0 → MC (F' 23) l w → GX G' G0 d s → GS G' d l g st h p n → F' (d + 2) s.toNat = sTk l g st h p n → Q (.inl none) (mm S F' G')) :
    wph 5 260 50 [.inr (.inr (.inl 22)), .inl p, .inl h, .inl n, .inl s, jk, .inl x6] [] (mm S F G) (0, 0) Q := by
  have hxF := YX_b (YX_g hx hG) hF
  obtain ⟨ha, hb, hc', hd, ⟨s0, s1, s2, s3⟩, hv, hw', hl, hrw, hst', htw, hs1, hs2⟩ := id hxF
  have hv' := hv
  obtain ⟨⟨hv1, hv2⟩, ⟨hv3, hv4⟩, ⟨hv5, hv6⟩, ⟨hv7, hv8⟩, ⟨hv9, hv10⟩, ⟨hv11, hv12⟩, ⟨hv13, hv14⟩, hvw, hvs, hvk, hvc, hvx⟩ := id hv
  have hrF := SR_b hr hc' hb hF
  have stF := ST_j hst hF.2
  have hyG : YS G d l g st h p n := YS_g hv hd hs1 hs2 h2 h1 h1' h3 h3' hy (by rw [← es]; exact hG) h2'
  have bs := sp_b (h := h) (p := p) (n := n) hd (by omega) (by omega) h1 (by omega) (by omega) (by omega)
  rw [← es] at bs
  refine sg_260_50 ?_
  simp only [s0, s2, lk ha, lk1 ha, lk2 ha, lk3 ha, lk4 ha, lk5 ha, lk6 ha, lk7 ha, lk8 ha, lk9 ha, lr0 ha, lr1 ha, lr2 ha, lr3 ha, lr4 ha, lr5 ha, lr6 ha, lr7 ha, lr8 ha, ck_ hc', ck1 hc', ck2 hc', ck3 hc', ck4 hc', cr0 hc', cr1 hc', cr2 hc', cr3 hc', hl.1.2.2.1]
  rw [wr_id (a := x6 + 1) (by omega) (by omega)]
  refine ck_i rfl (cn_i (fun z => ?_) (fun z => ?_))
  · have kd := hrF.2.1 x6 h6 z
    rw [kd]
    have dream : cK g x6 = 1 ∨ cK g x6 = 4 → calV 4 262 [.inr (.inr (.inl 22)), .inl s, .inl x6] (mm S F G) (fun S1 F1 G1 => wph 5 260 50 [.inr (.inr (.inl 22)), .inl p, .inl h, .inl n, .inl s, jk, .inl (x6 + 1)] [] (mm S1 F1 G1) (0, 0) Q) nof := by
      intro hkd
      refine c_262 hxF hrF hc hmc h1 h1' h2 h2' h3 h3' he stF hyG es h6 z hkd (fun F1 k1 mc1 => ?_)
      rw [← es]
      refine l_260_50 hx hr hc hcw h1 h1' h2 h2' h3 h3' he es hst hy (by omega) (by omega) (KB_t hF k1) mc1 (GX_u hG (by omega) (by omega)) (fun k k0 k1 kk1 => ?_) hk
      rw [u2_k]
      by_cases y : k = x6
      · rw [y, if_pos rfl]
      · rw [if_neg (by omega)]
        exact gk k k0 (by omega) kk1
    refine ck_i rfl (ck_i rfl (ck_i (jb_i h6 (by omega)) (cn_i (fun q => ?_) (fun q => cn_i (fun q2 => ?_) (fun q2 => ?_)))))
    · exact dream (Or.inl q)
    · exact dream (Or.inr q2)
    · refine l_260_50 hx hr hc hcw h1 h1' h2 h2' h3 h3' he es hst hy (by omega) (by omega) hF hmc hG (fun k k0 k1 kk1 => ?_) hk
      have : k ≠ x6 := fun y => by rw [y] at kk1; exact kk1.elim q q2
      exact gk k k0 (by omega) kk1
  · have lh := hc.1 h h2 h2'
    have ldh := hrF.1 h h2 h2'
    rw [ldh]
    have em : g.2.2.2.1 (g.1 h) h p n = sMask l w (F c 5) (g.1 h) h p n := by rw [hrF.2.2.2.1]
    have am : AM l p (sTk l g st h p n) := by
      have tkk := sTk_in hv hc ⟨h2, by omega, h1, h1', by omega, h3'⟩ he
      have tb := tk_bit hv hc ⟨h2, by omega, h1, h1', by omega, h3'⟩ he
      rw [em] at tb
      exact AM_mask hv4 hv3 tkk.1 tb
    refine ck_i rfl (ck_i rfl (ck_i (jb_i h2 (by omega)) (ck_i rfl (c_256 ha hb s0 s1 hv hw' hl hrw hmc lh.1 (by omega) h1 h1' h2 h2' (by omega) (by omega) (fun F1 k1 mc1 => ?_)))))
    have kb1 := KB_l hb k1
    have hx1 := YX_b hxF kb1
    have st1 := ST_j stF kb1.2
    have hr1 := SR_b hrF hc' hb kb1
    have kd := hr1.2.1 (g.1 h) lh.1 lh.2
    simp only [s2, ck_ hc', ck1 hc', ck2 hc', ck3 hc', ck4 hc', cr0 hc', cr1 hc', cr2 hc', cr3 hc', kd]
    rw [← em]
    have kdF : KD b d s F1 F0 := KD_b hd hb (KD_b hd hb KD_r hF) kb1
    have fin : ∀ F' G', ∀ F2, KB b F2 F1 → MC (F2 23) l w → KA 13 F' (u2 F2 (d + 2) s.toNat (sTk l g st h p n)) → GX G' G d s → (∀ o, 0 ≤ o → o < 2 + l 2 → G' (d + 1) (s * 12 + o).toNat = fC l g st (l 3 - h).toNat o p n) → (∀ o, 7 ≤ o → o < 12 → G' (d + 1) (s * 12 + o).toNat = G (d + 1) (s * 12 + o).toNat) → Q (.inl none) (mm S F' G') := by
      intro F' G' F2 k2 mc2 k3 g1 g2 g3
      refine hk F' G' (KD_a hd (KD_u hd (by omega) (KD_b hd hb kdF k2)) (KA_m k3 (by omega))) (by rw [k3.1 23 (by decide), u2_o (by omega)]; exact mc2) (GX_t hG g1) (fun o ho => ?_) (by rw [k3.1 (d + 2) (by omega), u2_s])
      rw [← es]
      have ho' := ho
      unfold YV at ho'
      by_cases y : o < 2 + l 2
      · exact g2 o ho'.1 y
      · have kd' := (ho'.2.resolve_left y)
        rw [g3 o (by omega) (by omega)]
        have := gk (o - 7) (by omega) (by omega) kd'.2
        rw [show 7 + (o - 7) = o by omega] at this
        exact this
    have hvt := hc.2.2.2.1
    refine ck_i rfl (ck_i rfl (ck_i (jb_i lh.1 (by omega)) (cn_i (fun q => ?_) (fun q => ?_))))
    · have vt : g.2.2.2.2.2.2 = 1 := by
        apply Classical.byContradiction
        intro y
        have := hcw.1 (g.1 h) lh.1 lh.2
        unfold cK at q
        rw [if_neg y] at q
        split at q <;> omega
      refine c_264 hx1 hr1 hc h1 h1' h2 h2' h3 h3' he st1 hyG vt rfl (fun F2 k2 => ?_)
      have kb2 : KB b F2 F1 := ⟨fun c a1 a2 a3 a4 a5 => k2.1 c a1 a3, k2.2⟩
      exact t_260 (YX_b hx1 kb2) hc h1 h1' h2 h2' h3 h3' he es am (ST_j st1 kb2.2) hyG rfl (fun F' G' k3 g1 g2 g3 => fin F' G' F2 kb2 (by rw [k2.1 23 (by decide) (by decide)]; exact mc1) k3 g1 g2 g3)
    · have vt : g.2.2.2.2.2.2 = 0 := by
        refine hvt.resolve_right (fun y => q ?_)
        unfold cK
        rw [if_pos y]
      refine c_263 hx1 hr1 hc hcw h1 h1' h2 h2' h3 h3' he st1 hyG vt rfl rfl (fun F2 k2 => ?_)
      have kb2 : KB b F2 F1 := KB_a k2
      exact t_260 (YX_b hx1 kb2) hc h1 h1' h2 h2' h3 h3' he es am (ST_j st1 kb2.2) hyG rfl (fun F' G' k3 g1 g2 g3 => fin F' G' F2 kb2 (by rw [k2.1 23 (by decide)]; exact mc1) k3 g1 g2 g3)
termination_by (l 2 - x6).toNat
decreasing_by all_goals omega
theorem c_260 {k : FS → FI → FJ → Prop} {a b c d : Nat} {l : Nat → Int} {w : La} {g : Cf} {st h p n : Int} {S : FS} {F : FI} {G : FJ} (hx : YX S F G a b c d l w st) (hr : SR F c l w g) (hc : CV l st g) (hcw : CW l g) (hmc : MC (F 23) l w) (hw : vs l st h p n) (hy : sEnd l h p n = 0 → YS G d l g st h p n)
    (hk : ∀ F' G', KD b d (sp d h p n) F' F → MC (F' 23) l w → GX G' G d (sp d h p n) → GS G' d l g st h p n → F' (d + 2) (sp d h p n).toNat = sTk l g st h p n → k S F' G') : calV 5 260 [.inr (.inr (.inl 22)), .inl p, .inl h, .inl n] (mm S F G) k nof := by
  obtain ⟨ha, hb, hc', hd, ⟨s0, s1, s2, s3⟩, hv, hw', hl, hrw, hst', htw, hs1, hs2⟩ := id hx
  have hv' := hv
  obtain ⟨⟨hv1, hv2⟩, ⟨hv3, hv4⟩, ⟨hv5, hv6⟩, ⟨hv7, hv8⟩, ⟨hv9, hv10⟩, ⟨hv11, hv12⟩, ⟨hv13, hv14⟩, hvw, hvs, hvk, hvc, hvx⟩ := id hv
  obtain ⟨w1, w2, w3, w4, w5, w6⟩ := id hw
  have bs := sp_b (h := h) (p := p) (n := n) hd (by omega) (by omega) w3 (by omega) (by omega) (by omega)
  refine sg_260_0 ?_
  simp only [s3, tk hd, tk1 hd, tk2 hd, tr1 hd, tr2 hd]
  refine ck_i rfl (c_271 hd htw w3 (by omega) (by omega) (by omega) (by omega) (by omega) (fun s es => ?_))
  simp only [s0, lk ha, lk1 ha, lk2 ha, lk3 ha, lk4 ha, lk5 ha, lk6 ha, lk7 ha, lk8 ha, lk9 ha, lr0 ha, lr1 ha, lr2 ha, lr3 ha, lr4 ha, lr5 ha, lr6 ha, lr7 ha, lr8 ha]
  refine ck_i rfl (c_208 ha hl hv2 w3 w4 w2 (fun e ee => cn_i (fun z => ?_) (fun z => ?_)))
  · have he : sEnd l h p n = 0 := by omega
    obtain ⟨c1, c2⟩ := sEnd_n he
    refine c_267 hx w3 w4 w1 (by omega) (by omega) w6 (fun F1 k1 st1 => ?_)
    refine l_260_50 (YX_a hx k1) (SR_c hr (fun i hi => k1.1 _ (by omega))) hc hcw w3 w4 w1 (by omega) (by omega) w6 he es st1 (hy he) (by omega) (by omega) ⟨fun _ _ _ _ _ _ => rfl, fun _ _ => rfl⟩ (by rw [k1.1 23 (by decide)]; exact hmc) GX_r (fun k a b => by omega) (fun F' G' x1 x2 x3 x4 x5 => ⟨_, _, _, rfl, ?_⟩)
    rw [es] at x1 x3 x5
    refine hk F' G' ⟨fun c a1 a2 a3 a4 a5 a6 => (x1.1 c a1 a2 a3 a4 a5 a6).trans (k1.1 c a1), fun j hj => (x1.2.1 j hj).trans (k1.2 j hj), fun i hi => (x1.2.2 i hi).trans (by rw [k1.1 (d + 2) (by omega)])⟩ x2 x3 x4 x5
  · refine c_261 (g := g) hx w3 w4 w1 w2 w5 w6 es ee z (fun G' g1 g2 => ⟨_, _, _, rfl, ?_⟩)
    refine hk _ G' (KD_u hd (by omega) KD_r) (by rw [u2_o (by omega)]; exact hmc) g1 g2 ?_
    rw [u2_s]
    unfold sTk
    rw [if_pos (by omega)]
