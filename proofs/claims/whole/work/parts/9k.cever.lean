/-! ===== the class answers: ever, of one mind ===== -/
theorem bit_ne {f : Int} {k : Nat} (h0 : 0 ≤ f) (h1 : f < ((2 ^ k : Nat) : Int)) (hn : f ≠ 0) : ∃ n : Int, 0 ≤ n ∧ n < k ∧ bit f n := by
  obtain ⟨N, rfl⟩ := Int.eq_ofNat_of_zero_le h0
  obtain ⟨j, q, e⟩ := low_f N (by omega)
  exact ⟨j, by omega, by have := low_k (n := k) e (by omega); omega, (low_b e).1⟩
theorem EW_g {l : Nat → Int} {st : Int} : EW l st 0 = sGo l st := if_pos rfl
theorem EW_m {l : Nat → Int} {st : Int} : EW l st 1 = sMy l st := if_neg (by decide)
theorem RI_st {f : Nat → Int} {F0 : FI} {E : Int → Int → Int → Int → Int → Int → Prop} {h p n : Int} (hv : LV (F0 100)) (hw : vs (F0 100) (F0 100 4) h p n) (hm : ∀ h' p' n' : Int, 0 ≤ h' → h' ≤ 24 → 0 ≤ p' → p' < 12 → 0 ≤ n' → n' ≤ 12 → (gW f ((h' * 12 + p') * 13 + n').toNat = 1 ↔ h' = h ∧ p' = p ∧ n' = n)) : RI (F0 100) (sBt (cBs F0)) E (F0 100 4) h p n (gW f) 0 0 0 := by
  obtain ⟨⟨hv1, hv2⟩, ⟨hv3, hv4⟩, ⟨hv5, hv6⟩, ⟨hv7, hv8⟩, ⟨hv9, hv10⟩, ⟨hv11, hv12⟩, ⟨hv13, hv14⟩, hvw, hvs, hvk, hvc, hvx⟩ := id hv
  intro h' p' n' w
  obtain ⟨u1, u2, u3, u4, u5, u6⟩ := id w
  obtain ⟨x1, x2, x3, x4, x5, x6⟩ := id hw
  refine ⟨gW_01 _ _, (hm h' p' n' u1 (by omega) u3 (by omega) u5 (by omega)).trans ⟨fun q => ?_, fun q => ?_⟩⟩
  · refine Or.inl ⟨by omega, by omega, ?_⟩
    rw [show (h' - h).toNat = 0 by omega]
    exact ⟨q.2.1, q.2.2⟩
  · rcases q with ⟨a, b, c⟩ | ⟨a, p1, n1, m1, b, c⟩
    · rw [show (h' - h).toNat = 0 by omega] at c
      exact ⟨by omega, c.1, c.2⟩
    · have := b.2.1
      unfold vs at this
      have := b.2.2.2.1.1
      omega
/-- the marks begin -/
theorem m_seen {k : FS → FI → FJ → Prop} {a b : Nat} {F0 : FI} {p h n : Int} {S : FS} {F : FI} {G : FJ} (hk0 : YK S F G a b (F0 100) (F0 112) (mL F0)) (hw : vs (F0 100) (F0 100 4) h p n)
    (hk : ∀ F', YK S F' G a b (F0 100) (F0 112) (mL F0) → QC S S F F' G G → SB (F0 100 4) (F' 27) → (∀ E, RI (F0 100) (sBt (cBs F0)) E (F0 100 4) h p n (gW (F' 27)) 0 0 0) → F' 1 17 = F 1 17 → k S F' G) : calV 0 292 [.inr (.inr (.inl 26)), .inl p, .inl h, .inl n] (mm S (yfl F 27 300 0) G) k nof := by
  have hv := hk0.2.2.2.1
  have hv' := hv
  obtain ⟨⟨hv1, hv2⟩, ⟨hv3, hv4⟩, ⟨hv5, hv6⟩, ⟨hv7, hv8⟩, ⟨hv9, hv10⟩, ⟨hv11, hv12⟩, ⟨hv13, hv14⟩, hvw, hvs, hvk, hvc, hvx⟩ := id hv
  obtain ⟨w1, w2, w3, w4, w5, w6⟩ := id hw
  have z27 : ∀ i, i < 300 → yfl F 27 300 0 27 i = 0 := fun i hi => yfl_i hi
  refine c_292 (st := F0 100 4) w3 (by omega) w1 (by omega) w5 w6 (by omega) (fun i hi => by
    rw [z27 i hi]
    have := Nat.two_pow_pos (F0 100 4 + 1).toNat
    omega) (fun F' f1 f2 f3 f4 => ?_)
  obtain ⟨y1, y2⟩ := YK_w (F' := F') (G' := G) hk0 (fun c hc => by rw [f1 c (by omega), yfl_o (by omega)]) (fun _ _ => rfl)
  refine hk F' y1 y2 f2 (fun E => RI_st hv' hw (fun h' p' n' a1 a2 a3 a4 a5 a6 => ?_)) (by rw [f1 1 (by decide), yfl_o (by decide)])
  rw [f3 h' p' n' a1 a2 a3 a4 a5 a6, gW_i a1 a3 a5 a6, z27 _ (by omega)]
  exact ⟨fun q => q.elim (fun r => by unfold bit at r; simp at r) id, Or.inr⟩
theorem l_294_41 {Q : Rs → Mm → Prop} {a b : Nat} {F0 : FI} {h0 p0 n0 h : Int} {t : Nat} {S S0 : FS} {F Fz : FI} {G Gz : FJ} (hk0 : YK S F G a b (F0 100) (F0 112) (mL F0)) (hq : QC S0 S Fz F Gz G) (h00 : 0 ≤ h0) (eh : h = h0 + t) (hh : h ≤ F0 100 3) (sb : SB (F0 100 4) (F 27)) (ri : RI (F0 100) (sBt (cBs F0)) (EW (F0 100) (F0 100 4) 0) (F0 100 4) h0 p0 n0 (gW (F 27)) t 0 0)
    (hy : sHit (F0 100) (sBt (cBs F0)) (sGo (F0 100) (F0 100 4)) (F0 100 4) h0 p0 n0 t → Q (.inl (some (.inl (t : Int)))) (mm S F G))
    (hn : ¬ sHit (F0 100) (sBt (cBs F0)) (sGo (F0 100) (F0 100 4)) (F0 100 4) h0 p0 n0 t → ∀ F', YK S F' G a b (F0 100) (F0 112) (mL F0) → QC S0 S Fz F' Gz G → (h < F0 100 3 → SB (F0 100 4) (F' 27) ∧ RI (F0 100) (sBt (cBs F0)) (EW (F0 100) (F0 100 4) 0) (F0 100 4) h0 p0 n0 (gW (F' 27)) (t + 1) 0 0) → wph 5 294 28 [.inr (.inr (.inl 26)), .inr (.inr (.inl 31)), jk, .inl h0, jk, .inr (.inr (.inl a)), .inl (h + 1)] [] (mm S F' G) (0, 0) Q) :
    ∀ (K : Nat) (x7 : Int), (K : Int) = F0 100 0 - x7 → 0 ≤ x7 → (∀ p n, 0 ≤ p → p < x7 → vs (F0 100) (F0 100 4) (h0 + t) p n → sRe (F0 100) (sBt (cBs F0)) (sGo (F0 100) (F0 100 4)) (F0 100 4) h0 p0 n0 t p n → sEnd (F0 100) (h0 + t) p n ≠ 1) → wph 5 294 41 [.inr (.inr (.inl 26)), .inr (.inr (.inl 31)), jk, .inl h0, jk, .inr (.inr (.inl a)), .inl h, .inl x7] [] (mm S F G) (0, 0) Q := by
  have hv := hk0.2.2.2.1
  have hv' := hv
  obtain ⟨⟨hv1, hv2⟩, ⟨hv3, hv4⟩, ⟨hv5, hv6⟩, ⟨hv7, hv8⟩, ⟨hv9, hv10⟩, ⟨hv11, hv12⟩, ⟨hv13, hv14⟩, hvw, hvs, hvk, hvc, hvx⟩ := id hv
  have hl := hk0.2.2.2.2.2.2.1
  have ha := hk0.1
  have rg := fun p n hw => RI_g (p := p) (n := n) ri hw h00
  rw [EW_g] at rg
  intro K
  induction K with
  | zero =>
    intro x7 hK h7 hno
    refine sg_294_41 ?_
    simp only [lk ha, lk1 ha, lk2 ha, lk3 ha, lk4 ha, lk5 ha, lk6 ha, lk7 ha, lk8 ha, lk9 ha, lr0 ha, lr1 ha, lr2 ha, lr3 ha, lr4 ha, lr5 ha, lr6 ha, lr7 ha, lr8 ha, hl.1.1, hl.1.2.2.2.1]
    have nh : ¬ sHit (F0 100) (sBt (cBs F0)) (sGo (F0 100) (F0 100 4)) (F0 100 4) h0 p0 n0 t := by
      rintro ⟨p, n, w, r, e⟩
      have w' := w
      unfold vs at w'
      exact hno p n w'.2.2.1 (by omega) w r e
    rw [wr_id (a := h + 1) (by omega) (by omega)]
    refine ck_i rfl (cd_f (by omega) (ck_i rfl (cn_i (fun z => ?_) (fun z => ?_))))
    · exact c_293 hk0 hq h00 eh z sb ri (fun F' g1 g2 g3 g4 _ => hn nh F' g1 g2 (fun _ => ⟨g3, g4⟩))
    · exact hn nh F hk0 hq (fun q => absurd q z)
  | succ K ih =>
    intro x7 hK h7 hno
    have e1 := hl.2.1 x7 h7 (by omega)
    refine sg_294_41 ?_
    simp only [lk ha, lk1 ha, lk2 ha, lk3 ha, lk4 ha, lk5 ha, lk6 ha, lk7 ha, lk8 ha, lk9 ha, lr0 ha, lr1 ha, lr2 ha, lr3 ha, lr4 ha, lr5 ha, lr6 ha, lr7 ha, lr8 ha, hl.1.1, hl.1.2.2.2.1]
    rw [wr_id (a := x7 + 1) (by omega) (by omega), wr_id (a := h * 12) (by omega) (by omega), wr_id (a := h * 12 + x7) (by omega) (by omega), wr_id (a := h - h0) (by omega) (by omega), e1]
    have nxt : (∀ n, vs (F0 100) (F0 100 4) (h0 + t) x7 n → sRe (F0 100) (sBt (cBs F0)) (sGo (F0 100) (F0 100 4)) (F0 100 4) h0 p0 n0 t x7 n → sEnd (F0 100) (h0 + t) x7 n ≠ 1) → wph 5 294 41 [.inr (.inr (.inl 26)), .inr (.inr (.inl 31)), jk, .inl h0, jk, .inr (.inr (.inl a)), .inl h, .inl (x7 + 1)] [] (mm S F G) (0, 0) Q := by
      intro hx
      refine ih (x7 + 1) (by omega) (by omega) (fun p n q0 q1 w r => ?_)
      by_cases e : p = x7
      · rw [e] at w r ⊢
        exact hx n w r
      · exact hno p n q0 (by omega) w r
    refine ck_i rfl (cd_t (by omega) (ck_i rfl (ck_i rfl (ck_i (jb_i h7 (by omega)) (cn_i (fun z => ck_i (jb_i (by omega) (by omega)) (cn_i (fun z2 => ?_) (fun z2 => ?_))) (fun z => ?_))))))
    · refine nxt (fun n w r => ?_)
      have w' := w
      unfold vs at w'
      have := (rg x7 n w).mpr r
      rw [← eh, gW_i (by omega) h7 w'.2.2.2.2.1 (by omega), z2] at this
      unfold bit at this
      simp at this
    · have sbx := sb (h * 12 + x7).toNat (by omega)
      obtain ⟨n, n0', n1, nb⟩ := bit_ne sbx.1 sbx.2 z2
      have w : vs (F0 100) (F0 100 4) (h0 + t) x7 n := ⟨by omega, by omega, h7, by omega, n0', by omega⟩
      have gi := (gW_i (f := F 27) (h := h) (p := x7) (n := n) (by omega) h7 n0' (by omega)).mpr nb
      rw [eh] at gi
      have := hy ⟨x7, n, w, (rg x7 n w).mp gi, if_pos z⟩
      rw [show h - h0 = (t : Int) by omega]
      exact this
    · refine nxt (fun n w r e => z ?_)
      unfold sEnd at e
      apply Classical.byContradiction
      intro c
      rw [if_neg c] at e
      split at e
      · omega
      split at e <;> omega
theorem l_294_28 {Q : Rs → Mm → Prop} {a b : Nat} {F0 : FI} {h0 p0 n0 : Int} {S S0 : FS} {Fz : FI} {G Gz : FJ} (hv : LV (F0 100)) (h00 : 0 ≤ h0) (h01 : h0 ≤ F0 100 3)
    (hk : ∀ F', YK S F' G a b (F0 100) (F0 112) (mL F0) → QC S0 S Fz F' Gz G → Q (.inl (some (.inl (sFst (sHit (F0 100) (sBt (cBs F0)) (sGo (F0 100) (F0 100 4)) (F0 100 4) h0 p0 n0) (F0 100 3 - h0 + 1).toNat)))) (mm S F' G)) :
    ∀ (K t : Nat) (h : Int) (F : FI), h = h0 + t → (K : Int) = F0 100 3 + 1 - (h0 + t) → YK S F G a b (F0 100) (F0 112) (mL F0) → QC S0 S Fz F Gz G → (h0 + t ≤ F0 100 3 → SB (F0 100 4) (F 27) ∧ RI (F0 100) (sBt (cBs F0)) (EW (F0 100) (F0 100 4) 0) (F0 100 4) h0 p0 n0 (gW (F 27)) t 0 0) → (∀ i, i < t → ¬ sHit (F0 100) (sBt (cBs F0)) (sGo (F0 100) (F0 100 4)) (F0 100 4) h0 p0 n0 i) →
      wph 5 294 28 [.inr (.inr (.inl 26)), .inr (.inr (.inl 31)), jk, .inl h0, jk, .inr (.inr (.inl a)), .inl h] [] (mm S F G) (0, 0) Q := by
  have hv' := hv
  obtain ⟨⟨hv1, hv2⟩, ⟨hv3, hv4⟩, ⟨hv5, hv6⟩, ⟨hv7, hv8⟩, ⟨hv9, hv10⟩, ⟨hv11, hv12⟩, ⟨hv13, hv14⟩, hvw, hvs, hvk, hvc, hvx⟩ := id hv
  intro K
  induction K with
  | zero =>
    intro t h F eh hK y1 q1 ri hno
    have hl := y1.2.2.2.2.2.2.1
    have ha := y1.1
    refine sg_294_28 ?_
    simp only [lk ha, lk1 ha, lk2 ha, lk3 ha, lk4 ha, lk5 ha, lk6 ha, lk7 ha, lk8 ha, lk9 ha, lr0 ha, lr1 ha, lr2 ha, lr3 ha, lr4 ha, lr5 ha, lr6 ha, lr7 ha, lr8 ha, hl.1.2.2.2.1]
    refine ck_i rfl (cd_t (by omega) ?_)
    have := hk F y1 q1
    rw [sFst_n (fun i hi => hno i (by omega))] at this
    exact this
  | succ K ih =>
    intro t h F eh hK y1 q1 ri hno
    have hl := y1.2.2.2.2.2.2.1
    have ha := y1.1
    refine sg_294_28 ?_
    simp only [lk ha, lk1 ha, lk2 ha, lk3 ha, lk4 ha, lk5 ha, lk6 ha, lk7 ha, lk8 ha, lk9 ha, lr0 ha, lr1 ha, lr2 ha, lr3 ha, lr4 ha, lr5 ha, lr6 ha, lr7 ha, lr8 ha, hl.1.2.2.2.1]
    have ri' := ri (by omega)
    refine ck_i rfl (cd_f (by omega) (l_294_41 y1 q1 h00 eh (by omega) ri'.1 ri'.2 (fun hy => ?_) (fun hn F' g1 g2 g3 => ?_) (F0 100 0).toNat 0 (by omega) (by omega) (fun p n a b => by omega)))
    · have := hk F y1 q1
      rw [sFst_y hy hno (by omega)] at this
      exact this
    · refine ih (t + 1) (h + 1) F' (by omega) (by omega) g1 g2 (fun q => g3 (by omega)) (fun i hi => ?_)
      by_cases e : i = t
      · rw [e]; exact hn
      · exact hno i (by omega)
theorem p_33 {k : Int → FS → FI → FJ → Prop} {kx : Nat → FS → FI → FJ → Prop} {a b : Nat} {l s : Nat → Int} {w : La} {x1 x2 x3 : Int} {F0 : FI} {S : FS} {F : FI} {G : FJ} (hR : F0 100 = l ∧ F0 112 = s ∧ mL F0 = w) (hL : hasL S F a) (hK : 1 ≤ F a 9 → YK S F G a b l s w) (noL : F a 9 < 1 → kx 3 S (rfc F 3) G) (noA : 1 ≤ F a 9 → ¬ isSt l x1 x2 x3 → kx 2 S (rfc F 2) G)
    (ok : 1 ≤ F a 9 → isSt l x1 x2 x3 → ∀ S' F' G', YK S' F' G' a b l s w → QC S S' F F' G G' → k (sEver F0 x1 x2 x3) S' F' G') : calI 6 33 [.inr (.inr (.inl 1)), .inl x1, .inl x2, .inl x3] (mm S F G) k kx := by
  obtain ⟨rfl, rfl, rfl⟩ := hR
  refine sg_33_0 (c_51 hL.1 hL.2 (fun q => ?_) (fun q => ex_3 ⟨_, _, _, rfl, noL q⟩))
  have hk0 := hK q
  obtain ⟨ha, hb, ⟨k1, k2, k3, k4⟩, hv, hs, hw, hl, hrw, hpr, -⟩ := id hk0
  have hv' := hv
  obtain ⟨⟨hv1, hv2⟩, ⟨hv3, hv4⟩, ⟨hv5, hv6⟩, ⟨hv7, hv8⟩, ⟨hv9, hv10⟩, ⟨hv11, hv12⟩, ⟨hv13, hv14⟩, hvw, hvs, hvk, hvc, hvx⟩ := id hv
  refine c_56 ha k1 (l := F0 100) ⟨hl.1.1, hl.1.2.2.2.1, hl.1.2.2.2.2.1⟩ (fun y => ?_) (fun y => ex_2 ⟨_, _, _, rfl, noA q y⟩)
  have hw' := vs_of y
  obtain ⟨w1, w2, w3, w4, w5, w6⟩ := id hw'
  refine sg_294_0 (c_343 (n := 300) rfl (by decide) (m_seen hk0 hw' (fun F' y1 y2 sb ri _ => ?_)))
  rw [k3]
  exact l_294_28 hv' w1 w2 (fun F'' z1 z2 => ⟨_, _, _, rfl, _, _, _, rfl, ok q y S F'' G z1 z2⟩) (F0 100 3 + 1 - x2).toNat 0 x2 F' (by omega) (by omega) y1 y2 (fun _ => ⟨sb, ri _⟩) (fun i hi => by omega)
