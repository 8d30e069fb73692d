/-! ===== the class walks: an hour further ===== -/
set_option maxRecDepth 100000 in
theorem l_293_78 {Q : Rs → Mm → Prop} {a b : Nat} {F0 : FI} {x3 p n h0 p0 n0 x6 : Int} {t : Nat} {S S0 : FS} {Fz : FI} {G Gz : FJ} (hv : LV (F0 100)) (h00 : 0 ≤ h0) (hw : vs (F0 100) (F0 100 4) (h0 + t) p n) (he : sEnd (F0 100) (h0 + t) p n = 0) (hr : sRe (F0 100) (sBt (cBs F0)) (EW (F0 100) (F0 100 4) x3) (F0 100 4) h0 p0 n0 t p n)
    (hk : ∀ F', YK S F' G a b (F0 100) (F0 112) (mL F0) → QC S0 S Fz F' Gz G ∧ F' 1 17 = Fz 1 17 → SB (F0 100 4) (F' 27) → RI (F0 100) (sBt (cBs F0)) (EW (F0 100) (F0 100 4) x3) (F0 100 4) h0 p0 n0 (gW (F' 27)) t (p * 13 + n + 1) 0 → F' 27 ((h0 + t) * 12 + p).toNat = x6 → wph 4 293 39 [.inr (.inr (.inl 26)), .inr (.inr (.inl 31)), .inl (h0 + t), .inl x3, .inr (.inr (.inl a)), .inl p, .inl x6, .inl (n + 1)] [] (mm S F' G) (0, 0) Q) :
    ∀ (K : Nat) (m : Int) (F : FI), (K : Int) = F0 100 1 + 1 - m → 0 ≤ m → YK S F G a b (F0 100) (F0 112) (mL F0) → QC S0 S Fz F Gz G ∧ F 1 17 = Fz 1 17 → SB (F0 100 4) (F 27) → RI (F0 100) (sBt (cBs F0)) (EW (F0 100) (F0 100 4) x3) (F0 100 4) h0 p0 n0 (gW (F 27)) t (p * 13 + n) m → F 27 ((h0 + t) * 12 + p).toNat = x6 →
      wph 4 293 78 [.inr (.inr (.inl 26)), .inr (.inr (.inl 31)), .inl (h0 + t), .inl x3, .inr (.inr (.inl a)), .inl p, .inl x6, .inl n, .inl (sNw (F0 100) (F0 112) (mL F0) p (h0 + t) n), .inl m] [] (mm S F G) (0, 0) Q := by
  have hv' := hv
  obtain ⟨⟨hv1, hv2⟩, ⟨hv3, hv4⟩, ⟨hv5, hv6⟩, ⟨hv7, hv8⟩, ⟨hv9, hv10⟩, ⟨hv11, hv12⟩, ⟨hv13, hv14⟩, hvw, hvs, hvk, hvc, hvx⟩ := id hv
  obtain ⟨w1, w2, w3, w4, w5, w6⟩ := id hw
  have ce := sEnd_n he
  obtain ⟨m1, m2, m3⟩ := sNw_M (s := F0 112) (w := mL F0) hv' he
  have eb : sNw (F0 100) (F0 112) (mL F0) p (h0 + t) n = sBt (cBs F0) (h0 + t) p n := if_pos he
  have ab := fun q => sAf_b (l := F0 100) (st := F0 100 4) (q := q) (n := n) (by omega) (by omega) (by omega) w6
  intro K
  induction K with
  | zero =>
    intro m F hK hm0 y1 q1 sb ri h6
    have hl := y1.2.2.2.2.2.2.1
    have ha := y1.1
    refine sg_293_78 ?_
    simp only [lk ha, lk1 ha, lk2 ha, lk3 ha, lk4 ha, lk5 ha, lk6 ha, lk7 ha, lk8 ha, lk9 ha, lr0 ha, lr1 ha, lr2 ha, lr3 ha, lr4 ha, lr5 ha, lr6 ha, lr7 ha, lr8 ha, hl.1.2.1]
    rw [wr_id (a := n + 1) (by omega) (by omega)]
    exact ck_i rfl (cd_t (by omega) (hk F y1 q1 sb (RI_e ri (by omega)) h6))
  | succ K ih =>
    intro m F hK hm0 y1 q1 sb ri h6
    have hl := y1.2.2.2.2.2.2.1
    have ha := y1.1
    have k3 := y1.2.2.1.2.2.1
    have nx : bit (sBt (cBs F0) (h0 + t) p n) m → ∀ F', (∀ c, c ≠ 27 → F' c = F c) → SB (F0 100 4) (F' 27) → F' 27 ((h0 + t) * 12 + p).toNat = x6 → (∀ h' p' n' : Int, vs (F0 100) (F0 100 4) h' p' n' → (gW (F' 27) ((h' * 12 + p') * 13 + n').toNat = 1 ↔ gW (F 27) ((h' * 12 + p') * 13 + n').toNat = 1 ∨ (h' = h0 + t + 1 ∧ EW (F0 100) (F0 100 4) x3 (h0 + t) p n m p' n'))) → wph 4 293 78 [.inr (.inr (.inl 26)), .inr (.inr (.inl 31)), .inl (h0 + t), .inl x3, .inr (.inr (.inl a)), .inl p, .inl x6, .inl n, .inl (sNw (F0 100) (F0 112) (mL F0) p (h0 + t) n), .inl (m + 1)] [] (mm S F' G) (0, 0) Q := by
      intro hb F' f1 f2 f3 f4
      obtain ⟨z1, z2⟩ := YK_w (G' := G) y1 (fun c hc => f1 c (by omega)) (fun _ _ => rfl)
      refine ih (m + 1) F' (by omega) (by omega) z1 ⟨QC_t q1.1 z2, by rw [f1 1 (by decide)]; exact q1.2⟩ f2 ?_ f3
      refine RI_s (by omega) ri hw hr he ⟨hm0, by omega, hb⟩ h00 (fun h' p' n' w e => ⟨gW_01 _ _, ?_⟩) (fun h' p' n' w e => ?_)
      · rw [f4 h' p' n' w]
        exact ⟨fun q => q.elim Or.inl (fun r => Or.inr r.2), fun q => q.elim Or.inl (fun r => Or.inr ⟨e, r⟩)⟩
      · have := f4 h' p' n' w
        rcases gW_01 (F' 27) ((h' * 12 + p') * 13 + n').toNat with u | u
        · rcases gW_01 (F 27) ((h' * 12 + p') * 13 + n').toNat with v | v
          · rw [u, v]
          · have := this.mpr (Or.inl v)
            omega
        · rcases this.mp u with v | v
          · rw [u, v]
          · exact absurd v.1 e
    -- a mark is made where they may come
    have see : ∀ (F1 : FI), (∀ c, c ≠ 27 → F1 c = F c) → SB (F0 100 4) (F1 27) → F1 27 ((h0 + t) * 12 + p).toNat = x6 → ∀ q, 0 ≤ q → q < F0 100 0 → ∀ Kt : FS → FI → FJ → Prop, (∀ F', (∀ c, c ≠ 27 → F' c = F c) → SB (F0 100 4) (F' 27) → F' 27 ((h0 + t) * 12 + p).toNat = x6 → (∀ h' p' n' : Int, vs (F0 100) (F0 100 4) h' p' n' → (gW (F' 27) ((h' * 12 + p') * 13 + n').toNat = 1 ↔ gW (F1 27) ((h' * 12 + p') * 13 + n').toNat = 1 ∨ (h' = h0 + t + 1 ∧ p' = q ∧ n' = sAf (F0 100) (F0 100 4) q n))) → Kt S F' G) →
        chk (kq (0, 0) 0 0) (chk (kq (0, 0) 0 0) (calI 0 207 [.inr (.inr (.inl a)), .inl q, .inl n, .inl (F1 a 13)] (mm S F1 G) (fun v1 S1 F2 G1 => calV 0 292 [.inr (.inr (.inl 26)), .inl q, .inl (wr (h0 + t + 1)), .inl v1] (mm S1 F2 G1) Kt nof) nof)) := by
      intro F1 f1 f2 f3 q q1' q2' Kt hKt
      have hl1 : LR F1 G a (F0 100) := LR_c hl (fun i hi => f1 _ (by omega)) rfl
      rw [hl1.1.2.2.2.2.1, wr_id (a := h0 + t + 1) (by omega) (by omega)]
      refine ck_i rfl (ck_i rfl (c_207 ha hl1 hv2 q1' q2' (by omega) (by omega) (fun v ev => ?_)))
      subst ev
      have abq := ab q
      refine c_292 q1' (by omega) (by omega) (by omega) abq.1 abq.2 (by omega) f2 (fun F' g1 g2 g3 g4 => hKt F' (fun c hc => (g1 c hc).trans (f1 c hc)) g2 ((g4 _ (by omega)).trans f3) (fun h' p' n' w => ?_))
      obtain ⟨u1, u2, u3, u4, u5, u6⟩ := w
      exact g3 h' p' n' u1 (by omega) u3 (by omega) u5 (by omega)
    refine sg_293_78 ?_
    simp only [lk ha, lk1 ha, lk2 ha, lk3 ha, lk4 ha, lk5 ha, lk6 ha, lk7 ha, lk8 ha, lk9 ha, lr0 ha, lr1 ha, lr2 ha, lr3 ha, lr4 ha, lr5 ha, lr6 ha, lr7 ha, lr8 ha, hl.1.2.1]
    rw [wr_id (a := n + 1) (by omega) (by omega), wr_id (a := m + 1) (by omega) (by omega), wr_id (a := m - 1) (by omega) (by omega)]
    refine ck_i rfl (cd_f (by omega) (cn_i (fun z => ?_) (fun z => cn_i (fun z2 => ?_) (fun z2 => ?_))))
    · refine hk F y1 q1 sb (RI_x (by omega) hw ri (fun i i0 i1 _ => ?_)) h6
      rw [← eb]
      exact sar_z (by omega) (by omega) hm0 (by omega) z i0
    · refine ih (m + 1) F (by omega) (by omega) y1 q1 sb (RI_b (by omega) hw ri ?_) h6
      rw [← eb]
      exact (bit_z (by omega) (by omega) hm0 (by omega)).mp z2
    · have hb1 : bit (sNw (F0 100) (F0 112) (mL F0) p (h0 + t) n) m := Classical.byContradiction (fun q => z2 ((bit_z (by omega) (by omega) hm0 (by omega)).mpr q))
      have am := m3 m hm0 hb1
      rw [eb] at hb1
      have nx := nx hb1
      refine cn_i (fun z3 => ?_) (fun z3 => ?_)
      · have m00 : m = 0 := by omega
        refine see F (fun _ _ => rfl) sb h6 p w3 w4 _ (fun F' g1 g2 g3 g4 => nx F' g1 g2 g3 (fun h' p' n' w => ?_))
        rw [g4 h' p' n' w, m00, EW_0]
      · have mne : m ≠ 0 := by omega
        have sn := hvs (m - 1) (h0 + t) (by omega) (by omega) (by omega) (by omega)
        have tb := sTo1_b hv' w3 w4 hm0 (show m ≤ F0 100 1 by omega)
        have to1 : sTo1 (F0 100) p m = sOth (F0 100) (m - 1) p := if_neg mne
        rw [to1] at tb
        -- the other place
        have oth : ∀ (F1 : FI), (∀ c, c ≠ 27 → F1 c = F c) → SB (F0 100 4) (F1 27) → F1 27 ((h0 + t) * 12 + p).toNat = x6 → ∀ Kt : FS → FI → FJ → Prop, (∀ F', (∀ c, c ≠ 27 → F' c = F c) → SB (F0 100 4) (F' 27) → F' 27 ((h0 + t) * 12 + p).toNat = x6 → (∀ h' p' n' : Int, vs (F0 100) (F0 100 4) h' p' n' → (gW (F' 27) ((h' * 12 + p') * 13 + n').toNat = 1 ↔ gW (F1 27) ((h' * 12 + p') * 13 + n').toNat = 1 ∨ (h' = h0 + t + 1 ∧ p' = sOth (F0 100) (m - 1) p ∧ n' = sAf (F0 100) (F0 100 4) (sOth (F0 100) (m - 1) p) n))) → Kt S F' G) →
            calI 0 286 [.inr (.inr (.inl 26)), .inl p, .inl m] (mm S F1 G) (fun v S2 F2 G2 => chk (kq (0, 0) 0 0) (chk (kq (0, 0) 0 0) (calI 0 207 [.inr (.inr (.inl a)), .inl v, .inl n, .inl (F2 a 13)] (mm S2 F2 G2) (fun v1 S1 F3 G1 => calV 0 292 [.inr (.inr (.inl 26)), .inl v, .inl (wr (h0 + t + 1)), .inl v1] (mm S1 F3 G1) Kt nof) nof))) nof := by
          intro F1 f1 f2 f3 Kt hKt
          have hl1 : LR F1 G a (F0 100) := LR_c hl (fun i hi => f1 _ (by omega)) rfl
          refine c_286 ha hl1 k3 hv' w3 w4 am ?_
          rw [to1]
          exact see F1 f1 f2 f3 _ tb.1 tb.2 Kt hKt
        refine ck_i rfl (c_206 ha hl hv4 (by omega) (by omega) w1 (by omega) (fun v3 e3 => ?_))
        subst e3
        refine cn_i (fun u => ?_) (fun u => cn_i (fun ux => ?_) (fun ux => cn_i (fun u0 => ?_) (fun u0 => ?_)))
        · refine see F (fun _ _ => rfl) sb h6 p w3 w4 _ (fun F' g1 g2 g3 g4 => cd_f (by omega) (nx F' g1 g2 g3 (fun h' p' n' w => ?_)))
          rw [g4 h' p' n' w, EW_a u]
        · refine cd_t (by omega) (oth F (fun _ _ => rfl) sb h6 _ (fun F' g1 g2 g3 g4 => nx F' g1 g2 g3 (fun h' p' n' w => ?_)))
          rw [g4 h' p' n' w, EW_b mne (by omega) (Or.inl ux)]
        · refine see F (fun _ _ => rfl) sb h6 p w3 w4 _ (fun F1 g1 g2 g3 g4 => cd_t (by omega) (oth F1 g1 g2 g3 _ (fun F' e1 e2 e3 e4 => nx F' e1 e2 e3 (fun h' p' n' w => ?_))))
          rw [e4 h' p' n' w, g4 h' p' n' w, EW_c mne (by omega) ux u0]
          constructor
          · rintro ((x | x) | x)
            · exact Or.inl x
            · exact Or.inr ⟨x.1, Or.inl x.2⟩
            · exact Or.inr ⟨x.1, Or.inr x.2⟩
          · rintro (x | ⟨x, y | y⟩)
            · exact Or.inl (Or.inl x)
            · exact Or.inl (Or.inr ⟨x, y⟩)
            · exact Or.inr ⟨x, y⟩
        · refine cd_t (by omega) (oth F (fun _ _ => rfl) sb h6 _ (fun F' g1 g2 g3 g4 => nx F' g1 g2 g3 (fun h' p' n' w => ?_)))
          rw [g4 h' p' n' w, EW_b mne (by omega) (Or.inr u0)]
theorem RI_g {l : Nat → Int} {B : Int → Int → Int → Int} {E : Int → Int → Int → Int → Int → Int → Prop} {st h0 p0 n0 p n : Int} {g : Nat → Int} {t : Nat} {i j : Int} (h : RI l B E st h0 p0 n0 g t i j) (hw : vs l st (h0 + t) p n) (h00 : 0 ≤ h0) : g (((h0 + t) * 12 + p) * 13 + n).toNat = 1 ↔ sRe l B E st h0 p0 n0 t p n := by
  rw [(h (h0 + t) p n hw).2, show (h0 + (t : Int) - h0).toNat = t by omega]
  exact ⟨fun q => q.elim (fun r => r.2.2) (fun r => by have := r.1; omega), fun q => Or.inl ⟨by omega, Int.le_refl _, q⟩⟩
theorem l_293_39 {Q : Rs → Mm → Prop} {a b : Nat} {F0 : FI} {x3 p h0 p0 n0 x6 : Int} {t : Nat} {S S0 : FS} {Fz : FI} {G Gz : FJ} (hv : LV (F0 100)) (h00 : 0 ≤ h0) (hh : h0 + t < F0 100 3) (hp0 : 0 ≤ p) (hp1 : p < F0 100 0)
    (hk : ∀ F', YK S F' G a b (F0 100) (F0 112) (mL F0) → QC S0 S Fz F' Gz G ∧ F' 1 17 = Fz 1 17 → SB (F0 100 4) (F' 27) → RI (F0 100) (sBt (cBs F0)) (EW (F0 100) (F0 100 4) x3) (F0 100 4) h0 p0 n0 (gW (F' 27)) t (p * 13 + F0 100 4 + 1) 0 → wph 4 293 12 [.inr (.inr (.inl 26)), .inr (.inr (.inl 31)), .inl (h0 + t), .inl x3, .inr (.inr (.inl a)), .inl (p + 1)] [] (mm S F' G) (0, 0) Q) :
    ∀ (K : Nat) (n : Int) (F : FI), (K : Int) = F0 100 4 + 1 - n → 0 ≤ n → YK S F G a b (F0 100) (F0 112) (mL F0) → QC S0 S Fz F Gz G ∧ F 1 17 = Fz 1 17 → SB (F0 100 4) (F 27) → RI (F0 100) (sBt (cBs F0)) (EW (F0 100) (F0 100 4) x3) (F0 100 4) h0 p0 n0 (gW (F 27)) t (p * 13 + n) 0 → F 27 ((h0 + t) * 12 + p).toNat = x6 →
      wph 4 293 39 [.inr (.inr (.inl 26)), .inr (.inr (.inl 31)), .inl (h0 + t), .inl x3, .inr (.inr (.inl a)), .inl p, .inl x6, .inl n] [] (mm S F G) (0, 0) Q := by
  have hv' := hv
  obtain ⟨⟨hv1, hv2⟩, ⟨hv3, hv4⟩, ⟨hv5, hv6⟩, ⟨hv7, hv8⟩, ⟨hv9, hv10⟩, ⟨hv11, hv12⟩, ⟨hv13, hv14⟩, hvw, hvs, hvk, hvc, hvx⟩ := id hv
  intro K
  induction K with
  | zero =>
    intro n F hK hn0 y1 q1 sb ri h6
    have hl := y1.2.2.2.2.2.2.1
    have ha := y1.1
    refine sg_293_39 ?_
    simp only [lk ha, lk1 ha, lk2 ha, lk3 ha, lk4 ha, lk5 ha, lk6 ha, lk7 ha, lk8 ha, lk9 ha, lr0 ha, lr1 ha, lr2 ha, lr3 ha, lr4 ha, lr5 ha, lr6 ha, lr7 ha, lr8 ha, hl.1.2.2.2.2.1]
    rw [wr_id (a := p + 1) (by omega) (by omega)]
    refine ck_i rfl (cd_t (by omega) (hk F y1 q1 sb ?_))
    rw [show p * 13 + F0 100 4 + 1 = p * 13 + n by omega]
    exact ri
  | succ K ih =>
    intro n F hK hn0 y1 q1 sb ri h6
    have hl := y1.2.2.2.2.2.2.1
    have ha := y1.1
    have hw : vs (F0 100) (F0 100 4) (h0 + t) p n := ⟨by omega, by omega, hp0, hp1, hn0, by omega⟩
    have x6b := SB_8 sb (by omega) ((h0 + t) * 12 + p).toNat (by omega)
    rw [h6] at x6b
    have gi := gW_i (f := F 27) (h := h0 + t) (p := p) (n := n) (by omega) hp0 hn0 (by omega)
    rw [RI_g ri hw h00, h6] at gi
    -- nothing comes of it
    have none : ∀ F', YK S F' G a b (F0 100) (F0 112) (mL F0) → QC S0 S Fz F' Gz G ∧ F' 1 17 = Fz 1 17 → F' 27 = F 27 → (sRe (F0 100) (sBt (cBs F0)) (EW (F0 100) (F0 100 4) x3) (F0 100 4) h0 p0 n0 t p n → sEnd (F0 100) (h0 + t) p n ≠ 0) → wph 4 293 78 [.inr (.inr (.inl 26)), .inr (.inr (.inl 31)), .inl (h0 + t), .inl x3, .inr (.inr (.inl a)), .inl p, .inl x6, .inl n, .inl 0, .inl 0] [] (mm S F' G) (0, 0) Q := by
      intro F' z1 z2 z3 z4
      have hl' := z1.2.2.2.2.2.2.1
      refine sg_293_78 ?_
      simp only [lk ha, lk1 ha, lk2 ha, lk3 ha, lk4 ha, lk5 ha, lk6 ha, lk7 ha, lk8 ha, lk9 ha, lr0 ha, lr1 ha, lr2 ha, lr3 ha, lr4 ha, lr5 ha, lr6 ha, lr7 ha, lr8 ha, hl'.1.2.1]
      rw [wr_id (a := n + 1) (by omega) (by omega)]
      refine ck_i rfl (cd_f (by omega) (cd_t (by decide) (ih (n + 1) F' (by omega) (by omega) z1 z2 (by rw [z3]; exact sb) ?_ (by rw [z3]; exact h6))))
      rw [z3]
      refine RI_k ri (by omega) (fun p' n' w i1 i2 r e => ?_)
      obtain ⟨u1, u2, u3, u4, u5, u6⟩ := w
      have e1 : p' = p := by omega
      have e2 : n' = n := by omega
      rw [e1, e2] at r e
      exact z4 r e
    refine sg_293_39 ?_
    simp only [lk ha, lk1 ha, lk2 ha, lk3 ha, lk4 ha, lk5 ha, lk6 ha, lk7 ha, lk8 ha, lk9 ha, lr0 ha, lr1 ha, lr2 ha, lr3 ha, lr4 ha, lr5 ha, lr6 ha, lr7 ha, lr8 ha, hl.1.2.2.2.2.1]
    refine ck_i rfl (cd_f (by omega) (cn_i (fun z => ?_) (fun z => ?_)))
    · have nb := (bit_z x6b.1 (by omega) hn0 (by omega)).mp z
      exact none F y1 q1 rfl (fun r => absurd (gi.mp r) nb)
    · have hb : bit x6 n := Classical.byContradiction (fun q => z ((bit_z x6b.1 (by omega) hn0 (by omega)).mpr q))
      have hr := gi.mpr hb
      refine c_285 y1 hp0 hp1 (by omega) (by omega) hn0 (by omega) (fun F' f1 f2 f3 => ?_)
      have e27 : F' 27 = F 27 := f1 27 (by decide) (by have := y1.2.1; omega) (by have := y1.2.1; omega)
      by_cases he : sEnd (F0 100) (h0 + t) p n = 0
      · refine l_293_78 hv' h00 hw he hr (fun F'' g1 g2 g3 g4 g5 => ?_) (F0 100 1 + 1).toNat 0 F' (by omega) (by omega) f2 ⟨QC_t q1.1 f3, by rw [f1 1 (by decide) (by have := y1.2.1; omega) (by have := y1.2.1; omega)]; exact q1.2⟩ (by rw [e27]; exact sb) (by rw [e27]; exact ri) (by rw [e27]; exact h6)
        exact ih (n + 1) F'' (by omega) (by omega) g1 g2 g3 (by rw [show p * 13 + (n + 1) = p * 13 + n + 1 by omega]; exact g4) g5
      · have e0 : sNw (F0 100) (F0 112) (mL F0) p (h0 + t) n = 0 := if_neg he
        rw [e0]
        exact none F' f2 ⟨QC_t q1.1 f3, by rw [f1 1 (by decide) (by have := y1.2.1; omega) (by have := y1.2.1; omega)]; exact q1.2⟩ e27 (fun _ => he)
theorem l_293_12 {Q : Rs → Mm → Prop} {a b : Nat} {F0 : FI} {x3 h0 p0 n0 : Int} {t : Nat} {S S0 : FS} {Fz : FI} {G Gz : FJ} (hv : LV (F0 100)) (h00 : 0 ≤ h0) (hh : h0 + t < F0 100 3)
    (hk : ∀ F', YK S F' G a b (F0 100) (F0 112) (mL F0) → QC S0 S Fz F' Gz G ∧ F' 1 17 = Fz 1 17 → SB (F0 100 4) (F' 27) → RI (F0 100) (sBt (cBs F0)) (EW (F0 100) (F0 100 4) x3) (F0 100 4) h0 p0 n0 (gW (F' 27)) (t + 1) 0 0 → Q (.inl none) (mm S F' G)) :
    ∀ (K : Nat) (p : Int) (F : FI), (K : Int) = F0 100 0 - p → 0 ≤ p → YK S F G a b (F0 100) (F0 112) (mL F0) → QC S0 S Fz F Gz G ∧ F 1 17 = Fz 1 17 → SB (F0 100 4) (F 27) → RI (F0 100) (sBt (cBs F0)) (EW (F0 100) (F0 100 4) x3) (F0 100 4) h0 p0 n0 (gW (F 27)) t (p * 13) 0 →
      wph 4 293 12 [.inr (.inr (.inl 26)), .inr (.inr (.inl 31)), .inl (h0 + t), .inl x3, .inr (.inr (.inl a)), .inl p] [] (mm S F G) (0, 0) Q := by
  have hv' := hv
  obtain ⟨⟨hv1, hv2⟩, ⟨hv3, hv4⟩, ⟨hv5, hv6⟩, ⟨hv7, hv8⟩, ⟨hv9, hv10⟩, ⟨hv11, hv12⟩, ⟨hv13, hv14⟩, hvw, hvs, hvk, hvc, hvx⟩ := id hv
  intro K
  induction K with
  | zero =>
    intro p F hK hp0 y1 q1 sb ri
    have hl := y1.2.2.2.2.2.2.1
    have ha := y1.1
    refine sg_293_12 ?_
    simp only [lk ha, lk1 ha, lk2 ha, lk3 ha, lk4 ha, lk5 ha, lk6 ha, lk7 ha, lk8 ha, lk9 ha, lr0 ha, lr1 ha, lr2 ha, lr3 ha, lr4 ha, lr5 ha, lr6 ha, lr7 ha, lr8 ha, hl.1.1]
    refine ck_i rfl (cd_f (by omega) (hk F y1 q1 sb (RI_n hv' (by omega) (RI_k ri (by omega) (fun p' n' w i1 i2 r e => ?_)))))
    obtain ⟨u1, u2, u3, u4, u5, u6⟩ := w
    omega
  | succ K ih =>
    intro p F hK hp0 y1 q1 sb ri
    have hl := y1.2.2.2.2.2.2.1
    have ha := y1.1
    refine sg_293_12 ?_
    simp only [lk ha, lk1 ha, lk2 ha, lk3 ha, lk4 ha, lk5 ha, lk6 ha, lk7 ha, lk8 ha, lk9 ha, lr0 ha, lr1 ha, lr2 ha, lr3 ha, lr4 ha, lr5 ha, lr6 ha, lr7 ha, lr8 ha, hl.1.1]
    rw [wr_id (a := (h0 + t) * 12) (by omega) (by omega), wr_id (a := (h0 + t) * 12 + p) (by omega) (by omega)]
    refine ck_i rfl (cd_t (by omega) (ck_i (jb_i (by omega) (by omega)) (l_293_39 hv' h00 hh hp0 (by omega) (fun F' g1 g2 g3 g4 => ?_) (F0 100 4 + 1).toNat 0 F (by omega) (by omega) y1 q1 sb (by rw [Int.add_zero]; exact ri) rfl)))
    refine ih (p + 1) F' (by omega) (by omega) g1 g2 g3 (RI_k g4 (by omega) (fun p' n' w i1 i2 r e => ?_))
    obtain ⟨u1, u2, u3, u4, u5, u6⟩ := w
    omega
theorem c_293 {k : FS → FI → FJ → Prop} {a b : Nat} {F0 : FI} {x3 h0 p0 n0 h : Int} {t : Nat} {S S0 : FS} {F Fz : FI} {G Gz : FJ} (hk0 : YK S F G a b (F0 100) (F0 112) (mL F0)) (hq : QC S0 S Fz F Gz G) (h00 : 0 ≤ h0) (eh : h = h0 + t) (hh : h < F0 100 3) (sb : SB (F0 100 4) (F 27)) (ri : RI (F0 100) (sBt (cBs F0)) (EW (F0 100) (F0 100 4) x3) (F0 100 4) h0 p0 n0 (gW (F 27)) t 0 0)
    (hk : ∀ F', YK S F' G a b (F0 100) (F0 112) (mL F0) → QC S0 S Fz F' Gz G → SB (F0 100 4) (F' 27) → RI (F0 100) (sBt (cBs F0)) (EW (F0 100) (F0 100 4) x3) (F0 100 4) h0 p0 n0 (gW (F' 27)) (t + 1) 0 0 → F' 1 17 = F 1 17 → k S F' G) : calV 4 293 [.inr (.inr (.inl 26)), .inr (.inr (.inl 31)), .inl h, .inl x3] (mm S F G) k nof := by
  have hv := hk0.2.2.2.1
  have hv' := hv
  obtain ⟨⟨hv1, hv2⟩, ⟨hv3, hv4⟩, ⟨hv5, hv6⟩, ⟨hv7, hv8⟩, ⟨hv9, hv10⟩, ⟨hv11, hv12⟩, ⟨hv13, hv14⟩, hvw, hvs, hvk, hvc, hvx⟩ := id hv
  subst eh
  refine sg_293_0 ?_
  rw [hk0.2.2.1.2.2.1]
  exact l_293_12 hv' h00 hh (S0 := S) (Fz := F) (Gz := G) (fun F' g1 g2 g3 g4 => ⟨_, _, _, rfl, hk F' g1 (QC_t hq g2.1) g3 g4 g2.2⟩) (F0 100 0).toNat 0 F (by omega) (by omega) hk0 ⟨QC_r, rfl⟩ sb ri
