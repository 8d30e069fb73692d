/-! ===== the class walks: where a move leads, traps, forcing ===== -/
theorem pcn_AB {x : Nat} (h1 : 1 ≤ x) (hx : x < 4294967296) : pcn 32 x = 1 ↔ AB (x : Int) := by
  obtain ⟨k, q, e⟩ := low_f x h1
  have hk : k < 32 := low_k (n := 32) e (by omega)
  have e1 := pcn_l (n := 32) e hk
  have hlt : 2 ^ k * (2 * q) < 2 ^ 32 := by
    have : 2 ^ k * (2 * q) ≤ 2 ^ k * (2 * q + 1) := Nat.mul_le_mul_left _ (by omega)
    omega
  constructor
  · intro h
    have z := pcn_z 32 _ hlt (by omega)
    intro i j hi hj bi bj
    obtain ⟨I, rfl⟩ := Int.eq_ofNat_of_zero_le hi
    obtain ⟨J, rfl⟩ := Int.eq_ofNat_of_zero_le hj
    have nb : ∀ r : Nat, ¬ bit ((0 : Nat) : Int) (r : Int) := fun r hr => by
      rw [bit_tb] at hr
      simp at hr
    have ki : I = k := by
      apply Classical.byContradiction
      intro c
      have := (low_x e I).mpr ⟨bi, c⟩
      rw [z] at this
      exact nb I this
    have kj : J = k := by
      apply Classical.byContradiction
      intro c
      have := (low_x e J).mpr ⟨bj, c⟩
      rw [z] at this
      exact nb J this
    rw [ki, kj]
  · intro h
    apply Classical.byContradiction
    intro c
    have y : 1 ≤ 2 ^ k * (2 * q) := by
      apply Classical.byContradiction
      intro z
      have z0 : 2 ^ k * (2 * q) = 0 := by omega
      rw [z0, pcn_0] at e1
      omega
    obtain ⟨k2, q2, e2⟩ := low_f _ y
    have b2 := (low_b e2).1
    have b3 := (low_x e k2).mp b2
    have b4 := h (k2 : Int) (k : Int) (by omega) (by omega) b3.1 (low_b e).1
    exact b3.2 (by omega)
theorem sOth_at {l : Nat → Int} {w p : Int} (h : sAt l w p = 1) : sAt l w (sOth l w p) = 1 := by
  unfold sAt sOth at *
  split at h
  · rename_i c
    rcases c with c | c
    · rw [if_pos c, if_pos (Or.inr rfl)]
    · split
      · rw [if_pos (Or.inr rfl)]
      · rw [if_pos (Or.inl rfl)]
  · omega
theorem c_286 {k : Int → FS → FI → FJ → Prop} {a : Nat} {l : Nat → Int} {p m : Int} {S : FS} {F : FI} {G : FJ} (ha : oL a) (hl : LR F G a l) (hS : S 22 0 = a) (hv : LV l) (h0 : 0 ≤ p) (h1 : p < l 0) (hm : AM l p m) (hk : k (sTo1 l p m) S F G) :
    calI 0 286 [.inr (.inr (.inl 26)), .inl p, .inl m] (mm S F G) k nof := by
  have hv' := hv
  obtain ⟨⟨hv1, hv2⟩, ⟨hv3, hv4⟩, ⟨hv5, hv6⟩, ⟨hv7, hv8⟩, ⟨hv9, hv10⟩, ⟨hv11, hv12⟩, ⟨hv13, hv14⟩, hvw, hvs, hvk, hvc, hvx⟩ := id hv
  unfold AM at hm
  unfold sTo1 at hk
  refine sg_286_0 (cn_i (fun z => ?_) (fun z => ?_))
  · rw [if_pos (by omega)] at hk
    exact ⟨_, _, _, rfl, hk⟩
  · have hm' := hm.resolve_left (by omega)
    rw [if_neg (by omega)] at hk
    have ac := hl.2.2.2.2.2.2.2 p (m - 1) h0 h1 (by omega) (by omega)
    rw [if_pos hm'.2.2] at ac
    have ob := sOth_b (p := p) hv' (w := m - 1) (by omega) (by omega)
    simp only [hS, lk ha, lk1 ha, lk2 ha, lk3 ha, lk4 ha, lk5 ha, lk6 ha, lk7 ha, lk8 ha, lk9 ha, lr0 ha, lr1 ha, lr2 ha, lr3 ha, lr4 ha, lr5 ha, lr6 ha, lr7 ha, lr8 ha]
    rw [wr_id (a := p * 24) (by omega) (by omega), wr_id (a := p * 24 + m) (by omega) (by omega), wr_id (a := p * 24 + m - 1) (by omega) (by omega), show p * 24 + m - 1 = p * 24 + (m - 1) by omega, ac]
    refine ck_i rfl (ck_i rfl (ck_i (jb_i (by omega) (by omega)) (cd_f (by omega) ⟨_, _, _, rfl, hk⟩)))
theorem sNw_M {l s : Nat → Int} {w : La} {p h n : Int} (hv : LV l) (he : sEnd l h p n = 0) : 1 ≤ sNw l s w p h n ∧ sNw l s w p h n < 33554432 ∧ ∀ m, 0 ≤ m → bit (sNw l s w p h n) m → AM l p m := by
  obtain ⟨⟨hv1, hv2⟩, ⟨hv3, hv4⟩, ⟨hv5, hv6⟩, ⟨hv7, hv8⟩, ⟨hv9, hv10⟩, ⟨hv11, hv12⟩, ⟨hv13, hv14⟩, hvw, hvs, hvk, hvc, hvx⟩ := id hv
  unfold sNw
  rw [if_pos he]
  have := sMask_b l w (-1) (sLd l s h) h p n hv4 hv3
  exact ⟨this.1, this.2, fun m m0 mb => AM_mask hv4 hv3 m0 mb⟩
theorem KL_t {b : Nat} {F F1 F2 : FI} (h1 : KL b F1 F) (h2 : KL b F2 F1) : KL b F2 F := fun c a1 a2 a3 => (h2 c a1 a2 a3).trans (h1 c a1 a2 a3)
theorem c_287 {k : Int → FS → FI → FJ → Prop} {a b : Nat} {F0 : FI} {x2 x3 x4 : Int} {S : FS} {F : FI} {G : FJ} (hk0 : YK S F G a b (F0 100) (F0 112) (mL F0)) (h2 : 0 ≤ x2) (h2' : x2 < F0 100 0) (h3 : 0 ≤ x3) (h3' : x3 ≤ F0 100 3) (h4 : 0 ≤ x4) (h4' : x4 ≤ 12)
    (hk1 : ∀ F', KL b F' F → YK S F' G a b (F0 100) (F0 112) (mL F0) → QC S S F F' G G → sTrp F0 x3 x2 x4 → k 1 S F' G) (hk2 : ∀ F', KL b F' F → YK S F' G a b (F0 100) (F0 112) (mL F0) → QC S S F F' G G → ¬ sTrp F0 x3 x2 x4 → k 0 S F' G) : calI 4 287 [.inr (.inr (.inl 26)), .inr (.inr (.inl 31)), .inl x2, .inl x3, .inl x4] (mm S F G) k nof := by
  have hv := hk0.2.2.2.1
  refine sg_287_0 (c_285 hk0 h2 h2' h3 h3' h4 h4' (fun F' f1 f2 f3 => ?_))
  by_cases he : sEnd (F0 100) x3 x2 x4 = 0
  · obtain ⟨m1, m2, m3⟩ := sNw_M (s := F0 112) (w := mL F0) hv he
    obtain ⟨N, hN⟩ := Int.eq_ofNat_of_zero_le (show 0 ≤ sNw (F0 100) (F0 112) (mL F0) x2 x3 x4 by omega)
    have ab := pcn_AB (x := N) (by omega) (by omega)
    have eb : sNw (F0 100) (F0 112) (mL F0) x2 x3 x4 = mk0 F0 (sLd (F0 100) (F0 112) x3) x3 x2 x4 := if_pos he
    rw [← hN, eb] at ab
    rw [hN]
    refine c_342 (by omega) (fun v ev => ?_)
    generalize pcn 32 N = c at ab ev
    refine cn_i (fun z => ⟨_, _, _, rfl, hk1 F' f1 f2 f3 ⟨he, ab.mp (by omega)⟩⟩) (fun z => ⟨_, _, _, rfl, hk2 F' f1 f2 f3 (fun q => z (by have := ab.mpr q.2; omega))⟩)
  · have e0 : sNw (F0 100) (F0 112) (mL F0) x2 x3 x4 = ((0 : Nat) : Int) := if_neg he
    rw [e0]
    refine c_342 (by decide) (fun v ev => ?_)
    rw [pcn_0] at ev
    exact cn_i (fun z => absurd z (by omega)) (fun z => ⟨_, _, _, rfl, hk2 F' f1 f2 f3 (fun q => he q.1)⟩)
theorem sFc_0 {F : FI} {p h n : Int} (hv : LV (F 100)) (he : sEnd (F 100) h p n = 0) {c : Nat} {m : Int} (hc : c = (F 100 1 + 1 - m).toNat) (h0 : 0 ≤ m) (hm : F 100 1 < m) : sFc F p h n c m = -1 := by
  rw [hc, show (F 100 1 + 1 - m).toNat = 0 by omega]
  rfl
theorem l_288 {Q : Rs → Mm → Prop} {a b : Nat} {F0 : FI} {x2 x3 x4 x7 : Int} {S S0 : FS} {F Fz : FI} {G Gz : FJ} (hk0 : YK S F G a b (F0 100) (F0 112) (mL F0)) (hq : QC S0 S Fz F Gz G) (hw : vs (F0 100) (F0 100 4) x3 x2 x4) (h7 : 0 ≤ x7) (h7' : x7 ≤ F0 100 1 + 1)
    (hk : ∀ F', YK S F' G a b (F0 100) (F0 112) (mL F0) → QC S0 S Fz F' Gz G → Q (.inl (some (.inl (if sEnd (F0 100) x3 x2 x4 = 0 then sFc F0 x2 x3 x4 (F0 100 1 + 1 - x7).toNat x7 else -1)))) (mm S F' G)) :
    wph 5 288 23 [.inr (.inr (.inl 26)), .inr (.inr (.inl 31)), .inl x2, .inl x3, .inl x4, .inr (.inr (.inl a)), .inl (sNw (F0 100) (F0 112) (mL F0) x2 x3 x4), .inl x7] [] (mm S F G) (0, 0) Q := by
  obtain ⟨ha, hb, ⟨k1, k2, k3, k4⟩, hv, hs, hlw, hl, hrw, hpr, -⟩ := id hk0
  have hv' := hv
  obtain ⟨⟨hv1, hv2⟩, ⟨hv3, hv4⟩, ⟨hv5, hv6⟩, ⟨hv7, hv8⟩, ⟨hv9, hv10⟩, ⟨hv11, hv12⟩, ⟨hv13, hv14⟩, hvw, hvs, hvk, hvc, hvx⟩ := id hv
  obtain ⟨w1, w2, w3, w4, w5, w6⟩ := id hw
  refine sg_288_23 ?_
  simp only [lk ha, lk1 ha, lk2 ha, lk3 ha, lk4 ha, lk5 ha, lk6 ha, lk7 ha, lk8 ha, lk9 ha, lr0 ha, lr1 ha, lr2 ha, lr3 ha, lr4 ha, lr5 ha, lr6 ha, lr7 ha, lr8 ha, hl.1.2.1]
  refine ck_i rfl (cn_i (fun z => ?_) (fun z => ?_))
  · have := hk F hk0 hq
    rw [show (F0 100 1 + 1 - x7).toNat = 0 by omega] at this
    by_cases he : sEnd (F0 100) x3 x2 x4 = 0
    · rw [if_pos he] at this
      exact this
    · rw [if_neg he] at this
      exact this
  · rw [wr_id (a := x7 + 1) (by omega) (by omega)]
    have en : (F0 100 1 + 1 - x7).toNat = (F0 100 1 + 1 - (x7 + 1)).toNat + 1 := by omega
    by_cases he : sEnd (F0 100) x3 x2 x4 = 0
    · simp only [if_pos he] at hk
      obtain ⟨m1, m2, m3⟩ := sNw_M (s := F0 112) (w := mL F0) hv he
      have eb : sNw (F0 100) (F0 112) (mL F0) x2 x3 x4 = mk0 F0 (sLd (F0 100) (F0 112) x3) x3 x2 x4 := if_pos he
      have rec0 : ∀ F', YK S F' G a b (F0 100) (F0 112) (mL F0) → QC S0 S Fz F' Gz G → sFc F0 x2 x3 x4 (F0 100 1 + 1 - x7).toNat x7 = sFc F0 x2 x3 x4 (F0 100 1 + 1 - (x7 + 1)).toNat (x7 + 1) → wph 5 288 23 [.inr (.inr (.inl 26)), .inr (.inr (.inl 31)), .inl x2, .inl x3, .inl x4, .inr (.inr (.inl a)), .inl (sNw (F0 100) (F0 112) (mL F0) x2 x3 x4), .inl (x7 + 1)] [] (mm S F' G) (0, 0) Q := by
        intro F' y1 y2 y3
        refine l_288 y1 y2 hw (by omega) (by omega) (fun F' g1 g2 => ?_)
        have := hk F' g1 g2
        rw [y3] at this
        rw [if_pos he]
        exact this
      refine cn_i (fun z2 => rec0 F hk0 hq ?_) (fun z2 => ?_)
      · rw [en]
        refine if_neg (fun q => ?_)
        have nb := (bit_z (by omega) (by omega) h7 (by omega)).mp z2
        rw [eb] at nb
        exact nb q.1
      · have hb1 : bit (sNw (F0 100) (F0 112) (mL F0) x2 x3 x4) x7 := Classical.byContradiction (fun q => z2 ((bit_z (by omega) (by omega) h7 (by omega)).mpr q))
        have am := m3 x7 h7 hb1
        have tb := sTo1_b hv' w3 w4 h7 (show x7 ≤ F0 100 1 by omega)
        have h3 := (sEnd_n he).2
        have h1 := (sEnd_n he).1
        have ab := sAf_b (l := F0 100) (st := F0 100 4) (q := sTo1 (F0 100) x2 x7) (n := x4) (by omega) (by omega) (by omega) w6
        refine c_286 ha hl k3 hv' w3 w4 am ?_
        simp only [lk ha, lk1 ha, lk2 ha, lk3 ha, lk4 ha, lk5 ha, lk6 ha, lk7 ha, lk8 ha, lk9 ha, lr0 ha, lr1 ha, lr2 ha, lr3 ha, lr4 ha, lr5 ha, lr6 ha, lr7 ha, lr8 ha, hl.1.2.2.2.2.1]
        refine ck_i rfl (ck_i rfl (c_207 ha hl hv2 tb.1 tb.2 (by omega) (by omega) (fun v ev => ?_)))
        subst ev
        rw [wr_id (a := x3 + 1) (by omega) (by omega)]
        refine c_287 hk0 tb.1 tb.2 (by omega) (by omega) ab.1 (by omega) (fun F' f1 f2 f3 f4 => cd_f (by decide) ?_) (fun F' f1 f2 f3 f4 => cd_t rfl (rec0 F' f2 (QC_t hq f3) ?_))
        · have := hk F' f2 (QC_t hq f3)
          rw [en] at this
          have e : sFc F0 x2 x3 x4 ((F0 100 1 + 1 - (x7 + 1)).toNat + 1) x7 = x7 := if_pos ⟨by rw [← eb]; exact hb1, f4⟩
          rw [e] at this
          exact this
        · rw [en]
          exact if_neg (fun q => f4 q.2)
    · have e0 : sNw (F0 100) (F0 112) (mL F0) x2 x3 x4 = 0 := if_neg he
      refine cn_i (fun z2 => ?_) (fun z2 => ?_)
      · refine l_288 hk0 hq hw (by omega) (by omega) (fun F' g1 g2 => ?_)
        have := hk F' g1 g2
        rw [if_neg he] at this ⊢
        exact this
      · rw [e0] at z2
        have nb : ¬ bit 0 x7 := by
          unfold bit
          simp
        exact absurd ((bit_z (by decide) (by decide) h7 (by omega)).mpr nb) z2
termination_by (F0 100 1 + 1 - x7).toNat
decreasing_by all_goals omega
theorem p_31 {k : Int → FS → FI → FJ → Prop} {kx : Nat → FS → FI → FJ → Prop} {a b : Nat} {l s : Nat → Int} {w : La} {x1 x2 x3 : Int} {F0 : FI} {S : FS} {F : FI} {G : FJ} (hR : F0 100 = l ∧ F0 112 = s ∧ mL F0 = w) (hL : hasL S F a) (hK : 1 ≤ F a 9 → YK S F G a b l s w) (noL : F a 9 < 1 → kx 3 S (rfc F 3) G) (noA : 1 ≤ F a 9 → ¬ isSt l x1 x2 x3 → kx 2 S (rfc F 2) G)
    (ok : 1 ≤ F a 9 → isSt l x1 x2 x3 → ∀ S' F' G' v, YK S' F' G' a b l s w → QC S S' F F' G G' → (v = 1 ∧ sTrp F0 x2 x1 x3 ∨ v = 0 ∧ ¬ sTrp F0 x2 x1 x3) → k v S' F' G') : calI 5 31 [.inr (.inr (.inl 1)), .inl x1, .inl x2, .inl x3] (mm S F G) k kx := by
  obtain ⟨rfl, rfl, rfl⟩ := hR
  refine sg_31_0 (c_51 hL.1 hL.2 (fun q => ?_) (fun q => ex_3 ⟨_, _, _, rfl, noL q⟩))
  have hk0 := hK q
  obtain ⟨ha, hb, ⟨k1, k2, k3, k4⟩, hv, hs, hw, hl, hrw, hpr, -⟩ := id hk0
  have hv' := hv
  obtain ⟨⟨hv1, hv2⟩, ⟨hv3, hv4⟩, ⟨hv5, hv6⟩, ⟨hv7, hv8⟩, ⟨hv9, hv10⟩, ⟨hv11, hv12⟩, ⟨hv13, hv14⟩, hvw, hvs, hvk, hvc, hvx⟩ := id hv
  refine c_56 ha k1 (l := F0 100) ⟨hl.1.1, hl.1.2.2.2.1, hl.1.2.2.2.2.1⟩ (fun y => ?_) (fun y => ex_2 ⟨_, _, _, rfl, noA q y⟩)
  have y' := y
  unfold isSt at y'
  exact c_287 hk0 y'.1 y'.2.1 y'.2.2.1 y'.2.2.2.1 y'.2.2.2.2.1 (by omega) (fun F' _ y1 y2 y3 => ck_i rfl ⟨_, _, _, rfl, ok q y S F' G 1 y1 y2 (Or.inl ⟨rfl, y3⟩)⟩) (fun F' _ y1 y2 y3 => ck_i rfl ⟨_, _, _, rfl, ok q y S F' G 0 y1 y2 (Or.inr ⟨rfl, y3⟩)⟩)
theorem p_32 {k : Int → FS → FI → FJ → Prop} {kx : Nat → FS → FI → FJ → Prop} {a b : Nat} {l s : Nat → Int} {w : La} {x1 x2 x3 : Int} {F0 : FI} {S : FS} {F : FI} {G : FJ} (hR : F0 100 = l ∧ F0 112 = s ∧ mL F0 = w) (hL : hasL S F a) (hK : 1 ≤ F a 9 → YK S F G a b l s w) (noL : F a 9 < 1 → kx 3 S (rfc F 3) G) (noA : 1 ≤ F a 9 → ¬ isSt l x1 x2 x3 → kx 2 S (rfc F 2) G)
    (ok : 1 ≤ F a 9 → isSt l x1 x2 x3 → ∀ S' F' G', YK S' F' G' a b l s w → QC S S' F F' G G' → k (if sEnd l x2 x1 x3 = 0 then sFc F0 x1 x2 x3 (l 1 + 1).toNat 0 else -1) S' F' G') : calI 6 32 [.inr (.inr (.inl 1)), .inl x1, .inl x2, .inl x3] (mm S F G) k kx := by
  obtain ⟨rfl, rfl, rfl⟩ := hR
  refine sg_32_0 (c_51 hL.1 hL.2 (fun q => ?_) (fun q => ex_3 ⟨_, _, _, rfl, noL q⟩))
  have hk0 := hK q
  obtain ⟨ha, hb, ⟨k1, k2, k3, k4⟩, hv, hs, hw, hl, hrw, hpr, -⟩ := id hk0
  have hv' := hv
  obtain ⟨⟨hv1, hv2⟩, ⟨hv3, hv4⟩, ⟨hv5, hv6⟩, ⟨hv7, hv8⟩, ⟨hv9, hv10⟩, ⟨hv11, hv12⟩, ⟨hv13, hv14⟩, hvw, hvs, hvk, hvc, hvx⟩ := id hv
  refine c_56 ha k1 (l := F0 100) ⟨hl.1.1, hl.1.2.2.2.1, hl.1.2.2.2.2.1⟩ (fun y => ?_) (fun y => ex_2 ⟨_, _, _, rfl, noA q y⟩)
  have hw' := vs_of y
  have y' := y
  unfold isSt at y'
  refine sg_288_0 (c_285 hk0 y'.1 y'.2.1 y'.2.2.1 y'.2.2.2.1 y'.2.2.2.2.1 (by omega) (fun F' _ y1 y2 => ?_))
  rw [k3]
  refine l_288 y1 y2 hw' (by omega) (by omega) (fun F'' z1 z2 => ⟨_, _, _, rfl, _, _, _, rfl, ?_⟩)
  have := ok q y S F'' G z1 z2
  rw [show (F0 100 1 + 1 - 0).toNat = (F0 100 1 + 1).toNat by omega]
  exact this
