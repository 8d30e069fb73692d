/-! ===== the reference plays a scene, on ===== -/
theorem mC_c {F F0 : FI} {mk : Int → Int → Int → Int → Int} (h : ∀ a, a ≠ 117 → a ≠ 123 → F a = F0 a) : mC F mk = mC F0 mk := by
  unfold mC
  rw [h 114 (by decide) (by decide), h 115 (by decide) (by decide), h 112 (by decide) (by decide), h 97 (by decide) (by decide)]
theorem sTk_g {l : Nat → Int} {c : Cf} {st h p n : Int} (h2 : h < l 3) (he : sEnd l h p n = 0) : sTk l c st h p n = sPick l c st h p n (c.2.2.2.1 (c.1 h) h p n) (sW l c st (l 3 - (h + 1)).toNat) (fun k => sDr l st c.2.2.2.1 (fun _ => k) k (l 3 - (h + 1)).toNat) (fun k => sDr l st c.2.2.2.1 c.1 k (l 3 - (h + 1)).toNat) := by
  have e : l 3 - ((((l 3 - (h + 1)).toNat : Nat) : Int) + 1) = h := by omega
  unfold sTk sMv
  rw [if_neg (by rw [he]; decide), e]
theorem PK_0 {l : Nat → Int} {c : Cf} {st : Int} {F F0 F' : FI} {G G0 : FJ} {h p n v : Int} (hd : PI l c st F F0 G G0 h p n) (hv : LV l) (hst : st ≤ 12) (hw : vs l st h p n) (hF : ∀ a, a ≠ 123 → F' a = F a) (he : v = sTk l c st h p n) :
    PK l c st (u2 F' 117 ((h * 12 + p) * 13 + n).toNat v) F0 G G0 h p n 0 := by
  obtain ⟨⟨hv1, hv2⟩, ⟨hv3, hv4⟩, ⟨hv5, hv6⟩, ⟨hv7, hv8⟩, ⟨hv9, hv10⟩, ⟨hv11, hv12⟩, ⟨hv13, hv14⟩, hvw, hvs, hvk, hvc, hvx⟩ := id hv
  have hw' := hw
  unfold vs at hw'
  refine ⟨⟨fun h' p' n' a d => ?_, hd.2.1, hd.2.2.1, fun a a1 a2 => ?_, hd.2.2.2.2⟩, ?_, fun k a b => by omega⟩
  · have d' := d
    unfold dn at d'
    unfold vs at a
    rw [u2_k, if_neg (by omega), hF 117 (by decide)]
    exact hd.1 h' p' n' a d
  · rw [u2_o a1, hF a a2]
    exact hd.2.2.2.1 a a1 a2
  · rw [u2_k, if_pos rfl, he]
theorem l_142_127 {Q : Rs → Mm → Prop} {mk : Int → Int → Int → Int → Int} {x1 x2 x3 x4 x5 x6 : Int} {S : FS} {F F0 : FI} {G G0 : FJ} (hv : LV (F0 100)) (hs : 0 ≤ F0 97 31) (hst : F0 97 31 ≤ 12) (hc : CV (F0 100) (F0 97 31) (mC F0 mk)) (hr : RDY (F0 100) (F0 97 31) mk F0 G0)
    (hw : vs (F0 100) (F0 97 31) x1 x2 x3) (ex4 : x4 = (x1 * 12 + x2) * 13 + x3) (ex5 : x5 = sEnd (F0 100) x1 x2 x3) (h6 : 0 ≤ x6) (h6' : x6 ≤ F0 100 2) (hd : PK (F0 100) (mC F0 mk) (F0 97 31) F F0 G G0 x1 x2 x3 x6)
    (hk : ∀ G', PI (F0 100) (mC F0 mk) (F0 97 31) F F0 G' G0 x1 x2 (x3 + 1) → wph 6 142 58 [.inr (.inr (.inl 97)), .inl x1, .inl x2, .inl (x3 + 1)] [] (mm S F G') (0, 0) Q) :
    wph 6 142 127 [.inr (.inr (.inl 97)), .inl x1, .inl x2, .inl x3, .inl x4, .inl x5, .inl x6] [] (mm S F G) (0, 0) Q := by
  obtain ⟨⟨hv1, hv2⟩, ⟨hv3, hv4⟩, ⟨hv5, hv6⟩, ⟨hv7, hv8⟩, ⟨hv9, hv10⟩, ⟨hv11, hv12⟩, ⟨hv13, hv14⟩, hvw, hvs, hvk, hvc, hvx⟩ := id hv
  have hw' := hw
  unfold vs at hw'
  have e100 := hd.1.2.2.2.1 100 (by decide) (by decide)
  have e97 := hd.1.2.2.2.1 97 (by decide) (by decide)
  have e122 := hd.1.2.2.2.1 122 (by decide) (by decide)
  have g118 := hd.1.2.2.2.2 118 (by decide)
  refine sg_142_127 ?_
  rw [e100]
  refine cn_i (fun h => ?_) (fun h => ?_)
  · have rcc : ∀ v, v = sW (F0 100) (mC F0 mk) (F0 97 31) (F0 100 3 - x1).toNat x6 x2 x3 → wph 6 142 127 [.inr (.inr (.inl 97)), .inl x1, .inl x2, .inl x3, .inl x4, .inl x5, .inl (x6 + 1)] [] (mm S F (u2 G 119 (x6 * 3900 + x4).toNat v)) (0, 0) Q := by
      intro v e
      refine l_142_127 hv hs hst hc hr hw ex4 ex5 (by omega) (by omega) ?_ hk
      rw [ex4]
      exact PK_s hv hs hst hc hd hw h6 h e
    try simp (disch := omega) only [wr_id]
    refine cn_i (fun g => ?_) (fun g => ?_)
    · have he : sEnd (F0 100) x1 x2 x3 = 0 := by omega
      obtain ⟨c1, c2⟩ := sEnd_n he
      have tk := sTk_in hv hc hw he
      have ft : F 117 x4.toNat = sTk (F0 100) (mC F0 mk) (F0 97 31) x1 x2 x3 := by rw [ex4]; exact hd.2.1
      refine ck_i (by (first | exact jb_i (by (first | assumption | omega | (simp (disch := omega) only [wr_id]; omega))) (by (first | assumption | omega | (simp (disch := omega) only [wr_id]; omega))) | exact jo_i (by omega) | exact jz_i (by omega) | rfl | (simp only [*]; first | rfl | exact jb_i (by (first | assumption | omega | (simp (disch := omega) only [wr_id]; omega))) (by (first | assumption | omega | (simp (disch := omega) only [wr_id]; omega)))))) ?_
      rw [ft]
      refine c_132 (by rw [e100]; exact hv) rfl rfl (by omega) (by omega) (by omega) (by rw [e100]; omega) (by omega) (by rw [e100]; omega) (by omega) (by rw [e97]; omega) (by rw [e97]; omega) (by omega) (by rw [e100]; omega) (by rw [e100, e122]; exact hr.2.1) hd.1.2.2.1 (fun v e => ?_)
      try simp (disch := omega) only [wr_id]
      refine ck_i (by (first | exact jb_i (by (first | assumption | omega | (simp (disch := omega) only [wr_id]; omega))) (by (first | assumption | omega | (simp (disch := omega) only [wr_id]; omega))) | exact jo_i (by omega) | exact jz_i (by omega) | rfl | (simp only [*]; first | rfl | exact jb_i (by (first | assumption | omega | (simp (disch := omega) only [wr_id]; omega))) (by (first | assumption | omega | (simp (disch := omega) only [wr_id]; omega)))))) (rcc v ?_)
      rw [e, e100, e97, sW_g (by omega) he]
      exact sBr_c hv hs (by omega) (by omega) (by omega) (by omega) tk.1 tk.2 hst (PI_F hd.1 (by omega) (by omega) h6 h)
    · refine c_133 (by rw [e100]; exact hv) (by omega) (by rw [e100]; omega) (by omega) (by rw [e100]; omega) (by omega) (by rw [e100]; omega) (by rw [e100, g118]; exact hr.2.2.1) (fun v e => ?_)
      try simp (disch := omega) only [wr_id]
      refine ck_i (by (first | exact jb_i (by (first | assumption | omega | (simp (disch := omega) only [wr_id]; omega))) (by (first | assumption | omega | (simp (disch := omega) only [wr_id]; omega))) | exact jo_i (by omega) | exact jz_i (by omega) | rfl | (simp only [*]; first | rfl | exact jb_i (by (first | assumption | omega | (simp (disch := omega) only [wr_id]; omega))) (by (first | assumption | omega | (simp (disch := omega) only [wr_id]; omega)))))) (rcc v ?_)
      rw [e, e100, ex5]
      exact (sW_e (by omega) (by omega)).symm
  · try simp (disch := omega) only [wr_id]
    exact hk G (PK_e hd (by omega))
termination_by (F0 100 2 - x6).toNat
decreasing_by omega
/-- what is known of the blind, before -/
def BLD (l : Nat → Int) (st : Int) (c : Cf) (G : FJ) (x : Int) : Prop := (∀ k, 0 ≤ k → k < x → c.2.1 k = 4 → ∀ h p n, vs l st h p n → G 121 (k * 3900 + ((h * 12 + p) * 13 + n)).toNat = sDr l st c.2.2.2.1 c.1 k (l 3 - h).toNat p n) ∧ (∀ i, B5 (G 121 i))
theorem l_142_58 {Q : Rs → Mm → Prop} {mk : Int → Int → Int → Int → Int} {x1 x2 x3 : Int} {S : FS} {F F0 : FI} {G G0 : FJ} (hv : LV (F0 100)) (hs : 0 ≤ F0 97 31) (hst : F0 97 31 ≤ 12) (hc : CV (F0 100) (F0 97 31) (mC F0 mk)) (hr : RDY (F0 100) (F0 97 31) mk F0 G0)
    (hb : BLD (F0 100) (F0 97 31) (mC F0 mk) G0 (F0 100 2)) (h1 : 0 ≤ x1) (h1' : x1 ≤ F0 100 3) (h2 : 0 ≤ x2) (h2' : x2 < F0 100 0) (h3 : 0 ≤ x3) (h3' : x3 ≤ F0 97 31 + 1) (hd : PI (F0 100) (mC F0 mk) (F0 97 31) F F0 G G0 x1 x2 x3)
    (hk : ∀ F' G', PI (F0 100) (mC F0 mk) (F0 97 31) F' F0 G' G0 x1 (x2 + 1) 0 → wph 6 142 46 [.inr (.inr (.inl 97)), .inl x1, .inl (x2 + 1)] [] (mm S F' G') (0, 0) Q) :
    wph 6 142 58 [.inr (.inr (.inl 97)), .inl x1, .inl x2, .inl x3] [] (mm S F G) (0, 0) Q := by
  obtain ⟨⟨hv1, hv2⟩, ⟨hv3, hv4⟩, ⟨hv5, hv6⟩, ⟨hv7, hv8⟩, ⟨hv9, hv10⟩, ⟨hv11, hv12⟩, ⟨hv13, hv14⟩, hvw, hvs, hvk, hvc, hvx⟩ := id hv
  have e100 := hd.2.2.2.1 100 (by decide) (by decide)
  have e97 := hd.2.2.2.1 97 (by decide) (by decide)
  have e122 := hd.2.2.2.1 122 (by decide) (by decide)
  have e114 := hd.2.2.2.1 114 (by decide) (by decide)
  have e116 := hd.2.2.2.1 116 (by decide) (by decide)
  have e112 := hd.2.2.2.1 112 (by decide) (by decide)
  refine sg_142_58 ?_
  rw [e97]
  refine cn_i (fun h => ?_) (fun h => ?_)
  · try simp (disch := omega) only [wr_id]
    exact hk F G (PI_n hd (by omega))
  · have hw : vs (F0 100) (F0 97 31) x1 x2 x3 := ⟨h1, h1', h2, h2', h3, by omega⟩
    have go : ∀ F' v x5, (∀ a, a ≠ 123 → F' a = F a) → v = sTk (F0 100) (mC F0 mk) (F0 97 31) x1 x2 x3 → x5 = sEnd (F0 100) x1 x2 x3 → wph 6 142 127 [.inr (.inr (.inl 97)), .inl x1, .inl x2, .inl x3, .inl ((x1 * 12 + x2) * 13 + x3), .inl x5, .inl 0] [] (mm S (u2 F' 117 ((x1 * 12 + x2) * 13 + x3).toNat v) G) (0, 0) Q := by
      intro F' v x5 hF ev e5
      refine l_142_127 hv hs hst hc hr hw rfl e5 (by omega) (by omega) (PK_0 hd hv hst hw hF ev) (fun G' hd' => ?_)
      exact l_142_58 hv hs hst hc hr hb h1 h1' h2 h2' (by omega) (by omega) hd' hk
    refine c_123 (by omega) (by omega) (by omega) (by omega) (by omega) (by omega) (fun _ e => ?_)
    subst e
    refine c_124 (by omega) (by omega) (fun x5 e5 => ?_)
    rw [e100] at e5
    refine cn_i (fun g => ?_) (fun g => ?_)
    · have he : sEnd (F0 100) x1 x2 x3 = 0 := by omega
      obtain ⟨c1, c2⟩ := sEnd_n he
      have lh := hc.1 x1 h1 (by omega)
      have lh' : 0 ≤ F0 114 x1.toNat ∧ F0 114 x1.toNat < F0 100 2 := lh
      have hpl := hc.2.1 x1 h1 (by omega)
      have hpl' : 0 ≤ F0 112 (5 + x1).toNat ∧ F0 112 (5 + x1).toNat ≤ F0 100 1 := hpl
      have mb := hc.2.2.1 _ x1 x2 x3 lh.1 lh.2 h1 (by omega) h2 h2' h3 (by omega) he
      refine ck_i (by (first | exact jb_i (by (first | assumption | omega | (simp (disch := omega) only [wr_id]; omega))) (by (first | assumption | omega | (simp (disch := omega) only [wr_id]; omega))) | exact jo_i (by omega) | exact jz_i (by omega) | rfl | (simp only [*]; first | rfl | exact jb_i (by (first | assumption | omega | (simp (disch := omega) only [wr_id]; omega))) (by (first | assumption | omega | (simp (disch := omega) only [wr_id]; omega)))))) (ck_i (by (first | exact jb_i (by (first | assumption | omega | (simp (disch := omega) only [wr_id]; omega))) (by (first | assumption | omega | (simp (disch := omega) only [wr_id]; omega))) | exact jo_i (by omega) | exact jz_i (by omega) | rfl | (simp only [*]; first | rfl | exact jb_i (by (first | assumption | omega | (simp (disch := omega) only [wr_id]; omega))) (by (first | assumption | omega | (simp (disch := omega) only [wr_id]; omega)))))) ?_)
      rw [e114]
      refine c_130 (by omega) (by omega) (by omega) (by omega) (fun v3 e3 => ?_)
      have e3' : v3 = mk (F0 114 x1.toNat) x1 x2 x3 := by
        rw [e3, e116]
        exact hr.1 _ x1 x2 x3 lh'.1 lh'.2 hw he
      have mb' : 0 ≤ v3 ∧ v3 < 33554432 ∧ ∃ m, 0 ≤ m ∧ m ≤ F0 100 1 ∧ bit v3 m := by rw [e3']; exact mb
      refine c_141 (mk := mk) (by rw [e100]; exact hv) h1 (by rw [e100]; omega) h2 (by rw [e100]; omega) (by omega) (by rw [e97]; omega) (by rw [e97]; omega) (by rw [e100, e122]; exact hr.2.1) hd.2.2.1
        (fun i => by rw [hd.2.2.2.2 120 (by decide)]; exact hr.2.2.2.2 i) (fun i => by rw [hd.2.2.2.2 121 (by decide)]; exact hb.2 i) mb'.1 (by omega) (by rw [e100]; exact mb'.2.2) (by rw [e114]) lh'.1 (by rw [e100]; exact lh'.2)
        (by rw [e97]; exact hc.2.2.2.1) (by rw [e97]; exact hc.2.2.2.2) (by rw [e112]; omega) (fun v4 F' e4 hF' => ?_)
      refine ck_i (by (first | exact jb_i (by (first | assumption | omega | (simp (disch := omega) only [wr_id]; omega))) (by (first | assumption | omega | (simp (disch := omega) only [wr_id]; omega))) | exact jo_i (by omega) | exact jz_i (by omega) | rfl | (simp only [*]; first | rfl | exact jb_i (by (first | assumption | omega | (simp (disch := omega) only [wr_id]; omega))) (by (first | assumption | omega | (simp (disch := omega) only [wr_id]; omega)))))) (go F' v4 x5 hF' ?_ e5)
      rw [e4, e100, e97, mC_c hd.2.2.2.1, sTk_g (by omega) he, hd.2.2.2.2 120 (by decide), hd.2.2.2.2 121 (by decide), e3']
      refine sPick_c hv hc hs hst h1 (by omega) h2 h2' (by omega) (by omega) (fun k q s k1 k2 a b c d => PI_F hd h1 (by omega) k1 k2 q s a b c d) (fun _ q s a b c d => ?_) (fun k4 q s a b c d => ?_)
      · exact hr.2.2.2.1 _ (x1 + 1) q s lh.1 lh.2 ⟨by omega, by omega, a, b, c, d⟩
      · exact hb.1 _ lh.1 lh.2 k4 (x1 + 1) q s ⟨by omega, by omega, a, b, c, d⟩
    · refine ck_i (by (first | exact jb_i (by (first | assumption | omega | (simp (disch := omega) only [wr_id]; omega))) (by (first | assumption | omega | (simp (disch := omega) only [wr_id]; omega))) | exact jo_i (by omega) | exact jz_i (by omega) | rfl | (simp only [*]; first | rfl | exact jb_i (by (first | assumption | omega | (simp (disch := omega) only [wr_id]; omega))) (by (first | assumption | omega | (simp (disch := omega) only [wr_id]; omega)))))) (go F (-1) x5 (fun _ _ => rfl) ?_ e5)
      unfold sTk
      rw [if_pos (by omega)]
termination_by (F0 97 31 + 1 - x3).toNat
decreasing_by omega
theorem l_142_46 {Q : Rs → Mm → Prop} {mk : Int → Int → Int → Int → Int} {x1 x2 : Int} {S : FS} {F F0 : FI} {G G0 : FJ} (hv : LV (F0 100)) (hs : 0 ≤ F0 97 31) (hst : F0 97 31 ≤ 12) (hc : CV (F0 100) (F0 97 31) (mC F0 mk)) (hr : RDY (F0 100) (F0 97 31) mk F0 G0)
    (hb : BLD (F0 100) (F0 97 31) (mC F0 mk) G0 (F0 100 2)) (h1 : 0 ≤ x1) (h1' : x1 ≤ F0 100 3) (h2 : 0 ≤ x2) (h2' : x2 ≤ F0 100 0) (hd : PI (F0 100) (mC F0 mk) (F0 97 31) F F0 G G0 x1 x2 0)
    (hk : ∀ F' G', PI (F0 100) (mC F0 mk) (F0 97 31) F' F0 G' G0 (x1 - 1) 0 0 → wph 6 142 40 [.inr (.inr (.inl 97)), .inl (x1 - 1)] [] (mm S F' G') (0, 0) Q) :
    wph 6 142 46 [.inr (.inr (.inl 97)), .inl x1, .inl x2] [] (mm S F G) (0, 0) Q := by
  obtain ⟨⟨hv1, hv2⟩, ⟨hv3, hv4⟩, ⟨hv5, hv6⟩, ⟨hv7, hv8⟩, ⟨hv9, hv10⟩, ⟨hv11, hv12⟩, ⟨hv13, hv14⟩, hvw, hvs, hvk, hvc, hvx⟩ := id hv
  have e100 := hd.2.2.2.1 100 (by decide) (by decide)
  refine sg_142_46 ?_
  rw [e100]
  try simp (disch := omega) only [wr_id]
  refine cn_i (fun h => ?_) (fun h => ?_)
  · refine l_142_58 hv hs hst hc hr hb h1 h1' h2 h (by omega) (by omega) hd (fun F' G' hd' => ?_)
    exact l_142_46 hv hs hst hc hr hb h1 h1' (by omega) (by omega) hd' hk
  · have := hk F G (PI_p hd (by omega))
    rw [show x1 + -1 = x1 - 1 by omega]
    exact this
termination_by (F0 100 0 - x2).toNat
decreasing_by omega
theorem l_142_40 {Q : Rs → Mm → Prop} {mk : Int → Int → Int → Int → Int} {x1 : Int} {S : FS} {F F0 : FI} {G G0 : FJ} (hv : LV (F0 100)) (hs : 0 ≤ F0 97 31) (hst : F0 97 31 ≤ 12) (hc : CV (F0 100) (F0 97 31) (mC F0 mk)) (hr : RDY (F0 100) (F0 97 31) mk F0 G0)
    (hb : BLD (F0 100) (F0 97 31) (mC F0 mk) G0 (F0 100 2)) (h1 : -1 ≤ x1) (h1' : x1 ≤ F0 100 3) (hd : PI (F0 100) (mC F0 mk) (F0 97 31) F F0 G G0 x1 0 0)
    (hq : ∀ F' G', PI (F0 100) (mC F0 mk) (F0 97 31) F' F0 G' G0 (-1) 0 0 → Q (.inl none) (mm S F' G')) :
    wph 6 142 40 [.inr (.inr (.inl 97)), .inl x1] [] (mm S F G) (0, 0) Q := by
  obtain ⟨⟨hv1, hv2⟩, ⟨hv3, hv4⟩, ⟨hv5, hv6⟩, ⟨hv7, hv8⟩, ⟨hv9, hv10⟩, ⟨hv11, hv12⟩, ⟨hv13, hv14⟩, hvw, hvs, hvk, hvc, hvx⟩ := id hv
  refine sg_142_40 ?_
  refine cn_i (fun h => ?_) (fun h => ?_)
  · have : x1 = -1 := by omega
    subst this
    exact hq F G hd
  · refine l_142_46 hv hs hst hc hr hb (by omega) h1' (by omega) (by omega) hd (fun F' G' hd' => ?_)
    exact l_142_40 hv hs hst hc hr hb (by omega) (by omega) hd' hq
termination_by (x1 + 1).toNat
decreasing_by omega
theorem RDY_c {l : Nat → Int} {st : Int} {mk : Int → Int → Int → Int → Int} {F F' : FI} {G G' : FJ} (h : RDY l st mk F G) (h1 : F' 116 = F 116) (h2 : F' 122 = F 122) (h3 : G' 118 = G 118) (h4 : G' 120 = G 120) : RDY l st mk F' G' := by
  unfold RDY at h ⊢
  rw [h1, h2, h3, h4]
  exact h
theorem l_142_2 {Q : Rs → Mm → Prop} {mk : Int → Int → Int → Int → Int} {x1 : Int} {S : FS} {F : FI} {G G0 : FJ} (hv : LV (F 100)) (hs : 0 ≤ F 97 31) (hst : F 97 31 ≤ 12) (hc : CV (F 100) (F 97 31) (mC F mk)) (hr : RDY (F 100) (F 97 31) mk F G0)
    (h1 : 0 ≤ x1) (h1' : x1 ≤ F 100 2) (hb : BLD (F 100) (F 97 31) (mC F mk) G x1) (hG : ∀ a, a ≠ 121 → G a = G0 a) (hB : ∀ i, B5 (G0 119 i))
    (hq : ∀ F' G' G1, (∀ a, a ≠ 121 → G1 a = G0 a) → (∀ i, B5 (G1 121 i)) → PI (F 100) (mC F mk) (F 97 31) F' F G' G1 (-1) 0 0 → Q (.inl none) (mm S F' G')) :
    wph 6 142 2 [.inr (.inr (.inl 97)), .inl x1] [] (mm S F G) (0, 0) Q := by
  obtain ⟨⟨hv1, hv2⟩, ⟨hv3, hv4⟩, ⟨hv5, hv6⟩, ⟨hv7, hv8⟩, ⟨hv9, hv10⟩, ⟨hv11, hv12⟩, ⟨hv13, hv14⟩, hvw, hvs, hvk, hvc, hvx⟩ := id hv
  have hr1 : RDY (F 100) (F 97 31) mk F G := RDY_c hr rfl rfl (hG 118 (by decide)) (hG 120 (by decide))
  refine sg_142_2 ?_
  try simp (disch := omega) only [wr_id]
  refine cn_i (fun h => ?_) (fun h => ?_)
  · refine ck_i (by (first | exact jb_i (by (first | assumption | omega | (simp (disch := omega) only [wr_id]; omega))) (by (first | assumption | omega | (simp (disch := omega) only [wr_id]; omega))) | exact jo_i (by omega) | exact jz_i (by omega) | rfl | (simp only [*]; first | rfl | exact jb_i (by (first | assumption | omega | (simp (disch := omega) only [wr_id]; omega))) (by (first | assumption | omega | (simp (disch := omega) only [wr_id]; omega)))))) (cn_i (fun g => ?_) (fun g => ?_))
    · refine c_136 (mk := mk) hv hs hst hr.1 hc.2.2.1 hc.1 hr.2.1 hr1.2.2.1 h1 h hb.2 (fun G' hd => ?_)
      try simp (disch := omega) only [wr_id]
      refine l_142_2 hv hs hst hc hr (by omega) (by omega) ⟨fun k k1 k2 k4 h p n w => ?_, hd.2.1⟩ (fun a ha => (hd.2.2 a ha).trans (hG a ha)) hB hq
      have w' := w
      unfold vs at w'
      by_cases e : k = x1
      · rw [e]
        exact hd.1.1 h p n w (Or.inl (by omega))
      · rw [hd.1.2 _ (by omega)]
        exact hb.1 k k1 (by omega) k4 h p n w
    · refine l_142_2 hv hs hst hc hr (by omega) (by omega) ⟨fun k k1 k2 k4 h p n w => ?_, hb.2⟩ hG hB hq
      have : k ≠ x1 := fun e => g (e ▸ k4)
      exact hb.1 k k1 (by omega) k4 h p n w
  · have : x1 = F 100 2 := by omega
    subst this
    refine l_142_40 hv hs hst hc hr1 hb (by omega) (by omega) ⟨fun h' p' n' a d => ?_, fun k h' p' n' _ _ a d => ?_, fun i => by rw [hG 119 (by decide)]; exact hB i, fun _ _ _ => rfl, fun _ _ => rfl⟩ (fun F' G' hd => hq F' G' G hG hb.2 hd)
    · unfold dn at d; unfold vs at a; omega
    · unfold dn at d; unfold vs at a; omega
termination_by (F 100 2 - x1).toNat
decreasing_by all_goals omega
/-- a scene as it was played -/
def PLD (l : Nat → Int) (c : Cf) (st : Int) (F F' : FI) (G G' : FJ) : Prop := (∀ h p n, vs l st h p n → F' 117 ((h * 12 + p) * 13 + n).toNat = sTk l c st h p n) ∧
  (∀ k h p n, 0 ≤ k → k < l 2 → vs l st h p n → G' 119 (k * 3900 + ((h * 12 + p) * 13 + n)).toNat = sW l c st (l 3 - h).toNat k p n) ∧ (∀ i, B5 (G' 119 i)) ∧ (∀ i, B5 (G' 121 i)) ∧ (∀ a, a ≠ 117 → a ≠ 123 → F' a = F a) ∧ (∀ a, a ≠ 119 → a ≠ 121 → G' a = G a)
theorem c_142 {k : FS → FI → FJ → Prop} {mk : Int → Int → Int → Int → Int} {S : FS} {F : FI} {G : FJ} (hv : LV (F 100)) (hs : 0 ≤ F 97 31) (hst : F 97 31 ≤ 12) (hc : CV (F 100) (F 97 31) (mC F mk)) (hr : RDY (F 100) (F 97 31) mk F G) (hB : ∀ i, B5 (G 119 i)) (hB2 : ∀ i, B5 (G 121 i))
    (hk : ∀ F' G', PLD (F 100) (mC F mk) (F 97 31) F F' G G' → k S F' G') : calV 6 142 [.inr (.inr (.inl 97))] (mm S F G) k nof := by
  obtain ⟨⟨hv1, hv2⟩, ⟨hv3, hv4⟩, ⟨hv5, hv6⟩, ⟨hv7, hv8⟩, ⟨hv9, hv10⟩, ⟨hv11, hv12⟩, ⟨hv13, hv14⟩, hvw, hvs, hvk, hvc, hvx⟩ := id hv
  refine sg_142_0 ?_
  refine l_142_2 hv hs hst hc hr (by omega) (by omega) ⟨fun k k1 k2 => by omega, hB2⟩ (fun _ _ => rfl) hB (fun F' G' G1 h1 hb1 hd => ⟨_, _, _, rfl, hk F' G' ?_⟩)
  refine ⟨fun h p n w => hd.1 h p n w (Or.inl (by have := w.1; omega)), fun k h p n k1 k2 w => hd.2.1 k h p n k1 k2 w (Or.inl (by have := w.1; omega)), hd.2.2.1, fun i => ?_, hd.2.2.2.1, fun a a1 a2 => (hd.2.2.2.2 a a1).trans (h1 a a2)⟩
  rw [hd.2.2.2.2 121 (by decide)]
  exact hb1 i
