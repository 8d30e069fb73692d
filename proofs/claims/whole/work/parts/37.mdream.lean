/-! ===== the reference's dreams: alone, blind ===== -/
/-- the row of lawful moves holds what mk says -/
def MF (g l : Nat → Int) (st : Int) (mk : Int → Int → Int → Int → Int) : Prop := ∀ k h p n, 0 ≤ k → k < l 2 → vs l st h p n → sEnd l h p n = 0 → (if g (k * 3900 + ((h * 12 + p) * 13 + n)).toNat = 0 then 1 else g (k * 3900 + ((h * 12 + p) * 13 + n)).toNat) = mk k h p n
theorem c_130 {k : Int → FS → FI → FJ → Prop} {x1 x2 : Int} {S : FS} {F : FI} {G : FJ} (h0 : 0 ≤ x1) (h1 : x1 < 5) (h2 : 0 ≤ x2) (h3 : x2 < 3900) (hk : ∀ v, v = (if F 116 (x1 * 3900 + x2).toNat = 0 then 1 else F 116 (x1 * 3900 + x2).toNat) → k v S F G) :
    calI 0 130 [.inr (.inr (.inl 97)), .inl x1, .inl x2] (mm S F G) k nof := by
  refine sg_130_0 ?_
  try simp (disch := omega) only [wr_id]
  refine ck_i (by (first | exact jb_i (by (first | assumption | omega | (simp (disch := omega) only [wr_id]; omega))) (by (first | assumption | omega | (simp (disch := omega) only [wr_id]; omega))) | exact jo_i (by omega) | exact jz_i (by omega) | rfl | (simp only [*]; first | rfl | exact jb_i (by (first | assumption | omega | (simp (disch := omega) only [wr_id]; omega))) (by (first | assumption | omega | (simp (disch := omega) only [wr_id]; omega)))))) (cn_i (fun h => ?_) (fun h => ?_))
  · exact ⟨_, _, _, rfl, hk _ (if_pos h).symm⟩
  · exact ⟨_, _, _, rfl, hk _ (if_neg h).symm⟩
theorem c_133 {k : Int → FS → FI → FJ → Prop} {x1 x2 x3 x4 : Int} {S : FS} {F : FI} {G : FJ} (hv : LV (F 100)) (h0 : 0 ≤ x1) (h1 : x1 < F 100 2) (h2 : 0 ≤ x2) (h3 : x2 ≤ F 100 3) (h4 : 0 ≤ x3) (h5 : x3 < F 100 0) (hsc : ∀ h, 0 ≤ h → h ≤ F 100 3 → G 118 h.toNat = sScH (F 100) h)
    (hk : ∀ v, v = sEv (F 100) x1 x2 x3 x4 → k v S F G) : calL 0 133 [.inr (.inr (.inl 97)), .inl x1, .inl x2, .inl x3, .inl x4] (mm S F G) k nof := by
  obtain ⟨⟨hv1, hv2⟩, ⟨hv3, hv4⟩, ⟨hv5, hv6⟩, ⟨hv7, hv8⟩, ⟨hv9, hv10⟩, ⟨hv11, hv12⟩, ⟨hv13, hv14⟩, hvw, hvs, hvk, hvc, hvx⟩ := id hv
  have e0 := sEv_0 (e := x4) hv h0 h1 h2 h3 h4 h5
  have eb := sScH_b hv h2 h3
  have em := mul_b e0.2.2.1 e0.2.2.2 (show 0 ≤ sScH (F 100) x2 by omega)
  have es := hsc x2 h2 h3
  have ek := hvk x1 x3 h0 (by omega) h4 (by omega)
  refine sg_133_0 ?_
  try simp (disch := omega) only [wr_id]
  refine cn_i (fun h => ?_) (fun h => ?_)
  · rw [if_pos h] at e0 em
    refine ck_i (by (first | exact jb_i (by (first | assumption | omega | (simp (disch := omega) only [wr_id]; omega))) (by (first | assumption | omega | (simp (disch := omega) only [wr_id]; omega))) | exact jo_i (by omega) | exact jz_i (by omega) | rfl | (simp only [*]; first | rfl | exact jb_i (by (first | assumption | omega | (simp (disch := omega) only [wr_id]; omega))) (by (first | assumption | omega | (simp (disch := omega) only [wr_id]; omega)))))) (ck_i (by (first | exact jb_i (by (first | assumption | omega | (simp (disch := omega) only [wr_id]; omega))) (by (first | assumption | omega | (simp (disch := omega) only [wr_id]; omega))) | exact jo_i (by omega) | exact jz_i (by omega) | rfl | (simp only [*]; first | rfl | exact jb_i (by (first | assumption | omega | (simp (disch := omega) only [wr_id]; omega))) (by (first | assumption | omega | (simp (disch := omega) only [wr_id]; omega)))))) ?_)
    refine ⟨_, _, _, rfl, hk _ ?_⟩
    unfold sEv
    rw [if_pos h, es, wl_id (by omega) (by omega)]
  · rw [if_neg h] at e0 em
    refine ck_i (by (first | exact jb_i (by (first | assumption | omega | (simp (disch := omega) only [wr_id]; omega))) (by (first | assumption | omega | (simp (disch := omega) only [wr_id]; omega))) | exact jo_i (by omega) | exact jz_i (by omega) | rfl | (simp only [*]; first | rfl | exact jb_i (by (first | assumption | omega | (simp (disch := omega) only [wr_id]; omega))) (by (first | assumption | omega | (simp (disch := omega) only [wr_id]; omega)))))) (ck_i (by (first | exact jb_i (by (first | assumption | omega | (simp (disch := omega) only [wr_id]; omega))) (by (first | assumption | omega | (simp (disch := omega) only [wr_id]; omega))) | exact jo_i (by omega) | exact jz_i (by omega) | rfl | (simp only [*]; first | rfl | exact jb_i (by (first | assumption | omega | (simp (disch := omega) only [wr_id]; omega))) (by (first | assumption | omega | (simp (disch := omega) only [wr_id]; omega)))))) (ck_i (by (first | exact jb_i (by (first | assumption | omega | (simp (disch := omega) only [wr_id]; omega))) (by (first | assumption | omega | (simp (disch := omega) only [wr_id]; omega))) | exact jo_i (by omega) | exact jz_i (by omega) | rfl | (simp only [*]; first | rfl | exact jb_i (by (first | assumption | omega | (simp (disch := omega) only [wr_id]; omega))) (by (first | assumption | omega | (simp (disch := omega) only [wr_id]; omega)))))) ?_))
    refine ⟨_, _, _, rfl, hk _ ?_⟩
    unfold sEv
    rw [if_neg h, es, wl_id (by omega) (by omega)]
theorem dr_step {l g : Nat → Int} {st : Int} {mk : Int → Int → Int → Int → Int} {ld : Int → Int} {k b h p n sg bits : Int} (hv : LV l) (hs : 0 ≤ st) (hst : st ≤ 12) (hm : MK l st mk) (hk : 0 ≤ k) (hk2 : k < l 2) (hl : ∀ h, 0 ≤ h → h < l 3 → 0 ≤ ld h ∧ ld h < l 2)
    (hw : vs l st h p n) (he : sEnd l h p n = 0) (hb : bits = mk (ld h) h p n) (hg : sg = if ld h = k then 1 else -1) (hT : ∀ q s, 0 ≤ q → q < l 0 → 0 ≤ s → s ≤ st → sF g b h q s = sDr l st mk ld k (l 3 - (h + 1)).toNat q s) :
    (0 ≤ bst (fun m => sg * sBr l st h p n m (sF g b h)) bits (l 1 + 1).toNat ∧ bst (fun m => sg * sBr l st h p n m (sF g b h)) bits (l 1 + 1).toNat ≤ l 1) ∧
    sBr l st h p n (bst (fun m => sg * sBr l st h p n m (sF g b h)) bits (l 1 + 1).toNat) (sF g b h) = sDr l st mk ld k (l 3 - h).toNat p n := by
  obtain ⟨⟨hv1, hv2⟩, ⟨hv3, hv4⟩, ⟨hv5, hv6⟩, ⟨hv7, hv8⟩, ⟨hv9, hv10⟩, ⟨hv11, hv12⟩, ⟨hv13, hv14⟩, hvw, hvs, hvk, hvc, hvx⟩ := id hv
  obtain ⟨w1, w2, w3, w4, w5, w6⟩ := hw
  obtain ⟨c1, c2⟩ := sEnd_n he
  have lh := hl h w1 (by omega)
  have mb := (hm _ _ p n lh.1 lh.2 w1 (by omega) w3 w4 w5 w6 he).2.2
  rw [← hb] at mb
  have e1 : bst (fun m => sg * sBr l st h p n m (sF g b h)) bits (l 1 + 1).toNat = bst (fun m => (if ld h = k then 1 else -1) * sBr l st h p n m (sDr l st mk ld k (l 3 - (h + 1)).toNat)) (mk (ld h) h p n) (l 1 + 1).toNat := by
    rw [hb]
    refine bst_c (fun m m1 m2 _ => ?_)
    rw [hg, sBr_c hv hs w3 w4 (by omega) w6 m1 (by omega) hst hT]
  have bi := bst_in (v := fun m => sg * sBr l st h p n m (sF g b h)) hv3 mb
  refine ⟨⟨bi.1, bi.2.1⟩, ?_⟩
  rw [sDr_g (by omega) he, ← e1]
  exact sBr_c hv hs w3 w4 (by omega) w6 bi.1 bi.2.1 hst hT
theorem upd_TI {G : FJ} {c j : Nat} {v : Int} (i : Nat) : u2 G c j v c i = if i = j then v else G c i := u2_k i
theorem B5_u {G : FJ} {c j : Nat} {v : Int} (h : ∀ i, B5 (G c i)) (hv : B5 v) : ∀ i, B5 (u2 G c j v c i) := by
  intro i
  rw [u2_k]
  split
  · exact hv
  · exact h i
theorem off_u {G G0 : FJ} {c j : Nat} {v : Int} (h : ∀ a, a ≠ c → G a = G0 a) : ∀ a, a ≠ c → u2 G c j v a = G0 a := fun a ha => (u2_o ha).trans (h a ha)
theorem off_uI {F F0 : FI} {c j : Nat} {v : Int} (h : ∀ a, a ≠ c → F a = F0 a) : ∀ a, a ≠ c → u2 F c j v a = F0 a := fun a ha => (u2_o ha).trans (h a ha)
/-- a table of dreams as it grows -/
def DI (l : Nat → Int) (st : Int) (mk : Int → Int → Int → Int → Int) (ld : Int → Int) (k : Int) (c : Nat) (G G0 : FJ) (h p n : Int) : Prop :=
  TI l st (fun h p n => sDr l st mk ld k (l 3 - h).toNat p n) (k * 3900) (G c) (G0 c) h p n ∧ (∀ i, B5 (G c i)) ∧ (∀ a, a ≠ c → G a = G0 a)
theorem DI_F {l : Nat → Int} {st : Int} {mk : Int → Int → Int → Int → Int} {ld : Int → Int} {k : Int} {c : Nat} {G G0 : FJ} {h p n : Int} (hd : DI l st mk ld k c G G0 h p n) (h0 : 0 ≤ h) (h1 : h < l 3) :
    ∀ q s, 0 ≤ q → q < l 0 → 0 ≤ s → s ≤ st → sF (G c) (k * 3900) h q s = sDr l st mk ld k (l 3 - (h + 1)).toNat q s := by
  intro q s a1 a2 a3 a4
  exact hd.1.1 (h + 1) q s ⟨by omega, by omega, a1, a2, a3, a4⟩ (Or.inl (by omega))
theorem DI_s {l : Nat → Int} {st : Int} {mk : Int → Int → Int → Int → Int} {ld : Int → Int} {k : Int} {c : Nat} {G G0 : FJ} {h p n v : Int} (hv : LV l) (hs : 0 ≤ st) (hst : st ≤ 12) (hm : MK l st mk) (hk : 0 ≤ k) (hk2 : k < l 2) (hl : ∀ h, 0 ≤ h → h < l 3 → 0 ≤ ld h ∧ ld h < l 2)
    (hd : DI l st mk ld k c G G0 h p n) (hw : vs l st h p n) (he : v = sDr l st mk ld k (l 3 - h).toNat p n) : DI l st mk ld k c (u2 G c (k * 3900 + ((h * 12 + p) * 13 + n)).toNat v) G0 h p (n + 1) := by
  have hv' := hv
  obtain ⟨⟨hv1, hv2⟩, ⟨hv3, hv4⟩, ⟨hv5, hv6⟩, ⟨hv7, hv8⟩, ⟨hv9, hv10⟩, ⟨hv11, hv12⟩, ⟨hv13, hv14⟩, hvw, hvs, hvk, hvc, hvx⟩ := id hv
  have hw' := hw
  unfold vs at hw'
  have hb : WB l (l 3 - h).toNat v := by
    rw [he]
    exact sDr_b hv hs hst hm hk hk2 hl _ (by omega) p n hw'.2.2.1 hw'.2.2.2.1 hw'.2.2.2.2.1 hw'.2.2.2.2.2
  exact ⟨TI_s hv hst (by omega) hd.1 hw rfl (fun i => by rw [u2_k, he]), B5_u hd.2.1 (WB_5 hv (by omega) hb), off_u hd.2.2⟩
theorem l_135_34 {Q : Rs → Mm → Prop} {mk : Int → Int → Int → Int → Int} {x1 x2 x3 x4 x5 : Int} {S : FS} {F : FI} {G G0 : FJ} (hv : LV (F 100)) (hs : 0 ≤ F 97 31) (hst : F 97 31 ≤ 12) (hmf : MF (F 116) (F 100) (F 97 31) mk) (hm : MK (F 100) (F 97 31) mk)
    (hsy : ∀ h, 0 ≤ h → h < F 100 3 → F 122 h.toNat = sSy (F 100) h) (hsc : ∀ h, 0 ≤ h → h ≤ F 100 3 → G 118 h.toNat = sScH (F 100) h) (h1 : 0 ≤ x1) (h2 : x1 < F 100 2) (hx2 : x2 = x1 * 3900) (h3 : 0 ≤ x3) (h3' : x3 ≤ F 100 3) (h4 : 0 ≤ x4) (h4' : x4 < F 100 0) (h5 : 0 ≤ x5) (h5' : x5 ≤ F 97 31 + 1)
    (hd : DI (F 100) (F 97 31) mk (fun _ => x1) x1 120 G G0 x3 x4 x5)
    (hk : ∀ G', DI (F 100) (F 97 31) mk (fun _ => x1) x1 120 G' G0 x3 (x4 + 1) 0 → wph 4 135 20 [.inr (.inr (.inl 97)), .inl x1, .inl x2, .inl x3, .inl (x4 + 1)] [] (mm S F G') (0, 0) Q) :
    wph 4 135 34 [.inr (.inr (.inl 97)), .inl x1, .inl x2, .inl x3, .inl x4, .inl x5] [] (mm S F G) (0, 0) Q := by
  obtain ⟨⟨hv1, hv2⟩, ⟨hv3, hv4⟩, ⟨hv5, hv6⟩, ⟨hv7, hv8⟩, ⟨hv9, hv10⟩, ⟨hv11, hv12⟩, ⟨hv13, hv14⟩, hvw, hvs, hvk, hvc, hvx⟩ := id hv
  have hl : ∀ h, 0 ≤ h → h < F 100 3 → 0 ≤ (fun _ => x1 : Int → Int) h ∧ (fun _ => x1 : Int → Int) h < F 100 2 := fun _ _ _ => ⟨h1, h2⟩
  refine sg_135_34 ?_
  try simp (disch := omega) only [wr_id]
  refine cn_i (fun h => ?_) (fun h => ?_)
  · exact hk G ⟨TI_n hd.1 (by omega), hd.2⟩
  · have hw : vs (F 100) (F 97 31) x3 x4 x5 := ⟨h3, h3', h4, h4', h5, by omega⟩
    have rcc : ∀ v, v = sDr (F 100) (F 97 31) mk (fun _ => x1) x1 (F 100 3 - x3).toNat x4 x5 → wph 4 135 34 [.inr (.inr (.inl 97)), .inl x1, .inl x2, .inl x3, .inl x4, .inl (x5 + 1)] [] (mm S F (u2 G 120 (x2 + ((x3 * 12 + x4) * 13 + x5)).toNat v)) (0, 0) Q := by
      intro v ev
      have d := DI_s hv hs hst hm h1 h2 hl hd hw ev
      rw [← hx2] at d
      exact l_135_34 hv hs hst hmf hm hsy (fun h a b => by rw [u2_o (by decide)]; exact hsc h a b) h1 h2 hx2 h3 h3' h4 h4' (by omega) (by omega) d hk
    refine c_123 (by omega) (by omega) (by omega) (by omega) (by omega) (by omega) (fun _ e => ?_)
    subst e
    refine c_124 (by omega) (by omega) (fun v2 e2 => ?_)
    try simp (disch := omega) only [wr_id]
    refine cn_i (fun g => ?_) (fun g => ?_)
    · have he : sEnd (F 100) x3 x4 x5 = 0 := by omega
      obtain ⟨c1, c2⟩ := sEnd_n he
      have mb := hm x1 x3 x4 x5 h1 h2 h3 (by omega) h4 h4' h5 (by omega) he
      refine c_130 (by omega) (by omega) (by omega) (by omega) (fun v3 e3 => ?_)
      rw [hmf x1 x3 x4 x5 h1 h2 hw he] at e3
      obtain ⟨⟨b1, b2⟩, b3⟩ := dr_step (sg := 1) hv hs hst hm h1 h2 hl hw he e3 (by simp) (DI_F hd h3 (by omega))
      refine c_134 hv rfl rfl (by omega) (by omega) (by omega) (by omega) (by omega) (by omega) (by omega) (by omega) (by omega) (by omega) (by omega) (Or.inl rfl) hsy hd.2.1 (fun v4 e4 => ?_)
      rw [if_pos rfl, hx2] at e4
      rw [← e4] at b1 b2 b3
      refine c_132 hv rfl rfl (by omega) (by omega) (by omega) (by omega) (by omega) (by omega) (by omega) (by omega) (by omega) (by omega) (by omega) hsy hd.2.1 (fun v5 e5 => ?_)
      rw [hx2, b3] at e5
      try simp (disch := omega) only [wr_id]
      exact ck_i (by (first | exact jb_i (by (first | assumption | omega | (simp (disch := omega) only [wr_id]; omega))) (by (first | assumption | omega | (simp (disch := omega) only [wr_id]; omega))) | exact jo_i (by omega) | exact jz_i (by omega) | rfl | (simp only [*]; first | rfl | exact jb_i (by (first | assumption | omega | (simp (disch := omega) only [wr_id]; omega))) (by (first | assumption | omega | (simp (disch := omega) only [wr_id]; omega)))))) (rcc v5 e5)
    · refine c_133 hv (by omega) (by omega) (by omega) (by omega) (by omega) (by omega) hsc (fun v6 e6 => ?_)
      try simp (disch := omega) only [wr_id]
      refine ck_i (by (first | exact jb_i (by (first | assumption | omega | (simp (disch := omega) only [wr_id]; omega))) (by (first | assumption | omega | (simp (disch := omega) only [wr_id]; omega))) | exact jo_i (by omega) | exact jz_i (by omega) | rfl | (simp only [*]; first | rfl | exact jb_i (by (first | assumption | omega | (simp (disch := omega) only [wr_id]; omega))) (by (first | assumption | omega | (simp (disch := omega) only [wr_id]; omega)))))) (rcc v6 ?_)
      rw [sDr_e (by omega) (by omega), e6, e2]
termination_by (F 97 31 + 1 - x5).toNat
decreasing_by omega
theorem l_135_20 {Q : Rs → Mm → Prop} {mk : Int → Int → Int → Int → Int} {x1 x2 x3 x4 : Int} {S : FS} {F : FI} {G G0 : FJ} (hv : LV (F 100)) (hs : 0 ≤ F 97 31) (hst : F 97 31 ≤ 12) (hmf : MF (F 116) (F 100) (F 97 31) mk) (hm : MK (F 100) (F 97 31) mk)
    (hsy : ∀ h, 0 ≤ h → h < F 100 3 → F 122 h.toNat = sSy (F 100) h) (hsc : ∀ h, 0 ≤ h → h ≤ F 100 3 → G0 118 h.toNat = sScH (F 100) h) (h1 : 0 ≤ x1) (h2 : x1 < F 100 2) (hx2 : x2 = x1 * 3900) (h3 : 0 ≤ x3) (h3' : x3 ≤ F 100 3) (h4 : 0 ≤ x4) (h4' : x4 ≤ F 100 0)
    (hd : DI (F 100) (F 97 31) mk (fun _ => x1) x1 120 G G0 x3 x4 0)
    (hk : ∀ G', DI (F 100) (F 97 31) mk (fun _ => x1) x1 120 G' G0 (x3 - 1) 0 0 → wph 4 135 13 [.inr (.inr (.inl 97)), .inl x1, .inl x2, .inl (x3 - 1)] [] (mm S F G') (0, 0) Q) :
    wph 4 135 20 [.inr (.inr (.inl 97)), .inl x1, .inl x2, .inl x3, .inl x4] [] (mm S F G) (0, 0) Q := by
  obtain ⟨⟨hv1, hv2⟩, ⟨hv3, hv4⟩, ⟨hv5, hv6⟩, ⟨hv7, hv8⟩, ⟨hv9, hv10⟩, ⟨hv11, hv12⟩, ⟨hv13, hv14⟩, hvw, hvs, hvk, hvc, hvx⟩ := id hv
  refine sg_135_20 ?_
  try simp (disch := omega) only [wr_id]
  refine cn_i (fun h => ?_) (fun h => ?_)
  · refine l_135_34 hv hs hst hmf hm hsy (fun h a b => by rw [hd.2.2 118 (by decide)]; exact hsc h a b) h1 h2 hx2 h3 h3' h4 h (by omega) (by omega) hd (fun G' hd' => ?_)
    exact l_135_20 hv hs hst hmf hm hsy hsc h1 h2 hx2 h3 h3' (by omega) (by omega) hd' hk
  · have := hk G ⟨TI_p hd.1 (by omega), hd.2⟩
    rw [show x3 + -1 = x3 - 1 by omega]
    exact this
termination_by (F 100 0 - x4).toNat
decreasing_by omega
theorem l_135_13 {Q : Rs → Mm → Prop} {mk : Int → Int → Int → Int → Int} {x1 x2 x3 : Int} {S : FS} {F : FI} {G G0 : FJ} (hv : LV (F 100)) (hs : 0 ≤ F 97 31) (hst : F 97 31 ≤ 12) (hmf : MF (F 116) (F 100) (F 97 31) mk) (hm : MK (F 100) (F 97 31) mk)
    (hsy : ∀ h, 0 ≤ h → h < F 100 3 → F 122 h.toNat = sSy (F 100) h) (hsc : ∀ h, 0 ≤ h → h ≤ F 100 3 → G0 118 h.toNat = sScH (F 100) h) (h1 : 0 ≤ x1) (h2 : x1 < F 100 2) (hx2 : x2 = x1 * 3900) (h3 : -1 ≤ x3) (h3' : x3 ≤ F 100 3)
    (hd : DI (F 100) (F 97 31) mk (fun _ => x1) x1 120 G G0 x3 0 0) (hq : ∀ G', DI (F 100) (F 97 31) mk (fun _ => x1) x1 120 G' G0 (-1) 0 0 → Q (.inl none) (mm S F G')) :
    wph 4 135 13 [.inr (.inr (.inl 97)), .inl x1, .inl x2, .inl x3] [] (mm S F G) (0, 0) Q := by
  obtain ⟨⟨hv1, hv2⟩, ⟨hv3, hv4⟩, ⟨hv5, hv6⟩, ⟨hv7, hv8⟩, ⟨hv9, hv10⟩, ⟨hv11, hv12⟩, ⟨hv13, hv14⟩, hvw, hvs, hvk, hvc, hvx⟩ := id hv
  refine sg_135_13 ?_
  refine cn_i (fun h => ?_) (fun h => ?_)
  · have : x3 = -1 := by omega
    subst this
    exact hq G hd
  · refine l_135_20 hv hs hst hmf hm hsy hsc h1 h2 hx2 (by omega) h3' (by omega) (by omega) hd (fun G' hd' => ?_)
    exact l_135_13 hv hs hst hmf hm hsy hsc h1 h2 hx2 (by omega) (by omega) hd' hq
termination_by (x3 + 1).toNat
decreasing_by omega
/-- what one alone would come to -/
theorem c_135 {k : FS → FI → FJ → Prop} {mk : Int → Int → Int → Int → Int} {x1 : Int} {S : FS} {F : FI} {G : FJ} (hv : LV (F 100)) (hs : 0 ≤ F 97 31) (hst : F 97 31 ≤ 12) (hmf : MF (F 116) (F 100) (F 97 31) mk) (hm : MK (F 100) (F 97 31) mk)
    (hsy : ∀ h, 0 ≤ h → h < F 100 3 → F 122 h.toNat = sSy (F 100) h) (hsc : ∀ h, 0 ≤ h → h ≤ F 100 3 → G 118 h.toNat = sScH (F 100) h) (h1 : 0 ≤ x1) (h2 : x1 < F 100 2) (hB : ∀ i, B5 (G 120 i))
    (hk : ∀ G', DI (F 100) (F 97 31) mk (fun _ => x1) x1 120 G' G (-1) 0 0 → k S F G') : calV 4 135 [.inr (.inr (.inl 97)), .inl x1] (mm S F G) k nof := by
  obtain ⟨⟨hv1, hv2⟩, ⟨hv3, hv4⟩, ⟨hv5, hv6⟩, ⟨hv7, hv8⟩, ⟨hv9, hv10⟩, ⟨hv11, hv12⟩, ⟨hv13, hv14⟩, hvw, hvs, hvk, hvc, hvx⟩ := id hv
  refine sg_135_0 ?_
  try simp (disch := omega) only [wr_id]
  exact l_135_13 hv hs hst hmf hm hsy hsc h1 h2 rfl (by omega) (by omega) ⟨TI_0, hB, fun _ _ => rfl⟩ (fun G' hd => ⟨_, _, _, rfl, hk G' hd⟩)
theorem l_136_34 {Q : Rs → Mm → Prop} {mk : Int → Int → Int → Int → Int} {x1 x2 x3 x4 x5 : Int} {S : FS} {F : FI} {G G0 : FJ} (hv : LV (F 100)) (hs : 0 ≤ F 97 31) (hst : F 97 31 ≤ 12) (hmf : MF (F 116) (F 100) (F 97 31) mk) (hm : MK (F 100) (F 97 31) mk)
    (hl : ∀ h, 0 ≤ h → h < F 100 3 → 0 ≤ F 114 h.toNat ∧ F 114 h.toNat < F 100 2)
    (hsy : ∀ h, 0 ≤ h → h < F 100 3 → F 122 h.toNat = sSy (F 100) h) (hsc : ∀ h, 0 ≤ h → h ≤ F 100 3 → G 118 h.toNat = sScH (F 100) h) (h1 : 0 ≤ x1) (h2 : x1 < F 100 2) (hx2 : x2 = x1 * 3900) (h3 : 0 ≤ x3) (h3' : x3 ≤ F 100 3) (h4 : 0 ≤ x4) (h4' : x4 < F 100 0) (h5 : 0 ≤ x5) (h5' : x5 ≤ F 97 31 + 1)
    (hd : DI (F 100) (F 97 31) mk (fun h => F 114 h.toNat) x1 121 G G0 x3 x4 x5)
    (hk : ∀ G', DI (F 100) (F 97 31) mk (fun h => F 114 h.toNat) x1 121 G' G0 x3 (x4 + 1) 0 → wph 4 136 20 [.inr (.inr (.inl 97)), .inl x1, .inl x2, .inl x3, .inl (x4 + 1)] [] (mm S F G') (0, 0) Q) :
    wph 4 136 34 [.inr (.inr (.inl 97)), .inl x1, .inl x2, .inl x3, .inl x4, .inl x5] [] (mm S F G) (0, 0) Q := by
  obtain ⟨⟨hv1, hv2⟩, ⟨hv3, hv4⟩, ⟨hv5, hv6⟩, ⟨hv7, hv8⟩, ⟨hv9, hv10⟩, ⟨hv11, hv12⟩, ⟨hv13, hv14⟩, hvw, hvs, hvk, hvc, hvx⟩ := id hv
  refine sg_136_34 ?_
  try simp (disch := omega) only [wr_id]
  refine cn_i (fun h => ?_) (fun h => ?_)
  · exact hk G ⟨TI_n hd.1 (by omega), hd.2⟩
  · have hw : vs (F 100) (F 97 31) x3 x4 x5 := ⟨h3, h3', h4, h4', h5, by omega⟩
    have rcc : ∀ v, v = sDr (F 100) (F 97 31) mk (fun h => F 114 h.toNat) x1 (F 100 3 - x3).toNat x4 x5 → wph 4 136 34 [.inr (.inr (.inl 97)), .inl x1, .inl x2, .inl x3, .inl x4, .inl (x5 + 1)] [] (mm S F (u2 G 121 (x2 + ((x3 * 12 + x4) * 13 + x5)).toNat v)) (0, 0) Q := by
      intro v ev
      have d := DI_s hv hs hst hm h1 h2 hl hd hw ev
      rw [← hx2] at d
      exact l_136_34 hv hs hst hmf hm hl hsy (fun h a b => by rw [u2_o (by decide)]; exact hsc h a b) h1 h2 hx2 h3 h3' h4 h4' (by omega) (by omega) d hk
    refine c_123 (by omega) (by omega) (by omega) (by omega) (by omega) (by omega) (fun _ e => ?_)
    subst e
    refine c_124 (by omega) (by omega) (fun v2 e2 => ?_)
    try simp (disch := omega) only [wr_id]
    refine cn_i (fun g => ?_) (fun g => ?_)
    · have he : sEnd (F 100) x3 x4 x5 = 0 := by omega
      obtain ⟨c1, c2⟩ := sEnd_n he
      have lh := hl x3 h3 (by omega)
      have mb := hm (F 114 x3.toNat) x3 x4 x5 lh.1 lh.2 h3 (by omega) h4 h4' h5 (by omega) he
      refine ck_i (by (first | exact jb_i (by (first | assumption | omega | (simp (disch := omega) only [wr_id]; omega))) (by (first | assumption | omega | (simp (disch := omega) only [wr_id]; omega))) | exact jo_i (by omega) | exact jz_i (by omega) | rfl | (simp only [*]; first | rfl | exact jb_i (by (first | assumption | omega | (simp (disch := omega) only [wr_id]; omega))) (by (first | assumption | omega | (simp (disch := omega) only [wr_id]; omega)))))) ?_
      refine c_130 (by omega) (by omega) (by omega) (by omega) (fun v3 e3 => ?_)
      rw [hmf (F 114 x3.toNat) x3 x4 x5 lh.1 lh.2 hw he] at e3
      have fin : ∀ sg x7 : Int, (x7 = 0 ∨ x7 = 1) → (if x7 = 0 then 1 else -1) = sg → (sg = if F 114 x3.toNat = x1 then 1 else -1) →
          calI 3 134 [.inr (.inr (.inl 97)), .inr (.inr (.inl 121)), .inl x2, .inl v3, .inl x3, .inl x4, .inl x5, .inl x7] (mm S F G) (fun v4 S4 F4 G4 => calL 2 132 [.inr (.inr (.inl 97)), .inr (.inr (.inl 121)), .inl x2, .inl x3, .inl x4, .inl x5, .inl v4] (mm S4 F4 G4) (fun v5 S5 F5 G5 => chk (ib (x2 + ((x3 * 12 + x4) * 13 + x5)) 19500) (wph 4 136 34 [.inr (.inr (.inl 97)), .inl x1, .inl x2, .inl x3, .inl x4, .inl (x5 + 1)] [] (mm S5 F5 (u2 G5 121 (x2 + ((x3 * 12 + x4) * 13 + x5)).toNat v5)) (0, 0) Q)) nof) nof := by
        intro sg x7 hx7 es hsg
        obtain ⟨⟨b1, b2⟩, b3⟩ := dr_step (sg := sg) (ld := fun h => F 114 h.toNat) hv hs hst hm h1 h2 hl hw he e3 hsg (DI_F hd h3 (by omega))
        refine c_134 hv rfl rfl (by omega) (by omega) (by omega) (by omega) (by omega) (by omega) (by omega) (by omega) (by omega) (by omega) (by omega) hx7 hsy hd.2.1 (fun v4 e4 => ?_)
        rw [es, hx2] at e4
        rw [← e4] at b1 b2 b3
        refine c_132 hv rfl rfl (by omega) (by omega) (by omega) (by omega) (by omega) (by omega) (by omega) (by omega) (by omega) (by omega) (by omega) hsy hd.2.1 (fun v5 e5 => ?_)
        rw [hx2, b3] at e5
        exact ck_i (by (first | exact jb_i (by (first | assumption | omega | (simp (disch := omega) only [wr_id]; omega))) (by (first | assumption | omega | (simp (disch := omega) only [wr_id]; omega))) | exact jo_i (by omega) | exact jz_i (by omega) | rfl | (simp only [*]; first | rfl | exact jb_i (by (first | assumption | omega | (simp (disch := omega) only [wr_id]; omega))) (by (first | assumption | omega | (simp (disch := omega) only [wr_id]; omega)))))) (rcc v5 e5)
      refine ck_i (by (first | exact jb_i (by (first | assumption | omega | (simp (disch := omega) only [wr_id]; omega))) (by (first | assumption | omega | (simp (disch := omega) only [wr_id]; omega))) | exact jo_i (by omega) | exact jz_i (by omega) | rfl | (simp only [*]; first | rfl | exact jb_i (by (first | assumption | omega | (simp (disch := omega) only [wr_id]; omega))) (by (first | assumption | omega | (simp (disch := omega) only [wr_id]; omega)))))) (cn_i (fun z => ?_) (fun z => ?_))
      · exact fin 1 0 (Or.inl rfl) rfl (by rw [if_pos z])
      · exact fin (-1) 1 (Or.inr rfl) rfl (by rw [if_neg z])
    · refine c_133 hv (by omega) (by omega) (by omega) (by omega) (by omega) (by omega) hsc (fun v6 e6 => ?_)
      try simp (disch := omega) only [wr_id]
      refine ck_i (by (first | exact jb_i (by (first | assumption | omega | (simp (disch := omega) only [wr_id]; omega))) (by (first | assumption | omega | (simp (disch := omega) only [wr_id]; omega))) | exact jo_i (by omega) | exact jz_i (by omega) | rfl | (simp only [*]; first | rfl | exact jb_i (by (first | assumption | omega | (simp (disch := omega) only [wr_id]; omega))) (by (first | assumption | omega | (simp (disch := omega) only [wr_id]; omega)))))) (rcc v6 ?_)
      rw [sDr_e (by omega) (by omega), e6, e2]
termination_by (F 97 31 + 1 - x5).toNat
decreasing_by omega
theorem l_136_20 {Q : Rs → Mm → Prop} {mk : Int → Int → Int → Int → Int} {x1 x2 x3 x4 : Int} {S : FS} {F : FI} {G G0 : FJ} (hv : LV (F 100)) (hs : 0 ≤ F 97 31) (hst : F 97 31 ≤ 12) (hmf : MF (F 116) (F 100) (F 97 31) mk) (hm : MK (F 100) (F 97 31) mk)
    (hl : ∀ h, 0 ≤ h → h < F 100 3 → 0 ≤ F 114 h.toNat ∧ F 114 h.toNat < F 100 2)
    (hsy : ∀ h, 0 ≤ h → h < F 100 3 → F 122 h.toNat = sSy (F 100) h) (hsc : ∀ h, 0 ≤ h → h ≤ F 100 3 → G0 118 h.toNat = sScH (F 100) h) (h1 : 0 ≤ x1) (h2 : x1 < F 100 2) (hx2 : x2 = x1 * 3900) (h3 : 0 ≤ x3) (h3' : x3 ≤ F 100 3) (h4 : 0 ≤ x4) (h4' : x4 ≤ F 100 0)
    (hd : DI (F 100) (F 97 31) mk (fun h => F 114 h.toNat) x1 121 G G0 x3 x4 0)
    (hk : ∀ G', DI (F 100) (F 97 31) mk (fun h => F 114 h.toNat) x1 121 G' G0 (x3 - 1) 0 0 → wph 4 136 13 [.inr (.inr (.inl 97)), .inl x1, .inl x2, .inl (x3 - 1)] [] (mm S F G') (0, 0) Q) :
    wph 4 136 20 [.inr (.inr (.inl 97)), .inl x1, .inl x2, .inl x3, .inl x4] [] (mm S F G) (0, 0) Q := by
  obtain ⟨⟨hv1, hv2⟩, ⟨hv3, hv4⟩, ⟨hv5, hv6⟩, ⟨hv7, hv8⟩, ⟨hv9, hv10⟩, ⟨hv11, hv12⟩, ⟨hv13, hv14⟩, hvw, hvs, hvk, hvc, hvx⟩ := id hv
  refine sg_136_20 ?_
  try simp (disch := omega) only [wr_id]
  refine cn_i (fun h => ?_) (fun h => ?_)
  · refine l_136_34 hv hs hst hmf hm hl hsy (fun h a b => by rw [hd.2.2 118 (by decide)]; exact hsc h a b) h1 h2 hx2 h3 h3' h4 h (by omega) (by omega) hd (fun G' hd' => ?_)
    exact l_136_20 hv hs hst hmf hm hl hsy hsc h1 h2 hx2 h3 h3' (by omega) (by omega) hd' hk
  · have := hk G ⟨TI_p hd.1 (by omega), hd.2⟩
    rw [show x3 + -1 = x3 - 1 by omega]
    exact this
termination_by (F 100 0 - x4).toNat
decreasing_by omega
theorem l_136_13 {Q : Rs → Mm → Prop} {mk : Int → Int → Int → Int → Int} {x1 x2 x3 : Int} {S : FS} {F : FI} {G G0 : FJ} (hv : LV (F 100)) (hs : 0 ≤ F 97 31) (hst : F 97 31 ≤ 12) (hmf : MF (F 116) (F 100) (F 97 31) mk) (hm : MK (F 100) (F 97 31) mk)
    (hl : ∀ h, 0 ≤ h → h < F 100 3 → 0 ≤ F 114 h.toNat ∧ F 114 h.toNat < F 100 2)
    (hsy : ∀ h, 0 ≤ h → h < F 100 3 → F 122 h.toNat = sSy (F 100) h) (hsc : ∀ h, 0 ≤ h → h ≤ F 100 3 → G0 118 h.toNat = sScH (F 100) h) (h1 : 0 ≤ x1) (h2 : x1 < F 100 2) (hx2 : x2 = x1 * 3900) (h3 : -1 ≤ x3) (h3' : x3 ≤ F 100 3)
    (hd : DI (F 100) (F 97 31) mk (fun h => F 114 h.toNat) x1 121 G G0 x3 0 0) (hq : ∀ G', DI (F 100) (F 97 31) mk (fun h => F 114 h.toNat) x1 121 G' G0 (-1) 0 0 → Q (.inl none) (mm S F G')) :
    wph 4 136 13 [.inr (.inr (.inl 97)), .inl x1, .inl x2, .inl x3] [] (mm S F G) (0, 0) Q := by
  obtain ⟨⟨hv1, hv2⟩, ⟨hv3, hv4⟩, ⟨hv5, hv6⟩, ⟨hv7, hv8⟩, ⟨hv9, hv10⟩, ⟨hv11, hv12⟩, ⟨hv13, hv14⟩, hvw, hvs, hvk, hvc, hvx⟩ := id hv
  refine sg_136_13 ?_
  refine cn_i (fun h => ?_) (fun h => ?_)
  · have : x3 = -1 := by omega
    subst this
    exact hq G hd
  · refine l_136_20 hv hs hst hmf hm hl hsy hsc h1 h2 hx2 (by omega) h3' (by omega) (by omega) hd (fun G' hd' => ?_)
    exact l_136_13 hv hs hst hmf hm hl hsy hsc h1 h2 hx2 (by omega) (by omega) hd' hq
termination_by (x3 + 1).toNat
decreasing_by omega
/-- what would come, led by others to one's worst -/
theorem c_136 {k : FS → FI → FJ → Prop} {mk : Int → Int → Int → Int → Int} {x1 : Int} {S : FS} {F : FI} {G : FJ} (hv : LV (F 100)) (hs : 0 ≤ F 97 31) (hst : F 97 31 ≤ 12) (hmf : MF (F 116) (F 100) (F 97 31) mk) (hm : MK (F 100) (F 97 31) mk)
    (hl : ∀ h, 0 ≤ h → h < F 100 3 → 0 ≤ F 114 h.toNat ∧ F 114 h.toNat < F 100 2)
    (hsy : ∀ h, 0 ≤ h → h < F 100 3 → F 122 h.toNat = sSy (F 100) h) (hsc : ∀ h, 0 ≤ h → h ≤ F 100 3 → G 118 h.toNat = sScH (F 100) h) (h1 : 0 ≤ x1) (h2 : x1 < F 100 2) (hB : ∀ i, B5 (G 121 i))
    (hk : ∀ G', DI (F 100) (F 97 31) mk (fun h => F 114 h.toNat) x1 121 G' G (-1) 0 0 → k S F G') : calV 4 136 [.inr (.inr (.inl 97)), .inl x1] (mm S F G) k nof := by
  obtain ⟨⟨hv1, hv2⟩, ⟨hv3, hv4⟩, ⟨hv5, hv6⟩, ⟨hv7, hv8⟩, ⟨hv9, hv10⟩, ⟨hv11, hv12⟩, ⟨hv13, hv14⟩, hvw, hvs, hvk, hvc, hvx⟩ := id hv
  refine sg_136_0 ?_
  try simp (disch := omega) only [wr_id]
  exact l_136_13 hv hs hst hmf hm hl hsy hsc h1 h2 rfl (by omega) (by omega) ⟨TI_0, hB, fun _ _ => rfl⟩ (fun G' hd => ⟨_, _, _, rfl, hk G' hd⟩)
