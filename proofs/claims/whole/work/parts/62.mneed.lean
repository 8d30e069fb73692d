/-! ===== the reference answers: visits and needs ===== -/
/-- how much of the chance is at a place in an hour -/
noncomputable def sVs (l : Nat → Int) (T : Int → Int → Int → Int) (st p : Int) (h : Nat) : Int := aS (fun n => sMs l T st h p n * sScH l h) (st + 1).toNat
theorem sVs_b {l : Nat → Int} {T : Int → Int → Int → Int} {st p : Int} {h : Nat} (hv : LV l) (hs : 0 ≤ st) (hst : st ≤ 12) (hT : TK l T st) (hh : (h : Int) ≤ l 3) (h1 : 0 ≤ p) (h2 : p < l 0) : ∀ n : Nat, (n : Int) ≤ st + 1 → 0 ≤ aS (fun n => sMs l T st h p n * sScH l h) n ∧ aS (fun n => sMs l T st h p n * sScH l h) n ≤ (n : Int) * 1099511627776 := by
  intro n
  induction n with
  | zero => intro _; exact ⟨Int.le_refl _, Int.le_refl _⟩
  | succ n ih =>
    intro a
    have i := ih (by omega)
    have mb := sMs_b (h := h) (p := p) (n := n) hv hs hst hT hh h1 h2 (by omega) (by omega)
    have sb := (sScH_b hv (h := (h : Int)) (by omega) hh).1
    have m0 : 0 ≤ sMs l T st h p n * sScH l h := Int.mul_nonneg mb.1 (by omega)
    have e : aS (fun n => sMs l T st h p n * sScH l h) (n + 1) = aS (fun n => sMs l T st h p n * sScH l h) n + sMs l T st h p n * sScH l h := rfl
    rw [e]
    omega
set_option maxRecDepth 100000 in
theorem l_184_64 {Q : Rs → Mm → Prop} {T : Int → Int → Int → Int} {st p A : Int} {h : Nat} {S : FS} {F : FI} {G : FJ} (hv : LV (F 100)) (hs : 0 ≤ st) (hst : st ≤ 12) (e31 : F 97 31 = st) (hT : TK (F 100) T st) (hM : MB (F 100) T st G) (hc : G 118 ((h : Int)).toNat = sScH (F 100) h) (hh : (h : Int) ≤ F 100 3)
    (h1 : 0 ≤ p) (h2 : p < F 100 0) (hA : 0 ≤ A) (hA2 : A ≤ 1099511627776000) (hq : wph 8 184 50 [.inr (.inr (.inl 97)), .inl p, .inr (.inl (A + sVs (F 100) T st p h)), jk, .inl ((h : Int) + 1)] [] (mm S F G) (0, 0) Q) :
    ∀ (K n : Nat), (K : Int) = st + 1 - n → wph 8 184 64 [.inr (.inr (.inl 97)), .inl p, .inr (.inl (A + aS (fun n => sMs (F 100) T st h p n * sScH (F 100) h) n)), jk, .inl (h : Int), .inl (n : Int)] [] (mm S F G) (0, 0) Q := by
  obtain ⟨⟨hv1, hv2⟩, ⟨hv3, hv4⟩, ⟨hv5, hv6⟩, ⟨hv7, hv8⟩, ⟨hv9, hv10⟩, ⟨hv11, hv12⟩, ⟨hv13, hv14⟩, hvw, hvs, hvk, hvc, hvx⟩ := id hv
  intro K
  induction K with
  | zero =>
    intro n hK
    refine sg_184_64 ?_
    try simp (disch := omega) only [wr_id]
    rw [e31]
    refine cn_i (fun g => ?_) (fun g => by omega)
    unfold sVs at hq
    rw [show (st + 1).toNat = n by omega] at hq
    exact hq
  | succ K ih =>
    intro n hK
    have ih := ih (n + 1) (by omega)
    have hc' : ((n + 1 : Nat) : Int) = (n : Int) + 1 := by omega
    rw [hc'] at ih
    have w : vs (F 100) st h p n := ⟨by omega, hh, h1, h2, by omega, by omega⟩
    have eM : G 127 (((h : Int) * 12 + p) * 13 + n).toNat = sMs (F 100) T st h p n := by
      have := hM h p n w
      rw [this, show ((h : Int)).toNat = h by omega]
    have mb := sMs_b (h := h) (p := p) (n := n) hv hs hst hT hh h1 h2 (by omega) (by omega)
    have sb := sScH_b hv (h := (h : Int)) (by omega) hh
    have m0 : 0 ≤ sMs (F 100) T st h p n * sScH (F 100) h := Int.mul_nonneg mb.1 (by omega)
    have pb := sVs_b (p := p) hv hs hst hT hh h1 h2 n (by omega)
    refine sg_184_64 ?_
    try simp (disch := omega) only [wr_id]
    rw [e31]
    refine cn_i (fun g => by omega) (fun _ => ?_)
    refine c_123 (by omega) (by omega) (by omega) (by omega) (by omega) (by omega) (fun _ ev => ?_)
    subst ev
    refine ck_i (by (first | exact jb_i (by (first | assumption | omega | (simp (disch := omega) only [wr_id]; omega))) (by (first | assumption | omega | (simp (disch := omega) only [wr_id]; omega))) | exact jo_i (by omega) | exact jz_i (by omega) | rfl | (simp only [*]; first | rfl | exact jb_i (by (first | assumption | omega | (simp (disch := omega) only [wr_id]; omega))) (by (first | assumption | omega | (simp (disch := omega) only [wr_id]; omega)))))) (ck_i (by (first | exact jb_i (by (first | assumption | omega | (simp (disch := omega) only [wr_id]; omega))) (by (first | assumption | omega | (simp (disch := omega) only [wr_id]; omega))) | exact jo_i (by omega) | exact jz_i (by omega) | rfl | (simp only [*]; first | rfl | exact jb_i (by (first | assumption | omega | (simp (disch := omega) only [wr_id]; omega))) (by (first | assumption | omega | (simp (disch := omega) only [wr_id]; omega)))))) ?_)
    rw [eM, hc, wl_id (a := sMs (F 100) T st h p n * sScH (F 100) h) (by omega) (by omega), wl_id (by omega) (by omega), Int.add_assoc]
    exact ih
theorem l_184_50 {Q : Rs → Mm → Prop} {T : Int → Int → Int → Int} {st p : Int} {S : FS} {F : FI} {G : FJ} (hv : LV (F 100)) (hs : 0 ≤ st) (hst : st ≤ 12) (e31 : F 97 31 = st) (hT : TK (F 100) T st) (hM : MB (F 100) T st G) (hc : ∀ h, 0 ≤ h → h ≤ F 100 3 → G 118 h.toNat = sScH (F 100) h)
    (h1 : 0 ≤ p) (h2 : p < F 100 0) (hq : Q (.inl (some (.inr (.inl (aS (sVs (F 100) T st p) ((F 100 3).toNat + 1)))))) (mm S F G)) :
    ∀ (K h : Nat), (K : Int) = F 100 3 + 1 - h → (0 ≤ aS (sVs (F 100) T st p) h ∧ aS (sVs (F 100) T st p) h ≤ (h : Int) * 14293651161088) → wph 8 184 50 [.inr (.inr (.inl 97)), .inl p, .inr (.inl (aS (sVs (F 100) T st p) h)), jk, .inl (h : Int)] [] (mm S F G) (0, 0) Q := by
  obtain ⟨⟨hv1, hv2⟩, ⟨hv3, hv4⟩, ⟨hv5, hv6⟩, ⟨hv7, hv8⟩, ⟨hv9, hv10⟩, ⟨hv11, hv12⟩, ⟨hv13, hv14⟩, hvw, hvs, hvk, hvc, hvx⟩ := id hv
  intro K
  induction K with
  | zero =>
    intro h hK hb
    refine sg_184_50 ?_
    refine cn_i (fun g => ?_) (fun g => by omega)
    rw [show (F 100 3).toNat + 1 = h by omega] at hq
    exact hq
  | succ K ih =>
    intro h hK hb
    refine sg_184_50 ?_
    refine cn_i (fun g => by omega) (fun _ => ?_)
    have vb := sVs_b (p := p) (h := h) hv hs hst hT (by omega) h1 h2 (st + 1).toNat (by omega)
    have e1 : aS (sVs (F 100) T st p) (h + 1) = aS (sVs (F 100) T st p) h + aS (fun n => sMs (F 100) T st h p n * sScH (F 100) h) (st + 1).toNat := rfl
    have ih := ih (h + 1) (by omega) (by rw [e1]; omega)
    have z := l_184_64 (A := aS (sVs (F 100) T st p) h) hv hs hst e31 hT hM (hc h (by omega) (by omega)) (by omega) h1 h2 (by omega) (by omega) ih (st + 1).toNat 0 (by omega)
    rw [show aS (sVs (F 100) T st p) h + aS (fun n => sMs (F 100) T st h p n * sScH (F 100) h) 0 = aS (sVs (F 100) T st p) h from Int.add_zero _] at z
    exact z
theorem q_184 {k : Int → FS → FI → FJ → Prop} {x1 : Int} {S : FS} {F : FI} {G : FJ} (hM : F 97 12 ≠ 0 → MV F G) (noL : F 97 12 = 0 → k 0 S (rfs (zF F) 2 3) G) (noA : F 97 12 ≠ 0 → ¬ (0 ≤ x1 ∧ x1 < F 100 0) → k 0 S (rfs (zF F) 1 2) G)
    (ok : F 97 12 ≠ 0 → 0 ≤ x1 ∧ x1 < F 100 0 → ∀ F' G', QP F F' G G' → k (aS (sVs (F 100) (sTk (F 100) (cBs F) (F 100 4)) (F 100 4) x1) ((F 100 3).toNat + 1)) S F' G') : calL 8 184 [.inr (.inr (.inl 97)), .inl x1] (mm S F G) k nof := by
  refine sg_184_0 ?_
  rw [show u2 F 97 0 0 = zF F from rfl]
  refine c_109 z_0 (by decide) (fun hl => cn_1 ?_) (fun hl => cn_0 ⟨_, _, _, rfl, noL (here_z hl)⟩)
  have hl := here_n hl
  have hm := hM hl
  have hv := hm.1
  have hz := MV_z hm
  obtain ⟨⟨hv1, hv2⟩, ⟨hv3, hv4⟩, ⟨hv5, hv6⟩, ⟨hv7, hv8⟩, ⟨hv9, hv10⟩, ⟨hv11, hv12⟩, ⟨hv13, hv14⟩, hvw, hvs, hvk, hvc, hvx⟩ := id hv
  have e0 : zF F 100 = F 100 := z_n (by decide)
  have cv : CV (F 100) (F 100 4) (cBs F) := sCf_v (w := mL F) (F 100 4) hv hm.2.1
  rw [e0]
  try simp (disch := omega) only [wr_id]
  refine c_70 (fun ha => ?_) (fun ha => ?_)
  · refine c_69 z_0 (by decide) (by decide) (by decide) (fun _ => cn_1 ?_) (fun q => absurd q (by decide))
    refine c_144 hz (fun F1 G1 hd ht => ?_)
    rw [show sCf (zF F 100) (zF F 112) (mL (zF F)) = cBs F from z_B F] at hd ht
    refine c_flow hz hd (by rw [e0]; exact cv) ht (fun G2 hd2 hb => ?_)
    have f100 : F1 100 = F 100 := (hd2.1.1 100 kp100).trans e0
    have f31 : F1 97 31 = F 100 4 := hd2.2.2.2.1.trans (by rw [e0])
    rw [e0] at hb
    have tk := TK_c hv cv
    refine l_184_50 (T := sTk (F 100) (cBs F) (F 100 4)) (st := F 100 4) (by rw [f100]; exact hv) (by omega) (by omega) f31 (by rw [f100]; exact tk) (by rw [f100]; exact hb) (fun h a b => ?_) ha.1 (by rw [f100]; omega) ⟨_, _, _, rfl, ?_⟩ ((F1 100 3).toNat + 1) 0 (by rw [f100]; omega) ⟨Int.le_refl _, Int.le_refl _⟩
    · rw [f100] at b ⊢
      have := hd2.2.2.2.2.2.1.2.2.1 h a (by rw [e0]; exact b)
      rw [e0] at this
      exact this
    · rw [f100]
      exact ok hl (by omega) F1 G2 (QP_d hd2 rfl)
  · exact c_69 z_0 (by decide) (by decide) (by decide) (fun q => absurd rfl q) (fun _ => cn_0 ⟨_, _, _, rfl, noA hl (fun x => ha (by omega))⟩)
/-- between the asked and what is tried instead: what of the configuration stands in memory -/
def XR (F F1 : FI) (G G1 : FJ) (c : Cf) : Prop := PM F F1 G G1 ∧ ((∀ h, 0 ≤ h → h < F 100 3 → F1 114 h.toNat = c.1 h) ∧ (∀ k, 0 ≤ k → k < F 100 2 → F1 115 k.toNat = c.2.1 k) ∧ (∀ h, 0 ≤ h → h < F 100 3 → F1 112 (5 + h).toNat = c.2.2.1 h)) ∧ (F1 97 33, F1 97 34, F1 97 35) = c.2.2.2.2 ∧ GB G1
theorem XR_d {F F1 : FI} {G G1 : FJ} {c : Cf} (hd : RD F F1 G G1 c) : XR F F1 G G1 c := ⟨hd.1, ⟨hd.2.2.2.2.1.1, hd.2.2.2.2.1.2.1, hd.2.2.2.2.1.2.2.1⟩, hd.2.2.2.2.1.2.2.2.2, hd.2.2.2.2.2.2⟩
theorem XR_u {F F1 : FI} {G G1 : FJ} {c : Cf} {i : Nat} {v : Int} (hx : XR F F1 G G1 c) (hi : i = 28 ∨ i = 31 ∨ i = 32) : XR F (u2 F1 97 i v) G G1 c := by
  obtain ⟨⟨p1, p2, p3⟩, ⟨c1, c2, c3⟩, c4, g⟩ := hx
  refine ⟨⟨fun a ha => ?_, fun j hj => ?_, p3⟩, ⟨fun h a b => ?_, fun k a b => ?_, fun h a b => ?_⟩, ?_, g⟩
  · rw [u2_o ha.1]; exact p1 a ha
  · unfold kpF at hj
    rw [u2_n (by omega)]; exact p2 j (by unfold kpF; omega)
  · rw [u2_o (by decide)]; exact c1 h a b
  · rw [u2_o (by decide)]; exact c2 k a b
  · rw [u2_o (by decide)]; exact c3 h a b
  · rw [u2_n (by omega), u2_n (by omega), u2_n (by omega)]; exact c4
noncomputable def cMk (F : FI) (c : Cf) (sk : Int) : Cf := (c.1, c.2.1, c.2.2.1, sMask (F 100) (mL F) sk, c.2.2.2.2)
theorem cMk_v {F : FI} {c : Cf} {st st' sk : Int} (hv : LV (F 100)) (hc : CV (F 100) st c) : CV (F 100) st' (cMk F c sk) := by
  obtain ⟨c1, c2, c3, c4, c5⟩ := hc
  exact ⟨c1, c2, MK_mask hv _ _ _, c4, c5⟩
/-- learn and play anew -/
theorem c_again {k : FS → FI → FJ → Prop} {S : FS} {F F1 : FI} {G G1 : FJ} {c : Cf} {st : Int} (hm : MV F G) (hx : XR F F1 G G1 c) (hc : CV (F 100) st c) (hs : 0 ≤ F1 97 31) (hst : F1 97 31 ≤ 12)
    (hk : ∀ F2 G2, XR F F2 G G2 c → (∀ i, F2 97 i = F1 97 i) → RDY (F 100) (F1 97 31) (sMask (F 100) (mL F) (F1 97 32)) F2 G2 → TB (F 100) (cMk F c (F1 97 32)) (F1 97 31) F2 G2 → k S F2 G2) :
    calV 5 129 [.inr (.inr (.inl 97))] (mm S F1 G1) (fun S2 F2 G2 => calV 6 142 [.inr (.inr (.inl 97))] (mm S2 F2 G2) k nof) nof := by
  have hv := hm.1
  obtain ⟨⟨hv1, hv2⟩, ⟨hv3, hv4⟩, ⟨hv5, hv6⟩, ⟨hv7, hv8⟩, ⟨hv9, hv10⟩, ⟨hv11, hv12⟩, ⟨hv13, hv14⟩, hvw, hvs, hvk, hvc, hvx⟩ := id hv
  obtain ⟨xp, ⟨x1, x2, x3⟩, x4, xg⟩ := hx
  have e100 := xp.1 100 kp100
  have eL := PM_L xp
  refine c_129 (by rw [e100]; exact hv) (by rw [eL]; exact hm.2.2.1) hs hst xg.2.1 (fun F2 G2 hr hf hg => ?_)
  rw [e100, eL] at hr
  have f97 : F2 97 = F1 97 := hf 97 (by decide) (by decide) (by decide) (by decide)
  have f100 : F2 100 = F 100 := (hf 100 (by decide) (by decide) (by decide) (by decide)).trans e100
  have f112 : F2 112 = F1 112 := hf 112 (by decide) (by decide) (by decide) (by decide)
  have f114 : F2 114 = F1 114 := hf 114 (by decide) (by decide) (by decide) (by decide)
  have f115 : F2 115 = F1 115 := hf 115 (by decide) (by decide) (by decide) (by decide)
  have p112 := xp.1 112 kp112
  have ce : CE (F 100) (F1 97 31) 0 (mC F2 (sMask (F 100) (mL F) (F1 97 32))) (cMk F c (F1 97 32)) := by
    refine ⟨fun h a b => ?_, fun k a b => ?_, fun h a b => ?_, fun _ _ _ _ _ _ _ _ => rfl, ?_⟩
    · show F2 114 h.toNat = _
      rw [f114]; exact x1 h a b
    · show F2 115 k.toNat = _
      rw [f115]; exact x2 k a b
    · show F2 112 (5 + h).toNat = _
      rw [f112]; exact x3 h a b
    · show (F2 97 33, F2 97 34, F2 97 35) = c.2.2.2.2
      rw [f97]; exact x4
  have cm : CV (F 100) (F1 97 31) (cMk F c (F1 97 32)) := cMk_v hv hc
  have cc : CV (F 100) (F1 97 31) (mC F2 (sMask (F 100) (mL F) (F1 97 32))) := by
    refine ⟨fun h a b => by rw [ce.1 h a b]; exact cm.1 h a b, fun h a b => ?_, MK_mask hv _ _ _, by rw [ce.2.2.2.2]; exact cm.2.2.2.1, by rw [ce.2.2.2.2]; exact cm.2.2.2.2⟩
    show 0 ≤ F2 112 _ ∧ F2 112 _ ≤ _
    rw [f112, p112]
    exact hm.2.1.2.1 h a b
  refine c_142 (mk := sMask (F 100) (mL F) (F1 97 32)) (by rw [f100]; exact hv) (by rw [f97]; exact hs) (by rw [f97]; exact hst) (by rw [f100, f97]; exact cc) (by rw [f100, f97]; exact hr) (by rw [hg 119 (by decide) (by decide)]; exact xg.1) (by rw [hg 121 (by decide) (by decide)]; exact xg.2.2) (fun F3 G3 hp => ?_)
  rw [f100, f97] at hp
  obtain ⟨p1, p2, p3, p4, p5, p6⟩ := hp
  have g97 : F3 97 = F1 97 := (p5 97 (by decide) (by decide)).trans f97
  refine hk F3 G3 ⟨⟨fun a ha => ?_, fun i hi => by rw [g97]; exact xp.2.1 i hi, fun a ha => ?_⟩, ⟨fun h a b => ?_, fun k a b => ?_, fun h a b => ?_⟩, by rw [g97]; exact x4, ⟨p3, fun i => ?_, p4⟩⟩ (fun i => by rw [g97]) (RDY_c hr (p5 _ (by decide) (by decide)) (p5 _ (by decide) (by decide)) (p6 _ (by decide) (by decide)) (p6 _ (by decide) (by decide))) ⟨fun h p n w => ?_, fun k h p n k1 k2 w => ?_⟩
  · have ha' := ha
    unfold kpM at ha'
    rw [p5 a (by omega) (by omega), hf a (by omega) (by omega) (by omega) (by omega)]
    exact xp.1 a ha
  · have ha' := ha
    unfold kpG at ha'
    rw [p6 a (by omega) (by omega), hg a (by omega) (by omega)]
    exact xp.2.2 a ha
  · rw [p5 114 (by decide) (by decide), f114]; exact x1 h a b
  · rw [p5 115 (by decide) (by decide), f115]; exact x2 k a b
  · rw [p5 112 (by decide) (by decide), f112]; exact x3 h a b
  · rw [p6 120 (by decide) (by decide)]; exact hr.2.2.2.2 i
  · rw [p1 h p n w]
    exact sTk_ce hv hs hst (Int.le_refl _) cc cm ce w.1 w
  · rw [p2 k h p n k1 k2 w]
    obtain ⟨w1, w2, w3, w4, w5, w6⟩ := w
    exact sW_cc hv hs hst (Int.le_refl _) cc cm ce _ (by omega) k p n k1 k2 w3 w4 w5 w6

/-- the least number of which it is so, if not above -/
noncomputable def sNf (P : Int → Prop) : Nat → Int
  | 0 => -1
  | k + 1 => if sNf P k = -1 then @ite _ (P ((k : Int) + 1)) (Classical.propDecidable _) ((k : Int) + 1) (-1) else sNf P k
theorem sNf_k {P : Int → Prop} {j : Nat} (h : sNf P j ≠ -1) : ∀ {k : Nat}, j ≤ k → sNf P k = sNf P j := by
  intro k
  induction k with
  | zero => intro a; rw [Nat.le_zero.mp a]
  | succ k ih =>
    intro a
    by_cases q : j = k + 1
    · rw [q]
    · have i := ih (by omega)
      show (if sNf P k = -1 then _ else sNf P k) = _
      rw [if_neg (by rw [i]; exact h), i]
/-- with so much in store they are sure to be there -/
def sSu (F : FI) (n : Int) : Prop := sCh (F 100) (cBs F) n 1 (F 100 3).toNat (F 100 6) n = sScH (F 100) 0
theorem l_185_23 {Q : Rs → Mm → Prop} {S : FS} {F : FI} {G : FJ} (hm : MV F G) (hq : ∀ F2 G2, XR F F2 G G2 (cBs F) → F2 97 32 = -1 → Q (.inl (some (.inl (sNf (sSu F) 12)))) (mm S (u2 F2 97 28 0) G2)) :
    ∀ (K k : Nat) (F1 : FI) (G1 : FJ), (K : Int) = 12 - k → XR F F1 G G1 (cBs F) → F1 97 32 = -1 → wph 7 185 23 [.inr (.inr (.inl 97)), .inl (sNf (sSu F) k), .inl ((k : Int) + 1)] [] (mm S F1 G1) (0, 0) Q := by
  have hv := hm.1
  obtain ⟨⟨hv1, hv2⟩, ⟨hv3, hv4⟩, ⟨hv5, hv6⟩, ⟨hv7, hv8⟩, ⟨hv9, hv10⟩, ⟨hv11, hv12⟩, ⟨hv13, hv14⟩, hvw, hvs, hvk, hvc, hvx⟩ := id hv
  intro K
  induction K with
  | zero =>
    intro k F1 G1 hK hx h32
    refine sg_185_23 ?_
    refine cn_i (fun g => ?_) (fun g => by omega)
    rw [show k = 12 by omega]
    exact hq F1 G1 hx h32
  | succ K ih =>
    intro k F1 G1 hK hx h32
    refine sg_185_23 ?_
    refine cn_i (fun g => by omega) (fun _ => ?_)
    refine cn_i (fun g => ?_) (fun g => ?_)
    · have cv : CV (F 100) (F 100 4) (cBs F) := sCf_v (w := mL F) (F 100 4) hv hm.2.1
      have n31 : u2 F1 97 31 ((k : Int) + 1) 97 31 = (k : Int) + 1 := u2_s
      have n32 : u2 F1 97 31 ((k : Int) + 1) 97 32 = -1 := by rw [u2_n (by decide)]; exact h32
      refine c_again hm (XR_u hx (Or.inr (Or.inl rfl))) cv (by rw [n31]; omega) (by rw [n31]; omega) (fun F2 G2 hx2 f97 hr ht => ?_)
      rw [n31, n32] at hr ht
      have ht : TB (F 100) (cBs F) ((k : Int) + 1) F2 G2 := ht
      have g31 : F2 97 31 = (k : Int) + 1 := (f97 31).trans n31
      have g32 : F2 97 32 = -1 := (f97 32).trans n32
      have f100 : F2 100 = F 100 := hx2.1.1 100 kp100
      have cv2 : CV (F 100) ((k : Int) + 1) (cBs F) := sCf_v (w := mL F) _ hv hm.2.1
      have tk := TK_c hv cv2
      refine c_179 (T := sTk (F 100) (cBs F) ((k : Int) + 1)) (by rw [f100]; exact hv) (by rw [g31]; omega) (by rw [g31]; omega) (by rw [f100, g31]; exact tk) (fun h p n w _ => ?_) (fun h a b => ?_) (fun G3 hM ho => ?_)
      · rw [f100, g31] at w
        exact ht.1 h p n w
      · rw [f100] at b ⊢
        exact hr.2.1 h a b
      · rw [f100, g31] at hM
        have g118 : G3 118 = G2 118 := ho 118 (by decide)
        have hx3 : XR F F2 G G3 (cBs F) := by
          obtain ⟨⟨p1, p2, p3⟩, c1, c4, gb⟩ := hx2
          refine ⟨⟨p1, p2, fun a ha => (ho a (by unfold kpG at ha; omega)).trans (p3 a ha)⟩, c1, c4, ⟨fun i => ?_, fun i => ?_, fun i => ?_⟩⟩
          · rw [ho 119 (by decide)]; exact gb.1 i
          · rw [ho 120 (by decide)]; exact gb.2.1 i
          · rw [ho 121 (by decide)]; exact gb.2.2 i
        refine c_181 (T := sTk (F 100) (cBs F) ((k : Int) + 1)) (st := (k : Int) + 1) (by rw [f100]; exact hv) (by omega) (by omega) g31 (by rw [f100]; exact tk) (by rw [f100]; exact hM) (fun h a b => ?_) (fun v ev => ?_)
        · rw [f100] at b ⊢
          rw [g118]
          exact hr.2.2.1 h a b
        rw [f100, sCh_sum hv (by omega) (by omega) tk (by decide)] at ev
        have s0 : G3 118 0 = sScH (F 100) 0 := by
          rw [g118]
          exact hr.2.2.1 0 (by omega) (by omega)
        rw [s0]
        try simp (disch := omega) only [wr_id]
        have e1 : sNf (sSu F) (k + 1) = @ite _ (sSu F ((k : Int) + 1)) (Classical.propDecidable _) ((k : Int) + 1) (-1) := by
          show (if sNf (sSu F) k = -1 then _ else _) = _
          rw [if_pos g]
        have ih := ih (k + 1) F2 G3 (by omega) hx3 g32
        have hc' : ((k + 1 : Nat) : Int) = (k : Int) + 1 := by omega
        rw [hc', e1] at ih
        refine cn_i (fun z => ?_) (fun z => ?_)
        · rw [if_pos (show sSu F ((k : Int) + 1) from ev.symm.trans (lc_z.1 z))] at ih
          exact ih
        · rw [if_neg (fun r : sSu F ((k : Int) + 1) => z (lc_z.2 (ev.trans r)))] at ih
          rw [g]
          exact ih
    · rw [← sNf_k g (k := 12) (by omega)]
      exact hq F1 G1 hx h32
theorem q_185 {k : Int → FS → FI → FJ → Prop} {S : FS} {F : FI} {G : FJ} (hM : F 97 12 ≠ 0 → MV F G) (noL : F 97 12 = 0 → k 0 S (rfs (zF F) 1 3) G) (ok : F 97 12 ≠ 0 → ∀ F' G', QP F F' G G' → k (sNf (sSu F) 12) S F' G') : calI 7 185 [.inr (.inr (.inl 97))] (mm S F G) k nof := by
  refine sg_185_0 ?_
  rw [show u2 F 97 0 0 = zF F from rfl]
  refine c_109 z_0 (by decide) (fun hl => cn_1 ?_) (fun hl => cn_0 ⟨_, _, _, rfl, noL (here_z hl)⟩)
  have hl := here_n hl
  have hm := hM hl
  have hv := hm.1
  have hz := MV_z hm
  obtain ⟨⟨hv1, hv2⟩, ⟨hv3, hv4⟩, ⟨hv5, hv6⟩, ⟨hv7, hv8⟩, ⟨hv9, hv10⟩, ⟨hv11, hv12⟩, ⟨hv13, hv14⟩, hvw, hvs, hvk, hvc, hvx⟩ := id hv
  have e0 : zF F 100 = F 100 := z_n (by decide)
  have eS : sSu (zF F) = sSu F := by
    funext n
    unfold sSu
    rw [e0, z_B]
  refine c_143 hz (fun F1 G1 hd => ?_)
  have hd : RD (zF F) F1 G G1 (cBs (zF F)) := hd
  refine l_185_23 hz (fun F2 G2 hx h32 => ⟨_, _, _, rfl, ?_⟩) 12 0 F1 G1 (by omega) (XR_d hd) hd.2.2.1
  rw [eS]
  have hx' := XR_u (i := 28) (v := 0) hx (Or.inl rfl)
  have h5 : (F2 97 33, F2 97 34, F2 97 35) = ((-1 : Int), (-1 : Int), (0 : Int)) := hx.2.2.1
  have h5' := Prod.mk.inj h5
  have h6 := Prod.mk.inj h5'.2
  refine ok hl _ G2 ⟨hx'.1, ⟨⟨?_, ?_, ?_, ?_⟩, Or.inl u2_s, fun q => ?_⟩, hx'.2.2.2⟩
  · rw [u2_n (by decide)]; exact h32
  · rw [u2_n (by decide)]; exact h5'.1
  · rw [u2_n (by decide)]; exact h6.1
  · rw [u2_n (by decide)]; exact h6.2
  · rw [u2_s] at q
    exact absurd q (by decide)
