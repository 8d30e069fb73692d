/-! ===== the reference answers: chances ===== -/
/-- what of the chance ends so at an index -/
noncomputable def sAe (l : Nat → Int) (T : Int → Int → Int → Int) (st e : Int) (h : Nat) (i : Nat) : Int := iW (iv l st i) (sMs l T st h (iP i) (iN i) * iW (sEnd l h (iP i) (iN i) = e) (sScH l h))
theorem sAe_0 {l : Nat → Int} {T : Int → Int → Int → Int} {st e : Int} {h i : Nat} (hv : LV l) (hT : TK l T st) (hh : (h : Int) ≤ l 3) : 0 ≤ sAe l T st e h i := by
  unfold sAe
  rcases iW_2 (iv l st i) with ⟨q, e⟩ | ⟨q, e⟩
  · rw [e]
    refine Int.mul_nonneg (sMs_n hv hT hh _ _) ?_
    have := (sScH_b hv (h := (h : Int)) (by omega) hh).1
    rcases iW_2 (sEnd l h (iP i) (iN i) = _) with ⟨q, e⟩ | ⟨q, e⟩ <;> rw [e] <;> omega
  · rw [e]; exact Int.le_refl _
theorem sArr_b {l : Nat → Int} {T : Int → Int → Int → Int} {st e : Int} {h : Nat} (hv : LV l) (hs : 0 ≤ st) (hst : st ≤ 12) (hT : TK l T st) (hh : (h : Int) ≤ l 3) : 0 ≤ sArr l T st e h ∧ sArr l T st e h ≤ 1099511627776 := by
  obtain ⟨⟨hv1, hv2⟩, ⟨hv3, hv4⟩, ⟨hv5, hv6⟩, ⟨hv7, hv8⟩, ⟨hv9, hv10⟩, ⟨hv11, hv12⟩, ⟨hv13, hv14⟩, hvw, hvs, hvk, hvc, hvx⟩ := id hv
  refine ⟨sArr_0 hv hT hh, ?_⟩
  have c := (sScH_b hv (h := (h : Int)) (by omega) (by omega)).1
  have d := (sScH_b hv (h := 0) (by omega) (by omega)).2
  refine Int.le_trans ?_ (Int.le_trans (sMs_t hv hs hst hT hh) d)
  rw [← hS_mul]
  refine hS_le (fun p n _ _ _ _ => Int.mul_le_mul_of_nonneg_left ?_ (sMs_n hv hT hh p n))
  rcases iW_2 (sEnd l h p n = e) with ⟨r, e⟩ | ⟨r, e⟩ <;> rw [e] <;> omega
set_option maxRecDepth 100000 in
theorem l_180_19 {Q : Rs → Mm → Prop} {T : Int → Int → Int → Int} {st e : Int} {h : Nat} {S : FS} {F : FI} {G : FJ} (hv : LV (F 100)) (hs : 0 ≤ st) (hst : st ≤ 12) (e31 : F 97 31 = st) (hT : TK (F 100) T st) (hM : MB (F 100) T st G) (hc : G 118 ((h : Int)).toNat = sScH (F 100) h) (hh : (h : Int) ≤ F 100 3)
    (p : Nat) (hp : (p : Int) < F 100 0) (hq : wph 1 180 5 [.inr (.inr (.inl 97)), .inl (h : Int), .inl e, .inr (.inl (aS (sAe (F 100) T st e h) ((p + 1) * 13))), jk, .inl ((p : Int) + 1)] [] (mm S F G) (0, 0) Q) :
    ∀ (K n : Nat), (K : Int) = st + 1 - n → wph 1 180 19 [.inr (.inr (.inl 97)), .inl (h : Int), .inl e, .inr (.inl (aS (sAe (F 100) T st e h) (p * 13 + n))), jk, .inl (p : Int), .inl (n : Int)] [] (mm S F G) (0, 0) Q := by
  obtain ⟨⟨hv1, hv2⟩, ⟨hv3, hv4⟩, ⟨hv5, hv6⟩, ⟨hv7, hv8⟩, ⟨hv9, hv10⟩, ⟨hv11, hv12⟩, ⟨hv13, hv14⟩, hvw, hvs, hvk, hvc, hvx⟩ := id hv
  intro K
  induction K with
  | zero =>
    intro n hK
    refine sg_180_19 ?_
    try simp (disch := omega) only [wr_id]
    rw [e31]
    refine cn_i (fun g => ?_) (fun g => by omega)
    rw [aS_e (f := sAe (F 100) T st e h) (j := p * 13 + n) (k := (p + 1) * 13) (by omega) (fun k k1 k2 => iW_n (fun x => ?_))] at hq
    · exact hq
    · have := x.2
      unfold iN at this
      omega
  | succ K ih =>
    intro n hK
    have ih := ih (n + 1) (by omega)
    have hc' : ((n + 1 : Nat) : Int) = (n : Int) + 1 := by omega
    rw [hc'] at ih
    have ei : p * 13 + n = ((p : Int) * 13 + (n : Int)).toNat := by omega
    have i1 := i_of (p := p) (n := n) (by omega) (by omega) (by omega)
    have i2 : iv (F 100) st (p * 13 + n) := by rw [ei]; exact iv_of (by omega) hp (by omega) (by omega) (by omega)
    rw [← ei] at i1
    have nx : aS (sAe (F 100) T st e h) (p * 13 + (n + 1)) = aS (sAe (F 100) T st e h) (p * 13 + n) + sMs (F 100) T st h p n * iW (sEnd (F 100) h p n = e) (sScH (F 100) h) := by
      have z : sAe (F 100) T st e h (p * 13 + n) = sMs (F 100) T st h p n * iW (sEnd (F 100) h p n = e) (sScH (F 100) h) := by
        unfold sAe
        rw [iW_p i2, i1.1, i1.2]
      exact congrArg (fun y => aS (sAe (F 100) T st e h) (p * 13 + n) + y) z
    have w : vs (F 100) st h p n := ⟨by omega, hh, by omega, hp, by omega, by omega⟩
    have eM : G 127 (((h : Int) * 12 + p) * 13 + n).toNat = sMs (F 100) T st h p n := by
      have := hM h p n w
      rw [this, show ((h : Int)).toNat = h by omega]
    have mb := sMs_b (h := h) (p := p) (n := n) hv hs hst hT hh (by omega) hp (by omega) (by omega)
    have sb := sScH_b hv (h := (h : Int)) (by omega) hh
    have pb : 0 ≤ aS (sAe (F 100) T st e h) (p * 13 + n) ∧ aS (sAe (F 100) T st e h) (p * 13 + n) ≤ 1099511627776 :=
      ⟨aS_nn (fun i _ => sAe_0 hv hT hh), Int.le_trans (aS_up (k := 156) (by omega) (fun i _ => sAe_0 hv hT hh)) (sArr_b hv hs hst hT hh).2⟩
    refine sg_180_19 ?_
    try simp (disch := omega) only [wr_id]
    rw [e31]
    refine cn_i (fun g => by omega) (fun _ => ?_)
    refine c_124 (by omega) (by omega) (fun v2 e2 => ?_)
    refine cn_i (fun g => ?_) (fun g => ?_)
    · refine c_123 (by omega) (by omega) (by omega) (by omega) (by omega) (by omega) (fun _ ev => ?_)
      subst ev
      refine ck_i (by (first | exact jb_i (by (first | assumption | omega | (simp (disch := omega) only [wr_id]; omega))) (by (first | assumption | omega | (simp (disch := omega) only [wr_id]; omega))) | exact jo_i (by omega) | exact jz_i (by omega) | rfl | (simp only [*]; first | rfl | exact jb_i (by (first | assumption | omega | (simp (disch := omega) only [wr_id]; omega))) (by (first | assumption | omega | (simp (disch := omega) only [wr_id]; omega)))))) (ck_i (by (first | exact jb_i (by (first | assumption | omega | (simp (disch := omega) only [wr_id]; omega))) (by (first | assumption | omega | (simp (disch := omega) only [wr_id]; omega))) | exact jo_i (by omega) | exact jz_i (by omega) | rfl | (simp only [*]; first | rfl | exact jb_i (by (first | assumption | omega | (simp (disch := omega) only [wr_id]; omega))) (by (first | assumption | omega | (simp (disch := omega) only [wr_id]; omega)))))) ?_)
      have ce : sEnd (F 100) h p n = e := e2.symm.trans g
      have m0 : 0 ≤ sMs (F 100) T st h p n * sScH (F 100) h := Int.mul_nonneg mb.1 (by omega)
      rw [nx, iW_p ce] at ih
      rw [eM, hc, wl_id (a := sMs (F 100) T st h p n * sScH (F 100) h) (by omega) (by omega), wl_id (by omega) (by omega)]
      exact ih
    · rw [nx, iW_n (fun r => g (e2.trans r)), Int.mul_zero, Int.add_zero] at ih
      exact ih
theorem l_180_5 {Q : Rs → Mm → Prop} {T : Int → Int → Int → Int} {st e : Int} {h : Nat} {S : FS} {F : FI} {G : FJ} (hv : LV (F 100)) (hs : 0 ≤ st) (hst : st ≤ 12) (e31 : F 97 31 = st) (hT : TK (F 100) T st) (hM : MB (F 100) T st G) (hc : G 118 ((h : Int)).toNat = sScH (F 100) h) (hh : (h : Int) ≤ F 100 3)
    (hq : Q (.inl (some (.inr (.inl (sArr (F 100) T st e h))))) (mm S F G)) :
    ∀ (K p : Nat), (K : Int) = F 100 0 - p → wph 1 180 5 [.inr (.inr (.inl 97)), .inl (h : Int), .inl e, .inr (.inl (aS (sAe (F 100) T st e h) (p * 13))), jk, .inl (p : Int)] [] (mm S F G) (0, 0) Q := by
  obtain ⟨⟨hv1, hv2⟩, ⟨hv3, hv4⟩, ⟨hv5, hv6⟩, ⟨hv7, hv8⟩, ⟨hv9, hv10⟩, ⟨hv11, hv12⟩, ⟨hv13, hv14⟩, hvw, hvs, hvk, hvc, hvx⟩ := id hv
  intro K
  induction K with
  | zero =>
    intro p hK
    refine sg_180_5 ?_
    refine cn_i (fun g => by omega) (fun g => ?_)
    rw [show sArr (F 100) T st e h = aS (sAe (F 100) T st e h) 156 from rfl, aS_e (f := sAe (F 100) T st e h) (j := p * 13) (k := 156) (by omega) (fun k k1 k2 => iW_n (fun x => ?_))] at hq
    · exact hq
    · have := x.1
      unfold iP at this
      omega
  | succ K ih =>
    intro p hK
    refine sg_180_5 ?_
    refine cn_i (fun g => ?_) (fun g => by omega)
    exact l_180_19 hv hs hst e31 hT hM hc hh p (by omega) (ih (p + 1) (by omega)) (st + 1).toNat 0 (by omega)
theorem c_180 {k : Int → FS → FI → FJ → Prop} {T : Int → Int → Int → Int} {st e : Int} {h : Nat} {S : FS} {F : FI} {G : FJ} (hv : LV (F 100)) (hs : 0 ≤ st) (hst : st ≤ 12) (e31 : F 97 31 = st) (hT : TK (F 100) T st) (hM : MB (F 100) T st G) (hc : G 118 ((h : Int)).toNat = sScH (F 100) h) (hh : (h : Int) ≤ F 100 3)
    (hk : ∀ v, v = sArr (F 100) T st e h → k v S F G) : calL 1 180 [.inr (.inr (.inl 97)), .inl (h : Int), .inl e] (mm S F G) k nof := by
  obtain ⟨⟨hv1, hv2⟩, ⟨hv3, hv4⟩, ⟨hv5, hv6⟩, ⟨hv7, hv8⟩, ⟨hv9, hv10⟩, ⟨hv11, hv12⟩, ⟨hv13, hv14⟩, hvw, hvs, hvk, hvc, hvx⟩ := id hv
  refine sg_180_0 ?_
  exact l_180_5 hv hs hst e31 hT hM hc hh ⟨_, _, _, rfl, hk _ rfl⟩ (F 100 0).toNat 0 (by omega)
theorem l_181_5 {Q : Rs → Mm → Prop} {T : Int → Int → Int → Int} {st e : Int} {S : FS} {F : FI} {G : FJ} (hv : LV (F 100)) (hs : 0 ≤ st) (hst : st ≤ 12) (e31 : F 97 31 = st) (hT : TK (F 100) T st) (hM : MB (F 100) T st G) (hc : ∀ h, 0 ≤ h → h ≤ F 100 3 → G 118 h.toNat = sScH (F 100) h)
    (hq : Q (.inl (some (.inr (.inl (aS (sArr (F 100) T st e) ((F 100 3).toNat + 1)))))) (mm S F G)) :
    ∀ (K h : Nat), (K : Int) = F 100 3 + 1 - h → (0 ≤ aS (sArr (F 100) T st e) h ∧ aS (sArr (F 100) T st e) h ≤ (h : Int) * 1099511627776) → wph 2 181 5 [.inr (.inr (.inl 97)), .inl e, .inr (.inl (aS (sArr (F 100) T st e) h)), jk, .inl (h : Int)] [] (mm S F G) (0, 0) Q := by
  obtain ⟨⟨hv1, hv2⟩, ⟨hv3, hv4⟩, ⟨hv5, hv6⟩, ⟨hv7, hv8⟩, ⟨hv9, hv10⟩, ⟨hv11, hv12⟩, ⟨hv13, hv14⟩, hvw, hvs, hvk, hvc, hvx⟩ := id hv
  intro K
  induction K with
  | zero =>
    intro h hK hb
    refine sg_181_5 ?_
    refine cn_i (fun g => ?_) (fun g => by omega)
    rw [show (F 100 3).toNat + 1 = h by omega] at hq
    exact hq
  | succ K ih =>
    intro h hK hb
    refine sg_181_5 ?_
    refine cn_i (fun g => by omega) (fun _ => ?_)
    refine c_180 hv hs hst e31 hT hM (hc h (by omega) (by omega)) (by omega) (fun v ev => ?_)
    have ab := sArr_b (e := e) (h := h) hv hs hst hT (by omega)
    have e1 : aS (sArr (F 100) T st e) (h + 1) = aS (sArr (F 100) T st e) h + v := by rw [ev]; rfl
    have ih := ih (h + 1) (by omega) (by rw [e1]; omega)
    rw [wl_id (by omega) (by omega), ← e1]
    try simp (disch := omega) only [wr_id]
    exact ih
theorem c_181 {k : Int → FS → FI → FJ → Prop} {T : Int → Int → Int → Int} {st e : Int} {S : FS} {F : FI} {G : FJ} (hv : LV (F 100)) (hs : 0 ≤ st) (hst : st ≤ 12) (e31 : F 97 31 = st) (hT : TK (F 100) T st) (hM : MB (F 100) T st G) (hc : ∀ h, 0 ≤ h → h ≤ F 100 3 → G 118 h.toNat = sScH (F 100) h)
    (hk : ∀ v, v = aS (sArr (F 100) T st e) ((F 100 3).toNat + 1) → k v S F G) : calL 2 181 [.inr (.inr (.inl 97)), .inl e] (mm S F G) k nof := by
  obtain ⟨⟨hv1, hv2⟩, ⟨hv3, hv4⟩, ⟨hv5, hv6⟩, ⟨hv7, hv8⟩, ⟨hv9, hv10⟩, ⟨hv11, hv12⟩, ⟨hv13, hv14⟩, hvw, hvs, hvk, hvc, hvx⟩ := id hv
  refine sg_181_0 ?_
  exact l_181_5 hv hs hst e31 hT hM hc ⟨_, _, _, rfl, hk _ rfl⟩ ((F 100 3).toNat + 1) 0 (by omega) ⟨Int.le_refl _, Int.le_refl _⟩
theorem TK_c {l : Nat → Int} {c : Cf} {st : Int} (hv : LV l) (hc : CV l st c) : TK l (sTk l c st) st := fun _ _ _ w he => sTk_in hv hc w he
/-- ready, played and followed -/
theorem c_flow {k : FS → FI → FJ → Prop} {S : FS} {F F1 : FI} {G G1 : FJ} {c : Cf} (hm : MV F G) (hd : RD F F1 G G1 c) (hc : CV (F 100) (F 100 4) c) (ht : TB (F 100) c (F 100 4) F1 G1)
    (hk : ∀ G2, RD F F1 G G2 c → MB (F 100) (sTk (F 100) c (F 100 4)) (F 100 4) G2 → k S F1 G2) : calV 2 179 [.inr (.inr (.inl 97))] (mm S F1 G1) k nof := by
  have hv := hm.1
  obtain ⟨⟨hv1, hv2⟩, ⟨hv3, hv4⟩, ⟨hv5, hv6⟩, ⟨hv7, hv8⟩, ⟨hv9, hv10⟩, ⟨hv11, hv12⟩, ⟨hv13, hv14⟩, hvw, hvs, hvk, hvc, hvx⟩ := id hv
  obtain ⟨d1, d2, d3, d4, d5, d6, d7⟩ := id hd
  have e100 := d1.1 100 kp100
  refine c_179 (T := sTk (F 100) c (F 100 4)) (by rw [e100]; exact hv) (by omega) (by omega) (by rw [e100, d4]; exact TK_c hv hc) (fun h p n w he => ?_) (fun h a b => ?_) (fun G2 hM ho => ?_)
  · rw [e100, d4] at w
    exact ht.1 h p n w
  · rw [e100] at b ⊢
    exact d6.2.1 h a b
  · rw [e100, d4] at hM
    refine hk G2 ⟨⟨d1.1, d1.2.1, fun a ha => (ho a (by unfold kpG at ha; omega)).trans (d1.2.2 a ha)⟩, d2, d3, d4, d5, ⟨d6.1, d6.2.1, fun h a b => ?_, fun k h p n a b w => ?_, fun i => ?_⟩, ⟨fun i => ?_, fun i => ?_, fun i => ?_⟩⟩ hM
    · rw [ho 118 (by decide)]; exact d6.2.2.1 h a b
    · rw [ho 120 (by decide)]; exact d6.2.2.2.1 k h p n a b w
    · rw [ho 120 (by decide)]; exact d6.2.2.2.2 i
    · rw [ho 119 (by decide)]; exact d7.1 i
    · rw [ho 120 (by decide)]; exact d7.2.1 i
    · rw [ho 121 (by decide)]; exact d7.2.2 i

/-- what comes of it: there, lost or out of time -/
noncomputable def sEd (F : FI) (e : Int) : Int := sCh (F 100) (cBs F) (F 100 4) e (F 100 3).toNat (F 100 6) (F 100 4)
theorem q_182 {k : Int → FS → FI → FJ → Prop} {x1 : Int} {S : FS} {F : FI} {G : FJ} (hM : F 97 12 ≠ 0 → MV F G) (noL : F 97 12 = 0 → k 0 S (rfs (zF F) 2 3) G) (noA : F 97 12 ≠ 0 → ¬ (0 ≤ x1 ∧ x1 ≤ 1) → k 0 S (rfs (zF F) 1 2) G)
    (ok : F 97 12 ≠ 0 → 0 ≤ x1 ∧ x1 ≤ 1 → ∀ F' G', QP F F' G G' → k (sEd F (x1 + 1)) S F' G') : calL 8 182 [.inr (.inr (.inl 97)), .inl x1] (mm S F G) k nof := by
  refine sg_182_0 ?_
  rw [show u2 F 97 0 0 = zF F from rfl]
  refine c_109 z_0 (by decide) (fun hl => cn_1 ?_) (fun hl => cn_0 ⟨_, _, _, rfl, noL (here_z hl)⟩)
  have hl := here_n hl
  have hm := hM hl
  have hv := hm.1
  have hz := MV_z hm
  obtain ⟨⟨hv1, hv2⟩, ⟨hv3, hv4⟩, ⟨hv5, hv6⟩, ⟨hv7, hv8⟩, ⟨hv9, hv10⟩, ⟨hv11, hv12⟩, ⟨hv13, hv14⟩, hvw, hvs, hvk, hvc, hvx⟩ := id hv
  have e0 : zF F 100 = F 100 := z_n (by decide)
  have cv : CV (F 100) (F 100 4) (cBs F) := sCf_v (w := mL F) (F 100 4) hv hm.2.1
  refine c_70 (fun ha => ?_) (fun ha => ?_)
  · refine c_69 z_0 (by decide) (by decide) (by decide) (fun _ => cn_1 ?_) (fun q => absurd q (by decide))
    refine c_144 hz (fun F1 G1 hd ht => ?_)
    rw [show sCf (zF F 100) (zF F 112) (mL (zF F)) = cBs F from z_B F] at hd ht
    refine c_flow hz hd (by rw [e0]; exact cv) ht (fun G2 hd2 hb => ?_)
    have f100 : F1 100 = F 100 := (hd2.1.1 100 kp100).trans e0
    have f31 : F1 97 31 = F 100 4 := hd2.2.2.2.1.trans (by rw [e0])
    rw [e0] at hb
    have tk := TK_c hv cv
    try simp (disch := omega) only [wr_id]
    refine c_181 (T := sTk (F 100) (cBs F) (F 100 4)) (st := F 100 4) (by rw [f100]; exact hv) (by omega) (by omega) f31 (by rw [f100]; exact tk) (by rw [f100]; exact hb) (fun h a b => ?_) (fun v ev => ⟨_, _, _, rfl, ?_⟩)
    · rw [f100] at b ⊢
      have := hd2.2.2.2.2.2.1.2.2.1 h a (by rw [e0]; exact b)
      rw [e0] at this
      exact this
    · rw [ev, f100, sCh_sum hv (by omega) (by omega) tk (by omega)]
      exact ok hl ha F1 G2 (QP_d hd2 rfl)
  · exact c_69 z_0 (by decide) (by decide) (by decide) (fun q => absurd rfl q) (fun _ => cn_0 ⟨_, _, _, rfl, noA hl ha⟩)
theorem q_183 {k : Int → FS → FI → FJ → Prop} {x1 x2 : Int} {S : FS} {F : FI} {G : FJ} (hM : F 97 12 ≠ 0 → MV F G) (noL : F 97 12 = 0 → k 0 S (rfs (zF F) 2 3) G) (noA : F 97 12 ≠ 0 → ¬ ((0 ≤ x1 ∧ x1 ≤ F 100 3) ∧ 0 ≤ x2 ∧ x2 ≤ 2) → k 0 S (rfs (zF F) 1 2) G)
    (ok : F 97 12 ≠ 0 → (0 ≤ x1 ∧ x1 ≤ F 100 3) ∧ 0 ≤ x2 ∧ x2 ≤ 2 → ∀ F' G', QP F F' G G' → k (sArr (F 100) (sTk (F 100) (cBs F) (F 100 4)) (F 100 4) (x2 + 1) x1.toNat) S F' G') : calL 8 183 [.inr (.inr (.inl 97)), .inl x1, .inl x2] (mm S F G) k nof := by
  refine sg_183_0 ?_
  rw [show u2 F 97 0 0 = zF F from rfl]
  refine c_109 z_0 (by decide) (fun hl => cn_1 ?_) (fun hl => cn_0 ⟨_, _, _, rfl, noL (here_z hl)⟩)
  have hl := here_n hl
  have hm := hM hl
  have hv := hm.1
  have hz := MV_z hm
  obtain ⟨⟨hv1, hv2⟩, ⟨hv3, hv4⟩, ⟨hv5, hv6⟩, ⟨hv7, hv8⟩, ⟨hv9, hv10⟩, ⟨hv11, hv12⟩, ⟨hv13, hv14⟩, hvw, hvs, hvk, hvc, hvx⟩ := id hv
  have e0 : zF F 100 = F 100 := z_n (by decide)
  have cv : CV (F 100) (F 100 4) (cBs F) := sCf_v (w := mL F) (F 100 4) hv hm.2.1
  rw [e0]
  refine c_70 (fun ha => ?_) (fun ha => ?_)
  · refine cn_i (fun q => absurd q (by decide)) (fun _ => ?_)
    refine c_70 (fun hb => ?_) (fun hb => ?_)
    · refine cn_i (fun q => absurd q (by decide)) (fun _ => ?_)
      refine c_69 z_0 (by decide) (by decide) (by decide) (fun _ => cn_1 ?_) (fun q => absurd q (by decide))
      refine c_144 hz (fun F1 G1 hd ht => ?_)
      rw [show sCf (zF F 100) (zF F 112) (mL (zF F)) = cBs F from z_B F] at hd ht
      refine c_flow hz hd (by rw [e0]; exact cv) ht (fun G2 hd2 hmb => ?_)
      have f100 : F1 100 = F 100 := (hd2.1.1 100 kp100).trans e0
      have f31 : F1 97 31 = F 100 4 := hd2.2.2.2.1.trans (by rw [e0])
      rw [e0] at hmb
      have tk := TK_c hv cv
      try simp (disch := omega) only [wr_id]
      obtain ⟨h, eh⟩ := Int.eq_ofNat_of_zero_le ha.1
      subst eh
      refine c_180 (T := sTk (F 100) (cBs F) (F 100 4)) (st := F 100 4) (by rw [f100]; exact hv) (by omega) (by omega) f31 (by rw [f100]; exact tk) (by rw [f100]; exact hmb) ?_ (by rw [f100]; exact ha.2) (fun v ev => ⟨_, _, _, rfl, ?_⟩)
      · rw [f100]
        have := hd2.2.2.2.2.2.1.2.2.1 h (by omega) (by rw [e0]; exact ha.2)
        rw [e0] at this
        exact this
      · rw [ev, f100]
        have := ok hl ⟨ha, hb⟩ F1 G2 (QP_d hd2 rfl)
        rw [show ((h : Int)).toNat = h by omega] at this
        exact this
    · refine cn_i (fun _ => ?_) (fun q => absurd rfl q)
      exact c_69 z_0 (by decide) (by decide) (by decide) (fun q => absurd rfl q) (fun _ => cn_0 ⟨_, _, _, rfl, noA hl (fun x => hb x.2)⟩)
  · refine cn_i (fun _ => ?_) (fun q => absurd rfl q)
    exact c_69 z_0 (by decide) (by decide) (by decide) (fun q => absurd rfl q) (fun _ => cn_0 ⟨_, _, _, rfl, noA hl (fun x => ha x.1)⟩)
