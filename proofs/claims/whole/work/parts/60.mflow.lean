/-! ===== the reference follows the chance ===== -/
def FL (l : Nat → Int) (T : Int → Int → Int → Int) (st : Int) (g : Nat → Int) (h i : Nat) : Prop := ∀ h' p' n', vs l st h' p' n' →
  (h' ≤ h → g ((h' * 12 + p') * 13 + n').toNat = sMs l T st h'.toNat p' n') ∧ (h' = h + 1 → g ((h' * 12 + p') * 13 + n').toNat = aS (sCo l T st h (sMs l T st h) p' n') i) ∧ (h + 1 < h' → g ((h' * 12 + p') * 13 + n').toNat = 0)
theorem FL_z {l : Nat → Int} {T : Int → Int → Int → Int} {st : Int} {g : Nat → Int} {h i j : Nat} (hf : FL l T st g h i) (hij : i ≤ j) (hz : ∀ k, i ≤ k → k < j → ∀ p' n', sCo l T st h (sMs l T st h) p' n' k = 0) : FL l T st g h j := by
  intro h' p' n' w
  obtain ⟨a, b, c⟩ := hf h' p' n' w
  refine ⟨a, fun e => ?_, c⟩
  rw [b e]
  exact (aS_e hij (fun k k1 k2 => hz k k1 k2 p' n')).symm
theorem FL_n {l : Nat → Int} {T : Int → Int → Int → Int} {st : Int} {g : Nat → Int} {h : Nat} (hf : FL l T st g h 156) : FL l T st g (h + 1) 0 := by
  intro h' p' n' w
  obtain ⟨a, b, c⟩ := hf h' p' n' w
  refine ⟨fun e => ?_, fun e => ?_, fun e => c (by omega)⟩
  · by_cases q : h' ≤ h
    · exact a q
    · have q' : h' = h + 1 := by omega
      rw [b q', show h'.toNat = h + 1 by omega]
      rfl
  · rw [c (by omega)]
    rfl
theorem FL_s {l : Nat → Int} {T : Int → Int → Int → Int} {st : Int} {g g' : Nat → Int} {h p n : Nat} (hf : FL l T st g h (p * 13 + n)) (h2 : (p : Int) < l 0) (h3 : (n : Int) < 13) (h4 : (n : Int) ≤ st) (he : sEnd l h p n = 0)
    (h5 : ∀ p' n', 0 ≤ p' → p' < l 0 → 0 ≤ n' → n' ≤ st → g' ((((h : Int) + 1) * 12 + p') * 13 + n').toNat = g ((((h : Int) + 1) * 12 + p') * 13 + n').toNat + sMs l T st h p n * sCt l st h p n (T h p n) p' n')
    (h6 : ∀ h' p' n', vs l st h' p' n' → h' ≠ h + 1 → g' ((h' * 12 + p') * 13 + n').toNat = g ((h' * 12 + p') * 13 + n').toNat) : FL l T st g' h (p * 13 + n + 1) := by
  have ei : p * 13 + n = ((p : Int) * 13 + (n : Int)).toNat := by omega
  have i1 := i_of (p := p) (n := n) (by omega) (by omega) h3
  have i2 : iv l st (p * 13 + n) := by rw [ei]; exact iv_of (by omega) h2 (by omega) h3 h4
  rw [← ei] at i1
  intro h' p' n' w
  obtain ⟨a, b, c⟩ := hf h' p' n' w
  refine ⟨fun e => ?_, fun e => ?_, fun e => ?_⟩
  · rw [h6 h' p' n' w (by omega)]; exact a e
  · have b' := b e
    subst e
    rw [h5 p' n' w.2.2.1 w.2.2.2.1 w.2.2.2.2.1 w.2.2.2.2.2, b']
    show _ = aS _ _ + _
    refine congrArg _ ?_
    unfold sCo
    rw [i1.1, i1.2]
    exact (iW_p ⟨i2, he⟩).symm
  · rw [h6 h' p' n' w (by omega)]; exact c e
theorem sCt_z {l : Nat → Int} {st h p n p' n' : Int} : sCt l st h p n 0 p' n' = (if sSy l h = 1 then 16 else 1) * (if p = p' ∧ sAf l st p n = n' then 1 else 0) := by
  unfold sCt sBr
  rw [if_pos rfl]
  split
  · rfl
  · exact (Int.one_mul _).symm
theorem sCt_m {l : Nat → Int} {st h p n m p' n' : Int} (hv : LV l) (h1 : 0 ≤ h) (h2 : h < l 3) (h3 : 0 < m) (h4 : m ≤ l 1) : sCt l st h p n m p' n' = sSn l (m - 1) h * (if p = p' ∧ sAf l st p n = n' then 1 else 0) + ((if sSy l h = 1 then 16 else 1) - sSn l (m - 1) h) * (if sOth l (m - 1) p = p' ∧ sAf l st (sOth l (m - 1) p) n = n' then 1 else 0) := by
  obtain ⟨⟨hv1, hv2⟩, ⟨hv3, hv4⟩, ⟨hv5, hv6⟩, ⟨hv7, hv8⟩, ⟨hv9, hv10⟩, ⟨hv11, hv12⟩, ⟨hv13, hv14⟩, hvw, hvs, hvk, hvc, hvx⟩ := id hv
  have hN := hvs (m - 1) h (by omega) (by omega) h1 (by omega)
  unfold sCt sBr
  rw [if_neg (by omega)]
  by_cases q : sSy l h = 1
  · rw [if_pos q, if_pos q]
  · rw [if_neg q, if_neg q]
    have z : sSn l (m - 1) h = 0 := by
      refine Classical.byContradiction fun r => q ?_
      unfold sSy
      exact if_pos ⟨m - 1, by omega, by omega, by omega⟩
    rw [z, Int.zero_mul, Int.zero_add, Int.sub_zero, Int.one_mul]
set_option maxRecDepth 100000 in
theorem l_179_58 {Q : Rs → Mm → Prop} {T : Int → Int → Int → Int} {st : Int} {S : FS} {F : FI} {G : FJ} (hv : LV (F 100)) (hst : st ≤ 12) (e31 : F 97 31 = st) (hT : TK (F 100) T st) (h117 : ∀ h p n, vs (F 100) st h p n → sEnd (F 100) h p n = 0 → F 117 ((h * 12 + p) * 13 + n).toNat = T h p n) (h122 : ∀ h, 0 ≤ h → h < F 100 3 → F 122 h.toNat = sSy (F 100) h)
    (h p : Nat) (hh : (h : Int) < F 100 3) (hp : (p : Int) < F 100 0) (hs : 0 ≤ st) (hq : ∀ G2, FL (F 100) T st (G2 127) h ((p + 1) * 13) → (∀ a, a ≠ 127 → G2 a = G a) → wph 2 179 46 [.inr (.inr (.inl 97)), .inl (h : Int), .inl ((p : Int) + 1)] [] (mm S F G2) (0, 0) Q) :
    ∀ (K n : Nat) (G1 : FJ), (K : Int) = st + 1 - n → FL (F 100) T st (G1 127) h (p * 13 + n) → (∀ a, a ≠ 127 → G1 a = G a) → wph 2 179 58 [.inr (.inr (.inl 97)), .inl (h : Int), .inl (p : Int), .inl (n : Int)] [] (mm S F G1) (0, 0) Q := by
  obtain ⟨⟨hv1, hv2⟩, ⟨hv3, hv4⟩, ⟨hv5, hv6⟩, ⟨hv7, hv8⟩, ⟨hv9, hv10⟩, ⟨hv11, hv12⟩, ⟨hv13, hv14⟩, hvw, hvs, hvk, hvc, hvx⟩ := id hv
  intro K
  induction K with
  | zero =>
    intro n G1 hK hf ho
    refine sg_179_58 ?_
    try simp (disch := omega) only [wr_id]
    rw [e31]
    refine cn_i (fun g => ?_) (fun g => by omega)
    refine hq G1 (FL_z hf (by omega) (fun k k1 k2 p' n' => iW_n (fun x => ?_))) ho
    have := x.1.2
    unfold iN at this
    omega
  | succ K ih =>
    intro n G1 hK hf ho
    have w : vs (F 100) st h p n := ⟨by omega, by omega, by omega, hp, by omega, by omega⟩
    have eM : G1 127 (((h : Int) * 12 + p) * 13 + n).toNat = sMs (F 100) T st h p n := by
      have := (hf h p n w).1 (Int.le_refl _)
      rw [this, show ((h : Int)).toNat = h by omega]
    obtain ⟨M, eM2⟩ : ∃ M, M = sMs (F 100) T st h p n := ⟨_, rfl⟩
    have mb := sMs_b (h := h) (p := p) (n := n) hv hs hst hT (by omega) (by omega) hp (by omega) (by omega)
    rw [← eM2] at eM mb
    have ei : p * 13 + n = ((p : Int) * 13 + (n : Int)).toNat := by omega
    have i1 := i_of (p := p) (n := n) (by omega) (by omega) (by omega)
    rw [← ei] at i1
    have nx : ∀ G2 : FJ, FL (F 100) T st (G2 127) h (p * 13 + n + 1) → (∀ a, a ≠ 127 → G2 a = G a) → wph 2 179 58 [.inr (.inr (.inl 97)), .inl (h : Int), .inl (p : Int), .inl ((n : Int) + 1)] [] (mm S F G2) (0, 0) Q := fun G2 a b => ih (n + 1) G2 (by omega) a b
    have nz : (∀ p' n', sCo (F 100) T st h (sMs (F 100) T st h) p' n' (p * 13 + n) = 0) → wph 2 179 58 [.inr (.inr (.inl 97)), .inl (h : Int), .inl (p : Int), .inl ((n : Int) + 1)] [] (mm S F G1) (0, 0) Q := fun z => nx G1 (FL_z hf (by omega) (fun k k1 k2 p' n' => by rw [show k = p * 13 + n by omega]; exact z p' n')) ho
    refine sg_179_58 ?_
    try simp (disch := omega) only [wr_id]
    rw [e31]
    refine cn_i (fun g => by omega) (fun _ => ?_)
    refine c_123 (by omega) (by omega) (by omega) (by omega) (by omega) (by omega) (fun _ e => ?_)
    subst e
    rw [eM]
    refine ck_i (by (first | exact jb_i (by (first | assumption | omega | (simp (disch := omega) only [wr_id]; omega))) (by (first | assumption | omega | (simp (disch := omega) only [wr_id]; omega))) | exact jo_i (by omega) | exact jz_i (by omega) | rfl | (simp only [*]; first | rfl | exact jb_i (by (first | assumption | omega | (simp (disch := omega) only [wr_id]; omega))) (by (first | assumption | omega | (simp (disch := omega) only [wr_id]; omega)))))) (cn_i (fun g1 => ?_) (fun g1 => ?_))
    · refine nz (fun p' n' => ?_)
      have M0 : M = 0 := lc_z.1 g1
      unfold sCo
      rw [i1.1, i1.2, ← eM2, M0, Int.zero_mul]
      rcases iW_2 (iv (F 100) st (p * 13 + n) ∧ sEnd (F 100) h p n = 0) with ⟨_, e⟩ | ⟨_, e⟩ <;> rw [e]
    refine c_124 (by omega) (by omega) (fun v2 e2 => ?_)
    refine cn_i (fun g2 => ?_) (fun g2 => ?_)
    · have he : sEnd (F 100) h p n = 0 := e2.symm.trans g2
      have ce := sEnd_n he
      have tk := hT h p n w he
      have tt := h117 h p n w he
      have sy := h122 h (by omega) hh
      have sy1 := sSy_01 (F 100) h
      obtain ⟨m, em⟩ : ∃ m, m = T h p n := ⟨_, rfl⟩
      obtain ⟨W, eW⟩ : ∃ W : Int, W = (if sSy (F 100) h = 1 then 16 else 1) := ⟨_, rfl⟩
      have W1 : W = 1 ∨ W = 16 := by rw [eW]; split <;> omega
      rw [← em] at tk tt
      have ab := sAf_b (l := F 100) (q := p) (st := st) (n := n) hs hst (by omega) (by omega)
      have gb : ∀ q s, 0 ≤ q → q < F 100 0 → 0 ≤ s → s ≤ st → 0 ≤ G1 127 ((((h : Int) + 1) * 12 + q) * 13 + s).toNat ∧ G1 127 ((((h : Int) + 1) * 12 + q) * 13 + s).toNat ≤ 1099511627776 := by
        intro q s a b c d
        rw [(hf ((h : Int) + 1) q s ⟨by omega, by omega, a, b, c, d⟩).2.1 rfl]
        have z := fun i => sCo_n (l := F 100) (T := T) (st := st) (p' := q) (n' := s) (h := h) (i := i) (M := sMs (F 100) T st h) hv hT hh (fun p n => sMs_n hv hT (by omega) p n)
        refine ⟨aS_nn (fun i _ => z i), Int.le_trans (aS_up (k := 156) (by omega) (fun i _ => z i)) ?_⟩
        exact (sMs_b (h := h + 1) (p := q) (n := s) hv hs hst hT (by omega) a b c d).2.2
      have wlM : ∀ x, 0 ≤ x → x ≤ 16 → wl (M * x) = M * x ∧ 0 ≤ M * x ∧ M * x ≤ 17592186044416 := by
        intro x a b
        have c : 0 ≤ M * x := Int.mul_nonneg mb.1 a
        have d := Int.mul_le_mul mb.2.2 b a (by omega)
        exact ⟨wl_id (by omega) (by omega), c, by omega⟩
      have nA : m = 0 → ∀ x, x = W → calI 1 131 [.inr (.inr (.inl 97)), .inl (h : Int), .inl (p : Int), .inl (n : Int), .inl (p : Int)] (mm S F G1) (fun v4 S4 F4 G4 => chk (ib v4 3900) (chk (ib v4 3900) (wph 2 179 58 [.inr (.inr (.inl 97)), .inl (h : Int), .inl (p : Int), .inl ((n : Int) + 1)] [] (mm S4 F4 (u2 G4 127 ((v4).toNat) (wl ((G4 127 ((v4).toNat)) + (wl (M * x)))))) (0, 0) Q))) nof := by
        intro m0 x ex
        refine c_131 (by omega) (by omega) (by omega) (by omega) (by omega) (by omega) (by omega) (fun _ e => ?_)
        subst e
        rw [e31]
        have g0 := gb p _ (by omega) hp ab.1 ab.2
        have wx := wlM x (by omega) (by omega)
        refine ck_i (by (first | exact jb_i (by (first | assumption | omega | (simp (disch := omega) only [wr_id]; omega))) (by (first | assumption | omega | (simp (disch := omega) only [wr_id]; omega))) | exact jo_i (by omega) | exact jz_i (by omega) | rfl | (simp only [*]; first | rfl | exact jb_i (by (first | assumption | omega | (simp (disch := omega) only [wr_id]; omega))) (by (first | assumption | omega | (simp (disch := omega) only [wr_id]; omega)))))) (ck_i (by (first | exact jb_i (by (first | assumption | omega | (simp (disch := omega) only [wr_id]; omega))) (by (first | assumption | omega | (simp (disch := omega) only [wr_id]; omega))) | exact jo_i (by omega) | exact jz_i (by omega) | rfl | (simp only [*]; first | rfl | exact jb_i (by (first | assumption | omega | (simp (disch := omega) only [wr_id]; omega))) (by (first | assumption | omega | (simp (disch := omega) only [wr_id]; omega)))))) (nx _ (FL_s hf hp (by omega) (by omega) he (fun p' n' a b c d => ?_) (fun h' p' n' v q => ?_)) (fun a q => by rw [u2_o q]; exact ho a q)))
        · rw [wx.1, wl_id (by omega) (by omega), u2_k, ← em, m0, sCt_z, ← eW, ← eM2, ← ex]
          by_cases q : (p : Int) = p' ∧ sAf (F 100) st p n = n'
          · rw [if_pos q, ← q.1, ← q.2, if_pos rfl, Int.mul_one]
          · rw [if_neg q, if_neg (by omega), Int.mul_zero, Int.mul_zero, Int.add_zero]
        · unfold vs at v
          rw [u2_k, if_neg (by omega)]
      have nB : 0 < m → ∀ x y, x = sSn (F 100) (m - 1) h → y = W - x → calI 1 131 [.inr (.inr (.inl 97)), .inl (h : Int), .inl (p : Int), .inl (n : Int), .inl (p : Int)] (mm S F G1) (fun v4 S4 F4 G4 => chk (ib v4 3900) (chk (ib v4 3900) (calI 0 125 [.inr (.inr (.inl 97)), .inl (m - 1), .inl (p : Int)] (mm S4 F4 (u2 G4 127 ((v4).toNat) (wl ((G4 127 ((v4).toNat)) + (wl (M * x)))))) (fun v6 S6 F6 G6 => calI 1 131 [.inr (.inr (.inl 97)), .inl (h : Int), .inl (p : Int), .inl (n : Int), .inl v6] (mm S6 F6 G6) (fun v7 S7 F7 G7 => chk (ib v7 3900) (chk (ib v7 3900) (wph 2 179 58 [.inr (.inr (.inl 97)), .inl (h : Int), .inl (p : Int), .inl ((n : Int) + 1)] [] (mm S7 F7 (u2 G7 127 ((v7).toNat) (wl ((G7 127 ((v7).toNat)) + (wl (M * y)))))) (0, 0) Q))) nof) nof))) nof := by
        intro m0 x y ex ey
        have hN := hvs (m - 1) h (by omega) (by omega) (by omega) (by omega)
        have xy : x ≤ W := by
          by_cases q : sSy (F 100) h = 1
          · rw [if_pos q] at eW; omega
          · have : ¬ 0 < sSn (F 100) (m - 1) h := fun r => q (by unfold sSy; exact if_pos ⟨m - 1, by omega, by omega, r⟩)
            omega
        have ob := sOth_b (p := p) (w := m - 1) hv (by omega) (by omega)
        have ab2 := sAf_b (l := F 100) (q := sOth (F 100) (m - 1) p) (st := st) (n := n) hs hst (by omega) (by omega)
        refine c_131 (by omega) (by omega) (by omega) (by omega) (by omega) (by omega) (by omega) (fun _ e => ?_)
        subst e
        rw [e31]
        have g0 := gb p _ (by omega) hp ab.1 ab.2
        have g9 := gb _ _ ob.1 ob.2 ab2.1 ab2.2
        have wx := wlM x (by omega) (by omega)
        have wy := wlM y (by omega) (by omega)
        refine ck_i (by (first | exact jb_i (by (first | assumption | omega | (simp (disch := omega) only [wr_id]; omega))) (by (first | assumption | omega | (simp (disch := omega) only [wr_id]; omega))) | exact jo_i (by omega) | exact jz_i (by omega) | rfl | (simp only [*]; first | rfl | exact jb_i (by (first | assumption | omega | (simp (disch := omega) only [wr_id]; omega))) (by (first | assumption | omega | (simp (disch := omega) only [wr_id]; omega)))))) (ck_i (by (first | exact jb_i (by (first | assumption | omega | (simp (disch := omega) only [wr_id]; omega))) (by (first | assumption | omega | (simp (disch := omega) only [wr_id]; omega))) | exact jo_i (by omega) | exact jz_i (by omega) | rfl | (simp only [*]; first | rfl | exact jb_i (by (first | assumption | omega | (simp (disch := omega) only [wr_id]; omega))) (by (first | assumption | omega | (simp (disch := omega) only [wr_id]; omega)))))) ?_)
        refine c_125 (by omega) (by omega) (fun _ e => ?_)
        subst e
        refine c_131 (by omega) (by omega) (by omega) (by omega) (by omega) (by omega) (by omega) (fun _ e => ?_)
        subst e
        rw [e31, wx.1, wy.1, wl_id (by omega) (by omega)]
        refine ck_i (by (first | exact jb_i (by (first | assumption | omega | (simp (disch := omega) only [wr_id]; omega))) (by (first | assumption | omega | (simp (disch := omega) only [wr_id]; omega))) | exact jo_i (by omega) | exact jz_i (by omega) | rfl | (simp only [*]; first | rfl | exact jb_i (by (first | assumption | omega | (simp (disch := omega) only [wr_id]; omega))) (by (first | assumption | omega | (simp (disch := omega) only [wr_id]; omega)))))) (ck_i (by (first | exact jb_i (by (first | assumption | omega | (simp (disch := omega) only [wr_id]; omega))) (by (first | assumption | omega | (simp (disch := omega) only [wr_id]; omega))) | exact jo_i (by omega) | exact jz_i (by omega) | rfl | (simp only [*]; first | rfl | exact jb_i (by (first | assumption | omega | (simp (disch := omega) only [wr_id]; omega))) (by (first | assumption | omega | (simp (disch := omega) only [wr_id]; omega)))))) (nx _ (FL_s hf hp (by omega) (by omega) he (fun p' n' a b c d => ?_) (fun h' p' n' v q => ?_)) (fun a q => by rw [u2_o q, u2_o q]; exact ho a q)))
        · have wz : wl ((u2 G1 127 ((((h : Int) + 1) * 12 + p) * 13 + sAf (F 100) st p n).toNat (G1 127 ((((h : Int) + 1) * 12 + p) * 13 + sAf (F 100) st p n).toNat + M * x)) 127 ((((h : Int) + 1) * 12 + sOth (F 100) (m - 1) p) * 13 + sAf (F 100) st (sOth (F 100) (m - 1) p) n).toNat + M * y) = (u2 G1 127 ((((h : Int) + 1) * 12 + p) * 13 + sAf (F 100) st p n).toNat (G1 127 ((((h : Int) + 1) * 12 + p) * 13 + sAf (F 100) st p n).toNat + M * x)) 127 ((((h : Int) + 1) * 12 + sOth (F 100) (m - 1) p) * 13 + sAf (F 100) st (sOth (F 100) (m - 1) p) n).toNat + M * y := by
            rw [u2_k]
            split <;> exact wl_id (by omega) (by omega)
          rw [wz, u2_k, u2_k, u2_k, ← em, sCt_m hv (by omega) hh m0 tk.2, ← eW, ← eM2, ← ex, ← ey, Int.mul_add]
          have d1 : ((((((h : Int) + 1) * 12 + p') * 13 + n').toNat = ((((h : Int) + 1) * 12 + p) * 13 + sAf (F 100) st p n).toNat) ↔ ((p : Int) = p' ∧ sAf (F 100) st p n = n')) := by omega
          have d2 : ((((((h : Int) + 1) * 12 + p') * 13 + n').toNat = ((((h : Int) + 1) * 12 + sOth (F 100) (m - 1) p) * 13 + sAf (F 100) st (sOth (F 100) (m - 1) p) n).toNat) ↔ (sOth (F 100) (m - 1) p = p' ∧ sAf (F 100) st (sOth (F 100) (m - 1) p) n = n')) := by omega
          have e1 : ∀ t : Int, M * (t * (if (p : Int) = p' ∧ sAf (F 100) st p n = n' then 1 else 0)) = if (p : Int) = p' ∧ sAf (F 100) st p n = n' then M * t else 0 := by
            intro t; split <;> simp
          have e2 : ∀ t : Int, M * (t * (if sOth (F 100) (m - 1) p = p' ∧ sAf (F 100) st (sOth (F 100) (m - 1) p) n = n' then 1 else 0)) = if sOth (F 100) (m - 1) p = p' ∧ sAf (F 100) st (sOth (F 100) (m - 1) p) n = n' then M * t else 0 := by
            intro t; split <;> simp
          rw [e1, e2]
          by_cases q2 : sOth (F 100) (m - 1) p = p' ∧ sAf (F 100) st (sOth (F 100) (m - 1) p) n = n'
          · rw [if_pos (d2.2 q2), if_pos q2, ← d2.2 q2]
            by_cases q1 : (p : Int) = p' ∧ sAf (F 100) st p n = n'
            · rw [if_pos (d1.2 q1), if_pos q1, ← d1.2 q1, Int.add_assoc]
            · rw [if_neg (fun r => q1 (d1.1 r)), if_neg q1, Int.zero_add]
          · rw [if_neg (fun r => q2 (d2.1 r)), if_neg q2, Int.add_zero]
            by_cases q1 : (p : Int) = p' ∧ sAf (F 100) st p n = n'
            · rw [if_pos (d1.2 q1), if_pos q1, ← d1.2 q1]
            · rw [if_neg (fun r => q1 (d1.1 r)), if_neg q1, Int.add_zero]
        · unfold vs at v
          rw [u2_n (by omega), u2_n (by omega)]
      refine c_123 (by omega) (by omega) (by omega) (by omega) (by omega) (by omega) (fun _ e => ?_)
      subst e
      rw [tt]
      refine ck_i (by (first | exact jb_i (by (first | assumption | omega | (simp (disch := omega) only [wr_id]; omega))) (by (first | assumption | omega | (simp (disch := omega) only [wr_id]; omega))) | exact jo_i (by omega) | exact jz_i (by omega) | rfl | (simp only [*]; first | rfl | exact jb_i (by (first | assumption | omega | (simp (disch := omega) only [wr_id]; omega))) (by (first | assumption | omega | (simp (disch := omega) only [wr_id]; omega)))))) ?_
      refine cn_i (fun m0 => ?_) (fun m0 => ?_)
      · refine ck_i (by (first | exact jb_i (by (first | assumption | omega | (simp (disch := omega) only [wr_id]; omega))) (by (first | assumption | omega | (simp (disch := omega) only [wr_id]; omega))) | exact jo_i (by omega) | exact jz_i (by omega) | rfl | (simp only [*]; first | rfl | exact jb_i (by (first | assumption | omega | (simp (disch := omega) only [wr_id]; omega))) (by (first | assumption | omega | (simp (disch := omega) only [wr_id]; omega)))))) ?_
        rw [sy]
        refine cn_i (fun y0 => cn_i (fun _ => nA m0 1 ?_) (fun r => absurd m0 r)) (fun y0 => cn_i (fun _ => nA m0 16 ?_) (fun r => absurd m0 r))
        · rw [eW, if_neg (by omega)]
        · rw [eW, if_pos (by omega)]
      · have hN := hvs (m - 1) h (by omega) (by omega) (by omega) (by omega)
        unfold sSn at hN
        try simp (disch := omega) only [wr_id]
        refine ck_i (by (first | exact jb_i (by (first | assumption | omega | (simp (disch := omega) only [wr_id]; omega))) (by (first | assumption | omega | (simp (disch := omega) only [wr_id]; omega))) | exact jo_i (by omega) | exact jz_i (by omega) | rfl | (simp only [*]; first | rfl | exact jb_i (by (first | assumption | omega | (simp (disch := omega) only [wr_id]; omega))) (by (first | assumption | omega | (simp (disch := omega) only [wr_id]; omega)))))) (ck_i (by (first | exact jb_i (by (first | assumption | omega | (simp (disch := omega) only [wr_id]; omega))) (by (first | assumption | omega | (simp (disch := omega) only [wr_id]; omega))) | exact jo_i (by omega) | exact jz_i (by omega) | rfl | (simp only [*]; first | rfl | exact jb_i (by (first | assumption | omega | (simp (disch := omega) only [wr_id]; omega))) (by (first | assumption | omega | (simp (disch := omega) only [wr_id]; omega)))))) ?_)
        rw [sy]
        refine cn_i (fun y0 => cn_i (fun r => absurd r m0) (fun _ => nB (by omega) _ _ rfl ?_)) (fun y0 => cn_i (fun r => absurd r m0) (fun _ => nB (by omega) _ _ rfl ?_))
        · rw [eW, if_neg (by omega)]
        · rw [eW, if_pos (by omega)]
    · refine nz (fun p' n' => iW_n (fun x => ?_))
      rw [i1.1, i1.2] at x
      exact g2 (e2.trans x.2)
theorem l_179_46 {Q : Rs → Mm → Prop} {T : Int → Int → Int → Int} {st : Int} {S : FS} {F : FI} {G : FJ} (hv : LV (F 100)) (hst : st ≤ 12) (e31 : F 97 31 = st) (hT : TK (F 100) T st) (h117 : ∀ h p n, vs (F 100) st h p n → sEnd (F 100) h p n = 0 → F 117 ((h * 12 + p) * 13 + n).toNat = T h p n) (h122 : ∀ h, 0 ≤ h → h < F 100 3 → F 122 h.toNat = sSy (F 100) h)
    (h : Nat) (hh : (h : Int) < F 100 3) (hs : 0 ≤ st) (hq : ∀ G2, FL (F 100) T st (G2 127) (h + 1) 0 → (∀ a, a ≠ 127 → G2 a = G a) → wph 2 179 34 [.inr (.inr (.inl 97)), .inl ((h : Int) + 1)] [] (mm S F G2) (0, 0) Q) :
    ∀ (K p : Nat) (G1 : FJ), (K : Int) = F 100 0 - p → FL (F 100) T st (G1 127) h (p * 13) → (∀ a, a ≠ 127 → G1 a = G a) → wph 2 179 46 [.inr (.inr (.inl 97)), .inl (h : Int), .inl (p : Int)] [] (mm S F G1) (0, 0) Q := by
  obtain ⟨⟨hv1, hv2⟩, ⟨hv3, hv4⟩, ⟨hv5, hv6⟩, ⟨hv7, hv8⟩, ⟨hv9, hv10⟩, ⟨hv11, hv12⟩, ⟨hv13, hv14⟩, hvw, hvs, hvk, hvc, hvx⟩ := id hv
  intro K
  induction K with
  | zero =>
    intro p G1 hK hf ho
    refine sg_179_46 ?_
    try simp (disch := omega) only [wr_id]
    refine cn_i (fun g => by omega) (fun g => ?_)
    refine hq G1 (FL_n (FL_z hf (by omega) (fun k k1 k2 p' n' => iW_n (fun x => ?_)))) ho
    have := x.1.1
    unfold iP at this
    omega
  | succ K ih =>
    intro p G1 hK hf ho
    refine sg_179_46 ?_
    try simp (disch := omega) only [wr_id]
    refine cn_i (fun g => ?_) (fun g => by omega)
    exact l_179_58 hv hst e31 hT h117 h122 h p hh (by omega) hs (fun G2 a b => ih (p + 1) G2 (by omega) a b) (st + 1).toNat 0 G1 (by omega) hf ho
theorem l_179_34 {Q : Rs → Mm → Prop} {T : Int → Int → Int → Int} {st : Int} {S : FS} {F : FI} {G : FJ} (hv : LV (F 100)) (hst : st ≤ 12) (e31 : F 97 31 = st) (hT : TK (F 100) T st) (h117 : ∀ h p n, vs (F 100) st h p n → sEnd (F 100) h p n = 0 → F 117 ((h * 12 + p) * 13 + n).toNat = T h p n) (h122 : ∀ h, 0 ≤ h → h < F 100 3 → F 122 h.toNat = sSy (F 100) h)
    (hs : 0 ≤ st) (hq : ∀ G2, (∀ h p n, vs (F 100) st h p n → G2 127 ((h * 12 + p) * 13 + n).toNat = sMs (F 100) T st h.toNat p n) → (∀ a, a ≠ 127 → G2 a = G a) → Q (.inl none) (mm S F G2)) :
    ∀ (K h : Nat) (G1 : FJ), (K : Int) = F 100 3 - h → FL (F 100) T st (G1 127) h 0 → (∀ a, a ≠ 127 → G1 a = G a) → wph 2 179 34 [.inr (.inr (.inl 97)), .inl (h : Int)] [] (mm S F G1) (0, 0) Q := by
  obtain ⟨⟨hv1, hv2⟩, ⟨hv3, hv4⟩, ⟨hv5, hv6⟩, ⟨hv7, hv8⟩, ⟨hv9, hv10⟩, ⟨hv11, hv12⟩, ⟨hv13, hv14⟩, hvw, hvs, hvk, hvc, hvx⟩ := id hv
  intro K
  induction K with
  | zero =>
    intro h G1 hK hf ho
    refine sg_179_34 ?_
    refine cn_i (fun g => by omega) (fun g => ?_)
    exact hq G1 (fun h' p' n' w => (hf h' p' n' w).1 (by have := w.2.1; omega)) ho
  | succ K ih =>
    intro h G1 hK hf ho
    refine sg_179_34 ?_
    refine cn_i (fun g => ?_) (fun g => by omega)
    exact l_179_46 hv hst e31 hT h117 h122 h (by omega) hs (fun G2 a b => ih (h + 1) G2 (by omega) a b) (F 100 0).toNat 0 G1 (by omega) (by rw [Nat.zero_mul]; exact hf) ho
set_option maxRecDepth 100000 in
theorem l_179_2 {Q : Rs → Mm → Prop} {S : FS} {F : FI} {G : FJ} (hv : LV (F 100)) (hs : 0 ≤ F 97 31) (hst : F 97 31 ≤ 12)
    (hq : ∀ G2, (∀ i : Nat, (i : Int) < 3900 → G2 127 i = if (i : Int) = (0 * 12 + F 100 6) * 13 + F 97 31 then 1 else 0) → (∀ a, a ≠ 127 → G2 a = G a) → wph 2 179 34 [.inr (.inr (.inl 97)), .inl 0] [] (mm S F G2) (0, 0) Q) :
    ∀ (K x : Nat) (G1 : FJ), (K : Int) = 3900 - x → (∀ i : Nat, i < x → G1 127 i = 0) → (∀ a, a ≠ 127 → G1 a = G a) → wph 2 179 2 [.inr (.inr (.inl 97)), .inl (x : Int)] [] (mm S F G1) (0, 0) Q := by
  obtain ⟨⟨hv1, hv2⟩, ⟨hv3, hv4⟩, ⟨hv5, hv6⟩, ⟨hv7, hv8⟩, ⟨hv9, hv10⟩, ⟨hv11, hv12⟩, ⟨hv13, hv14⟩, hvw, hvs, hvk, hvc, hvx⟩ := id hv
  intro K
  induction K with
  | zero =>
    intro x G1 hK hf ho
    refine sg_179_2 ?_
    try simp (disch := omega) only [wr_id]
    refine cn_i (fun g => by omega) (fun g => ?_)
    refine c_145 hv hs hst (fun v e => ?_)
    refine ck_i (by (first | exact jb_i (by (first | assumption | omega | (simp (disch := omega) only [wr_id]; omega))) (by (first | assumption | omega | (simp (disch := omega) only [wr_id]; omega))) | exact jo_i (by omega) | exact jz_i (by omega) | rfl | (simp only [*]; first | rfl | exact jb_i (by (first | assumption | omega | (simp (disch := omega) only [wr_id]; omega))) (by (first | assumption | omega | (simp (disch := omega) only [wr_id]; omega)))))) (hq _ (fun i hi => ?_) (fun a q => by rw [u2_o q]; exact ho a q))
    rw [u2_k]
    by_cases q : i = v.toNat
    · rw [if_pos q, if_pos (by omega)]
    · rw [if_neg q, if_neg (by omega)]; exact hf i (by omega)
  | succ K ih =>
    intro x G1 hK hf ho
    refine sg_179_2 ?_
    try simp (disch := omega) only [wr_id]
    refine cn_i (fun g => ?_) (fun g => by omega)
    refine ck_i (by (first | exact jb_i (by (first | assumption | omega | (simp (disch := omega) only [wr_id]; omega))) (by (first | assumption | omega | (simp (disch := omega) only [wr_id]; omega))) | exact jo_i (by omega) | exact jz_i (by omega) | rfl | (simp only [*]; first | rfl | exact jb_i (by (first | assumption | omega | (simp (disch := omega) only [wr_id]; omega))) (by (first | assumption | omega | (simp (disch := omega) only [wr_id]; omega)))))) (ih (x + 1) _ (by omega) (fun i hi => ?_) (fun a q => by rw [u2_o q]; exact ho a q))
    rw [u2_k]
    by_cases q : i = ((x : Int)).toNat
    · rw [if_pos q]
    · rw [if_neg q]; exact hf i (by omega)
/-- where the chance is stands in the table -/
def MB (l : Nat → Int) (T : Int → Int → Int → Int) (st : Int) (G : FJ) : Prop := ∀ h p n, vs l st h p n → G 127 ((h * 12 + p) * 13 + n).toNat = sMs l T st h.toNat p n
set_option maxRecDepth 100000 in
theorem c_179 {k : FS → FI → FJ → Prop} {T : Int → Int → Int → Int} {S : FS} {F : FI} {G : FJ} (hv : LV (F 100)) (hs : 0 ≤ F 97 31) (hst : F 97 31 ≤ 12) (hT : TK (F 100) T (F 97 31)) (h117 : ∀ h p n, vs (F 100) (F 97 31) h p n → sEnd (F 100) h p n = 0 → F 117 ((h * 12 + p) * 13 + n).toNat = T h p n) (h122 : ∀ h, 0 ≤ h → h < F 100 3 → F 122 h.toNat = sSy (F 100) h)
    (hk : ∀ G', MB (F 100) T (F 97 31) G' → (∀ a, a ≠ 127 → G' a = G a) → k S F G') : calV 2 179 [.inr (.inr (.inl 97))] (mm S F G) k nof := by
  obtain ⟨⟨hv1, hv2⟩, ⟨hv3, hv4⟩, ⟨hv5, hv6⟩, ⟨hv7, hv8⟩, ⟨hv9, hv10⟩, ⟨hv11, hv12⟩, ⟨hv13, hv14⟩, hvw, hvs, hvk, hvc, hvx⟩ := id hv
  refine sg_179_0 ?_
  refine l_179_2 hv hs hst (fun G1 h1 ho => ?_) 3900 0 G (by omega) (fun i a => by omega) (fun _ _ => rfl)
  refine l_179_34 hv hst rfl hT h117 h122 hs (fun G2 h2 ho2 => ⟨_, _, _, rfl, hk G2 h2 (fun a q => (ho2 a q).trans (ho a q))⟩) (F 100 3).toNat 0 G1 (by omega) (fun h' p' n' w => ?_) (fun _ _ => rfl)
  unfold vs at w
  refine ⟨fun e => ?_, fun e => ?_, fun e => ?_⟩
  · have : h' = 0 := by omega
    subst this
    rw [h1 _ (by omega)]
    show _ = (if F 100 6 = p' ∧ F 97 31 = n' then (1 : Int) else 0)
    by_cases q : F 100 6 = p' ∧ F 97 31 = n'
    · rw [if_pos q, if_pos (by omega)]
    · rw [if_neg q, if_neg (by omega)]
  · rw [h1 _ (by omega), if_neg (by omega)]; rfl
  · rw [h1 _ (by omega), if_neg (by omega)]
