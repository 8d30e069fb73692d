/-! ===== the reference sets up, and plays as it is ===== -/
/-- two ways to be tried, alike from an hour on -/
def CE (l : Nat → Int) (st a : Int) (c d : Cf) : Prop := (∀ h, a ≤ h → h < l 3 → c.1 h = d.1 h) ∧ (∀ k, 0 ≤ k → k < l 2 → c.2.1 k = d.2.1 k) ∧ (∀ h, a ≤ h → h < l 3 → c.2.2.1 h = d.2.2.1 h) ∧
  (∀ k h p n, 0 ≤ k → k < l 2 → vs l st h p n → sEnd l h p n = 0 → c.2.2.2.1 k h p n = d.2.2.2.1 k h p n) ∧ c.2.2.2.2 = d.2.2.2.2
theorem sDr_cc {l : Nat → Int} {st a : Int} {mk mk' : Int → Int → Int → Int → Int} {ld ld' : Int → Int} {k : Int} (hv : LV l) (hs : 0 ≤ st) (hst : st ≤ 12) (ha : 0 ≤ a) (hm : MK l st mk) (hl : ∀ h, a ≤ h → h < l 3 → 0 ≤ ld h ∧ ld h < l 2) (he : ∀ h, a ≤ h → h < l 3 → ld h = ld' h)
    (hmk : ∀ k h p n, 0 ≤ k → k < l 2 → vs l st h p n → sEnd l h p n = 0 → mk k h p n = mk' k h p n) :
    ∀ t : Nat, (t : Int) ≤ l 3 - a → ∀ p n, 0 ≤ p → p < l 0 → 0 ≤ n → n ≤ st → sDr l st mk ld k t p n = sDr l st mk' ld' k t p n := by
  obtain ⟨⟨hv1, hv2⟩, ⟨hv3, hv4⟩, ⟨hv5, hv6⟩, ⟨hv7, hv8⟩, ⟨hv9, hv10⟩, ⟨hv11, hv12⟩, ⟨hv13, hv14⟩, hvw, hvs, hvk, hvc, hvx⟩ := id hv
  intro t
  induction t with
  | zero => intro _ p n _ _ _ _; rfl
  | succ t ih =>
    intro ht p n h1 h2 h3 h4
    have i := ih (by omega)
    unfold sDr
    by_cases c : sEnd l (l 3 - ((t : Int) + 1)) p n = 0
    · obtain ⟨c1, c2⟩ := sEnd_n c
      have hP : ¬ (sEnd l (l 3 - ((t : Int) + 1)) p n ≠ 0) := by rw [c]; decide
      rw [if_neg hP, if_neg hP, ← he _ (by omega) (by omega)]
      have lh := hl (l 3 - ((t : Int) + 1)) (by omega) (by omega)
      rw [← hmk _ _ p n lh.1 lh.2 ⟨by omega, by omega, h1, h2, h3, h4⟩ c]
      have e : ∀ m : Int, 0 ≤ m → m ≤ l 1 → sBr l st (l 3 - ((t : Int) + 1)) p n m (sDr l st mk ld k t) = sBr l st (l 3 - ((t : Int) + 1)) p n m (sDr l st mk' ld' k t) := fun m m1 m2 => sBr_c hv hs h1 h2 (by omega) h4 m1 m2 hst i
      have mb := bst_in (v := fun m => (if ld (l 3 - ((t : Int) + 1)) = k then 1 else -1) * sBr l st (l 3 - ((t : Int) + 1)) p n m (sDr l st mk ld k t)) hv3 (hm _ _ p n lh.1 lh.2 (by omega) (by omega) h1 h2 h3 h4 c).2.2
      rw [e _ mb.1 mb.2.1]
      congr 1
      exact bst_c (fun m m1 m2 _ => by rw [e m m1 (by omega)])
    · rw [if_pos c, if_pos c]
theorem sPick_cc {l : Nat → Int} {c d : Cf} {st h p n bits : Int} {W A B : Int → Int → Int → Int} (h1 : c.1 h = d.1 h) (h2 : c.2.1 (d.1 h) = d.2.1 (d.1 h)) (h3 : c.2.2.1 h = d.2.2.1 h) (h4 : c.2.2.2.2 = d.2.2.2.2) : sPick l c st h p n bits W A B = sPick l d st h p n bits W A B := by
  unfold sPick
  rw [h1, h2, h3, h4]
theorem sTk_cc {l : Nat → Int} {st a : Int} {c d : Cf} (hv : LV l) (hs : 0 ≤ st) (hst : st ≤ 12) (ha : 0 ≤ a) (hc : CV l st c) (hd : CV l st d) (he : CE l st a c d) {h p n : Int} (h0 : a ≤ h) (hw : vs l st h p n)
    (hW : ∀ k q s, 0 ≤ k → k < l 2 → 0 ≤ q → q < l 0 → 0 ≤ s → s ≤ st → sW l c st (l 3 - (h + 1)).toNat k q s = sW l d st (l 3 - (h + 1)).toNat k q s) : sTk l c st h p n = sTk l d st h p n := by
  obtain ⟨e1, e2, e3, e4, e5⟩ := he
  obtain ⟨w1, w2, w3, w4, w5, w6⟩ := id hw
  by_cases q : sEnd l h p n = 0
  · obtain ⟨c1, c2⟩ := sEnd_n q
    have hh : h < l 3 := by omega
    have lh := hd.1 h w1 hh
    have t1 : (((l 3 - (h + 1)).toNat : Nat) : Int) ≤ l 3 - a := by omega
    rw [sTk_g hh q, sTk_g hh q, sPick_cc (e1 h h0 hh) (e2 _ lh.1 lh.2) (e3 h h0 hh) e5, e1 h h0 hh, e4 _ h p n lh.1 lh.2 hw q]
    refine sPick_c hv hd hs hst w1 hh w3 w4 (by omega) w6 hW (fun _ q s a b c d => ?_) (fun _ q s a b c d => ?_)
    · exact sDr_cc hv hs hst ha hc.2.2.1 (fun _ _ _ => lh) (fun _ _ _ => rfl) e4 _ t1 q s a b c d
    · exact sDr_cc hv hs hst ha hc.2.2.1 (fun h' x y => hc.1 h' (by omega) y) e1 e4 _ t1 q s a b c d
  · unfold sTk
    rw [if_pos q, if_pos q]
theorem sW_cc {l : Nat → Int} {st a : Int} {c d : Cf} (hv : LV l) (hs : 0 ≤ st) (hst : st ≤ 12) (ha : 0 ≤ a) (hc : CV l st c) (hd : CV l st d) (he : CE l st a c d) :
    ∀ t : Nat, (t : Int) ≤ l 3 - a → ∀ k p n, 0 ≤ k → k < l 2 → 0 ≤ p → p < l 0 → 0 ≤ n → n ≤ st → sW l c st t k p n = sW l d st t k p n := by
  obtain ⟨⟨hv1, hv2⟩, ⟨hv3, hv4⟩, ⟨hv5, hv6⟩, ⟨hv7, hv8⟩, ⟨hv9, hv10⟩, ⟨hv11, hv12⟩, ⟨hv13, hv14⟩, hvw, hvs, hvk, hvc, hvx⟩ := id hv
  intro t
  induction t with
  | zero => intro _ k p n _ _ _ _ _ _; rfl
  | succ t ih =>
    intro ht k p n k1 k2 h1 h2 h3 h4
    have i := ih (by omega)
    have hh : (l 3 - (l 3 - ((t : Int) + 1))).toNat = t + 1 := by omega
    have hh2 : (l 3 - (l 3 - ((t : Int) + 1) + 1)).toNat = t := by omega
    have hw : vs l st (l 3 - ((t : Int) + 1)) p n := ⟨by omega, by omega, h1, h2, h3, h4⟩
    by_cases q : sEnd l (l 3 - ((t : Int) + 1)) p n = 0
    · obtain ⟨c1, c2⟩ := sEnd_n q
      have e := sW_g (c := c) (st := st) (k := k) (by omega) q
      have e' := sW_g (c := d) (st := st) (k := k) (by omega) q
      rw [hh, hh2] at e e'
      have tk := sTk_in hv hc hw q
      rw [e, e', ← sTk_cc hv hs hst ha hc hd he (by omega) hw (by rw [hh2]; exact i)]
      exact sBr_c hv hs h1 h2 (by omega) h4 tk.1 tk.2 hst (fun q s a b c d => i k q s k1 k2 a b c d)
    · have e := sW_e (c := c) (st := st) (k := k) (by omega) q
      have e' := sW_e (c := d) (st := st) (k := k) (by omega) q
      rw [hh] at e e'
      rw [e, e']
theorem sTk_ce {l : Nat → Int} {st a : Int} {c d : Cf} (hv : LV l) (hs : 0 ≤ st) (hst : st ≤ 12) (ha : 0 ≤ a) (hc : CV l st c) (hd : CV l st d) (he : CE l st a c d) {h p n : Int} (h0 : a ≤ h) (hw : vs l st h p n) : sTk l c st h p n = sTk l d st h p n := by
  obtain ⟨w1, w2, w3, w4, w5, w6⟩ := id hw
  by_cases q : sEnd l h p n = 0
  · obtain ⟨c1, c2⟩ := sEnd_n q
    exact sTk_cc hv hs hst ha hc hd he h0 hw (fun k q s k1 k2 a b c d => sW_cc hv hs hst ha hc hd he _ (by omega) k q s k1 k2 a b c d)
  · unfold sTk
    rw [if_pos q, if_pos q]
/-- as it is told -/
noncomputable def sCf (l s : Nat → Int) (w : La) : Cf := (fun h => sLd l s h, fun k => s k.toNat, fun h => s (5 + h).toNat, sMask l w (-1), -1, -1, 0)
theorem sCf_v {l s : Nat → Int} {w : La} (st : Int) (hv : LV l) (hs : SV l s) : CV l st (sCf l s w) := by
  obtain ⟨⟨hv1, hv2⟩, ⟨hv3, hv4⟩, ⟨hv5, hv6⟩, ⟨hv7, hv8⟩, ⟨hv9, hv10⟩, ⟨hv11, hv12⟩, ⟨hv13, hv14⟩, hvw, hvs, hvk, hvc, hvx⟩ := id hv
  exact ⟨fun h a b => sLd_b hv hs a (by omega), hs.2.1, MK_mask hv _ _ _, Or.inl rfl, fun _ => rfl⟩
def GB (G : FJ) : Prop := (∀ i, B5 (G 119 i)) ∧ (∀ i, B5 (G 120 i)) ∧ (∀ i, B5 (G 121 i))
/-- nothing is tried between calls -/
def OM (F : FI) : Prop := F 97 32 = -1 ∧ F 97 33 = -1 ∧ F 97 34 = -1 ∧ F 97 35 = 0
/-- what is known already is right -/
def KNO (F : FI) (G : FJ) : Prop := OM F ∧ (F 97 28 = 0 ∨ F 97 28 = 1) ∧ (F 97 28 = 1 → RDY (F 100) (F 100 4) (sMask (F 100) (mL F) (-1)) F G)
/-- cells of the reference that a question leaves as they are -/
def kpM (a : Nat) : Prop := a ≠ 97 ∧ a ≠ 110 ∧ a ≠ 111 ∧ ¬ (114 ≤ a ∧ a ≤ 127)
def kpF (i : Nat) : Prop := i = 0 ∨ i = 2 ∨ i = 8 ∨ i = 12 ∨ i = 13 ∨ i = 27
def kpG (a : Nat) : Prop := a ≠ 97 ∧ ¬ (118 ≤ a ∧ a ≤ 127)
def PM (F F' : FI) (G G' : FJ) : Prop := (∀ a, kpM a → F' a = F a) ∧ (∀ i, kpF i → F' 97 i = F 97 i) ∧ (∀ a, kpG a → G' a = G a)
theorem PM_r {F : FI} {G : FJ} : PM F F G G := ⟨fun _ _ => rfl, fun _ _ => rfl, fun _ _ => rfl⟩
theorem PM_t {F F' F2 : FI} {G G' G2 : FJ} (h1 : PM F F' G G') (h2 : PM F' F2 G' G2) : PM F F2 G G2 := ⟨fun a h => (h2.1 a h).trans (h1.1 a h), fun a h => (h2.2.1 a h).trans (h1.2.1 a h), fun a h => (h2.2.2 a h).trans (h1.2.2 a h)⟩
theorem kp100 : kpM 100 := by unfold kpM; omega
theorem kp112 : kpM 112 := by unfold kpM; omega
theorem PM_L {F F' : FI} {G G' : FJ} (h : PM F F' G G') : mL F' = mL F :=
  mL_c (h.2.1 13 (by unfold kpF; omega)) (h.1 _ (by unfold kpM; omega)) (h.1 _ (by unfold kpM; omega)) (h.1 _ (by unfold kpM; omega)) (h.1 _ (by unfold kpM; omega))
/-- the reference between calls, as far as questions want it -/
def MV (F : FI) (G : FJ) : Prop := LV (F 100) ∧ SV (F 100) (F 112) ∧ LW (mL F) ∧ KNO F G ∧ GB G
theorem MV_p {F F' : FI} {G G' : FJ} (h : MV F G) (p : PM F F' G G') (hk : KNO F' G') (hg : GB G') : MV F' G' := by
  obtain ⟨h1, h2, h3, -, -⟩ := h
  exact ⟨by rw [p.1 100 kp100]; exact h1, by rw [p.1 100 kp100, p.1 112 kp112]; exact h2, by rw [PM_L p]; exact h3, hk, hg⟩
/-- the law's masks -/
noncomputable def mk0 (F : FI) : Int → Int → Int → Int → Int := sMask (F 100) (mL F) (-1)
/-- ready to play what c says -/
def RD (F F' : FI) (G G' : FJ) (c : Cf) : Prop := PM F F' G G' ∧ F' 97 28 = 1 ∧ F' 97 32 = -1 ∧ F' 97 31 = F 100 4 ∧ CE (F 100) (F 100 4) 0 (mC F' (mk0 F)) c ∧ RDY (F 100) (F 100 4) (mk0 F) F' G' ∧ GB G'
/-- what comes of it stands in the tables -/
def TB (l : Nat → Int) (c : Cf) (st : Int) (F : FI) (G : FJ) : Prop := (∀ h p n, vs l st h p n → F 117 ((h * 12 + p) * 13 + n).toNat = sTk l c st h p n) ∧ (∀ k h p n, 0 ≤ k → k < l 2 → vs l st h p n → G 119 (k * 3900 + ((h * 12 + p) * 13 + n)).toNat = sW l c st (l 3 - h).toNat k p n)
