/-! ===== of the document's numbers: how large, what they rest on ===== -/
theorem sSc_1 (l : Nat → Int) : ∀ t, 1 ≤ sSc l t := by
  intro t
  induction t with
  | zero => simp [sSc]
  | succ n ih =>
    unfold sSc
    split <;> omega
theorem sSc_m (l : Nat → Int) {a : Nat} : ∀ {b : Nat}, a ≤ b → sSc l a ≤ sSc l b := by
  intro b
  induction b with
  | zero => intro h; rw [Nat.le_zero.mp h]; exact Int.le_refl _
  | succ n ih =>
    intro h
    by_cases c : a = n + 1
    · rw [c]; exact Int.le_refl _
    · have h1 := ih (by omega)
      have h2 := sSc_1 l n
      show _ ≤ sSc l n * _
      split <;> omega
theorem sSc_s (l : Nat → Int) {h : Int} (h1 : 0 ≤ h) (h2 : h < l 3) : sScH l h = sScH l (h + 1) * (if sSy l h = 1 then 16 else 1) := by
  unfold sScH
  rw [show (l 3 - h).toNat = (l 3 - (h + 1)).toNat + 1 by omega]
  show sSc l _ * _ = _
  rw [show l 3 - ((((l 3 - (h + 1)).toNat : Nat) : Int) + 1) = h by omega]
theorem sScH_b {l : Nat → Int} (hv : LV l) {h : Int} (h1 : 0 ≤ h) (h2 : h ≤ l 3) : 1 ≤ sScH l h ∧ sScH l h ≤ 1099511627776 := by
  obtain ⟨⟨hv1, hv2⟩, ⟨hv3, hv4⟩, ⟨hv5, hv6⟩, ⟨hv7, hv8⟩, ⟨hv9, hv10⟩, ⟨hv11, hv12⟩, ⟨hv13, hv14⟩, hvw, hvs, hvk, hvc, hvx⟩ := id hv
  unfold sScH
  exact ⟨sSc_1 l _, Int.le_trans (sSc_m l (by omega)) hvx⟩
/-- how large worths are -/
def WB (l : Nat → Int) (t : Nat) (x : Int) : Prop := -(315 * sSc l t) ≤ x ∧ x ≤ 315 * sSc l t
theorem WB_5 {l : Nat → Int} (hv : LV l) {t : Nat} (ht : (t : Int) ≤ l 3) {x : Int} (h : WB l t x) : B5 x := by
  obtain ⟨⟨hv1, hv2⟩, ⟨hv3, hv4⟩, ⟨hv5, hv6⟩, ⟨hv7, hv8⟩, ⟨hv9, hv10⟩, ⟨hv11, hv12⟩, ⟨hv13, hv14⟩, hvw, hvs, hvk, hvc, hvx⟩ := id hv
  have h1 := sSc_m l (a := t) (b := (l 3).toNat) (by omega)
  have h2 := sSc_1 l t
  unfold WB at h
  unfold B5
  omega
theorem mul_b {a b c : Int} (h1 : -c ≤ a) (h2 : a ≤ c) (hb : 0 ≤ b) : -(c * b) ≤ a * b ∧ a * b ≤ c * b := by
  have h3 := Int.mul_le_mul_of_nonneg_right h2 hb
  have h4 := Int.mul_le_mul_of_nonneg_right h1 hb
  rw [Int.neg_mul] at h4
  exact ⟨h4, h3⟩
theorem sEv_0 {l : Nat → Int} (hv : LV l) {k h p e : Int} (h1 : 0 ≤ k) (h2 : k < l 2) (h3 : 0 ≤ h) (h4 : h ≤ l 3) (h5 : 0 ≤ p) (h6 : p < l 0) :
    0 ≤ h * l (67 + k).toNat ∧ h * l (67 + k).toNat ≤ 216 ∧ -315 ≤ (if e = 2 then -(l 5) else l (72 + 12 * k + p).toNat) - h * l (67 + k).toNat ∧ (if e = 2 then -(l 5) else l (72 + 12 * k + p).toNat) - h * l (67 + k).toNat ≤ 315 := by
  obtain ⟨⟨hv1, hv2⟩, ⟨hv3, hv4⟩, ⟨hv5, hv6⟩, ⟨hv7, hv8⟩, ⟨hv9, hv10⟩, ⟨hv11, hv12⟩, ⟨hv13, hv14⟩, hvw, hvs, hvk, hvc, hvx⟩ := id hv
  have c1 := hvc k h1 (by omega)
  have c2 := hvk k p h1 (by omega) h5 (by omega)
  have a1 : 0 ≤ h * l (67 + k).toNat := Int.mul_nonneg h3 c1.1
  have a2 : h * l (67 + k).toNat ≤ 24 * 9 := Int.mul_le_mul (by omega) c1.2 c1.1 (by omega)
  refine ⟨a1, a2, ?_, ?_⟩ <;> split <;> omega
theorem sEv_b {l : Nat → Int} (hv : LV l) {k h p e : Int} (h1 : 0 ≤ k) (h2 : k < l 2) (h3 : 0 ≤ h) (h4 : h ≤ l 3) (h5 : 0 ≤ p) (h6 : p < l 0) : WB l (l 3 - h).toNat (sEv l k h p e) := by
  obtain ⟨-, -, h7, h8⟩ := sEv_0 (e := e) hv h1 h2 h3 h4 h5 h6
  exact mul_b h7 h8 (Int.le_of_lt (sSc_1 l (l 3 - h).toNat))
theorem sBr_c {l : Nat → Int} {st h p n m : Int} {f g : Int → Int → Int} (hv : LV l) (hs : 0 ≤ st) (h1 : 0 ≤ p) (h2 : p < l 0) (h3 : 1 ≤ n) (h4 : n ≤ st) (h5 : 0 ≤ m) (h6 : m ≤ l 1) (hst : st ≤ 12)
    (hf : ∀ q s, 0 ≤ q → q < l 0 → 0 ≤ s → s ≤ st → f q s = g q s) : sBr l st h p n m f = sBr l st h p n m g := by
  have a1 := sAf_b (l := l) (q := p) hs hst h3 h4
  have e1 := hf p (sAf l st p n) h1 h2 a1.1 a1.2
  unfold sBr
  rw [e1]
  by_cases c : m = 0
  · rw [if_pos c, if_pos c]
  · have a2 := sAf_b (l := l) (q := sOth l (m - 1) p) hs hst h3 h4
    have o1 := sOth_b (p := p) (w := m - 1) hv (by omega) (by omega)
    rw [if_neg c, if_neg c, hf _ _ o1.1 o1.2 a2.1 a2.2]
theorem sBr_w {l : Nat → Int} {st h p n m : Int} {f : Int → Int → Int} {t : Nat} (hv : LV l) (hs : 0 ≤ st) (hst : st ≤ 12) (h1 : 0 ≤ p) (h2 : p < l 0) (h3 : 1 ≤ n) (h4 : n ≤ st) (h5 : 0 ≤ m) (h6 : m ≤ l 1) (h7 : 0 ≤ h) (h8 : h < l 3)
    (ht : h = l 3 - ((t : Int) + 1)) (hf : ∀ q s, 0 ≤ q → q < l 0 → 0 ≤ s → s ≤ st → WB l t (f q s)) : WB l (t + 1) (sBr l st h p n m f) := by
  obtain ⟨⟨hv1, hv2⟩, ⟨hv3, hv4⟩, ⟨hv5, hv6⟩, ⟨hv7, hv8⟩, ⟨hv9, hv10⟩, ⟨hv11, hv12⟩, ⟨hv13, hv14⟩, hvw, hvs, hvk, hvc, hvx⟩ := id hv
  have a1 := sAf_b (l := l) (q := p) hs hst h3 h4
  have e1 := hf p (sAf l st p n) h1 h2 a1.1 a1.2
  unfold WB at e1 ⊢
  have e0 : sSc l (t + 1) = sSc l t * (if sSy l h = 1 then 16 else 1) := by rw [ht]; rfl
  rw [e0]
  have e3 := sSc_1 l t
  unfold sBr
  by_cases c : m = 0
  · rw [if_pos c]
    by_cases d : sSy l h = 1
    · rw [if_pos d, if_pos d]; omega
    · rw [if_neg d, if_neg d]; omega
  · have a2 := sAf_b (l := l) (q := sOth l (m - 1) p) hs hst h3 h4
    have o1 := sOth_b (p := p) (w := m - 1) hv (by omega) (by omega)
    have e2 := hf _ _ o1.1 o1.2 a2.1 a2.2
    unfold WB at e2
    rw [if_neg c]
    by_cases d : sSy l h = 1
    · rw [if_pos d, if_pos d]
      have hN := hvs (m - 1) h (by omega) (by omega) (by omega) (by omega)
      have m1 := mul_b e1.1 e1.2 hN.1
      have m2 := mul_b (b := 16 - sSn l (m - 1) h) e2.1 e2.2 (by omega)
      rw [Int.mul_comm (sSn l (m - 1) h) _, Int.mul_comm (16 - sSn l (m - 1) h) _]
      have m3 : 315 * sSc l t * (16 - sSn l (m - 1) h) = 315 * sSc l t * 16 - 315 * sSc l t * sSn l (m - 1) h := Int.mul_sub _ _ _
      omega
    · rw [if_neg d, if_neg d]; omega
/-- masks that hold a move at least, and none but moves -/
def MK (l : Nat → Int) (st : Int) (mk : Int → Int → Int → Int → Int) : Prop := ∀ k h p n, 0 ≤ k → k < l 2 → 0 ≤ h → h < l 3 → 0 ≤ p → p < l 0 → 0 ≤ n → n ≤ st → sEnd l h p n = 0 → 0 ≤ mk k h p n ∧ mk k h p n < 33554432 ∧ ∃ m, 0 ≤ m ∧ m ≤ l 1 ∧ bit (mk k h p n) m
theorem bst_in {l : Nat → Int} {v : Int → Int} {b : Int} (h0 : 0 ≤ l 1) (h : ∃ m, 0 ≤ m ∧ m ≤ l 1 ∧ bit b m) : 0 ≤ bst v b (l 1 + 1).toNat ∧ bst v b (l 1 + 1).toNat ≤ l 1 ∧ bit b (bst v b (l 1 + 1).toNat) := by
  obtain ⟨m, h1, h2, h3⟩ := h
  have a := bst_r v b (l 1 + 1).toNat
  have c := bst_ne (v := v) (n := (l 1 + 1).toNat) h1 (by omega) h3
  exact ⟨by omega, by omega, a.2.2 c⟩
theorem sEnd_n {l : Nat → Int} {h p n : Int} (h1 : sEnd l h p n = 0) : n ≠ 0 ∧ h ≠ l 3 := by
  unfold sEnd at h1
  refine ⟨fun q => ?_, fun q => ?_⟩
  · rw [if_pos q] at h1
    split at h1 <;> omega
  · rw [if_pos q] at h1
    split at h1 <;> (try split at h1) <;> omega
theorem sEnd_l (l : Nat → Int) (p n : Int) : sEnd l (l 3) p n ≠ 0 := fun h => (sEnd_n h).2 rfl
theorem sDr_e {l : Nat → Int} {st : Int} {mk : Int → Int → Int → Int → Int} {ld : Int → Int} {k h p n : Int} (h2 : h ≤ l 3) (he : sEnd l h p n ≠ 0) : sDr l st mk ld k (l 3 - h).toNat p n = sEv l k h p (sEnd l h p n) := by
  by_cases c : h = l 3
  · rw [c, show (l 3 - l 3).toNat = 0 by omega]
    rfl
  · obtain ⟨t, ht⟩ : ∃ t : Nat, (l 3 - h).toNat = t + 1 := ⟨(l 3 - h).toNat - 1, by omega⟩
    rw [ht]
    have e : l 3 - ((t : Int) + 1) = h := by omega
    show (if _ then _ else _) = _
    rw [e, if_pos he]
theorem sDr_g {l : Nat → Int} {st : Int} {mk : Int → Int → Int → Int → Int} {ld : Int → Int} {k h p n : Int} (h2 : h < l 3) (he : sEnd l h p n = 0) : sDr l st mk ld k (l 3 - h).toNat p n =
    sBr l st h p n (bst (fun m => (if ld h = k then 1 else -1) * sBr l st h p n m (sDr l st mk ld k (l 3 - (h + 1)).toNat)) (mk (ld h) h p n) (l 1 + 1).toNat) (sDr l st mk ld k (l 3 - (h + 1)).toNat) := by
  obtain ⟨t, ht⟩ : ∃ t : Nat, (l 3 - h).toNat = t + 1 := ⟨(l 3 - h).toNat - 1, by omega⟩
  have e : l 3 - ((t : Int) + 1) = h := by omega
  rw [ht, show (l 3 - (h + 1)).toNat = t by omega]
  show (if _ then _ else _) = _
  rw [e, if_neg (by rw [he]; decide)]
theorem sDr_b {l : Nat → Int} {st : Int} {mk : Int → Int → Int → Int → Int} {ld : Int → Int} {k : Int} (hv : LV l) (hs : 0 ≤ st) (hst : st ≤ 12) (hm : MK l st mk) (hk : 0 ≤ k) (hk2 : k < l 2) (hl : ∀ h, 0 ≤ h → h < l 3 → 0 ≤ ld h ∧ ld h < l 2) :
    ∀ t : Nat, (t : Int) ≤ l 3 → ∀ p n, 0 ≤ p → p < l 0 → 0 ≤ n → n ≤ st → WB l t (sDr l st mk ld k t p n) := by
  obtain ⟨⟨hv1, hv2⟩, ⟨hv3, hv4⟩, ⟨hv5, hv6⟩, ⟨hv7, hv8⟩, ⟨hv9, hv10⟩, ⟨hv11, hv12⟩, ⟨hv13, hv14⟩, hvw, hvs, hvk, hvc, hvx⟩ := id hv
  intro t
  induction t with
  | zero =>
    intro _ p n h1 h2 h3 h4
    have := sEv_b (e := sEnd l (l 3) p n) hv hk hk2 (h := l 3) (by omega) (by omega) h1 h2
    rw [show (l 3 - l 3).toNat = 0 by omega] at this
    exact this
  | succ t ih =>
    intro ht p n h1 h2 h3 h4
    have hh : (l 3 - (l 3 - ((t : Int) + 1))).toNat = t + 1 := by omega
    by_cases c : sEnd l (l 3 - ((t : Int) + 1)) p n = 0
    · obtain ⟨c1, c2⟩ := sEnd_n c
      have lh := hl (l 3 - ((t : Int) + 1)) (by omega) (by omega)
      have mb := bst_in (v := fun m => (if ld (l 3 - ((t : Int) + 1)) = k then 1 else -1) * sBr l st (l 3 - ((t : Int) + 1)) p n m (sDr l st mk ld k t)) hv3 (hm _ _ p n lh.1 lh.2 (by omega) (by omega) h1 h2 h3 h4 c).2.2
      unfold sDr
      rw [if_neg (by rw [c]; decide)]
      exact sBr_w hv hs hst h1 h2 (by omega) h4 mb.1 mb.2.1 (by omega) (by omega) rfl (ih (by omega))
    · unfold sDr
      rw [if_pos c]
      have := sEv_b (e := sEnd l (l 3 - ((t : Int) + 1)) p n) hv hk hk2 (h := l 3 - ((t : Int) + 1)) (by omega) (by omega) h1 h2
      rw [hh] at this
      exact this
/-- which states are done, going from the last hour back -/
def dn (h p n h' p' n' : Int) : Prop := h < h' ∨ h' = h ∧ (p' < p ∨ p' = p ∧ n' < n)
def vs (l : Nat → Int) (st h p n : Int) : Prop := 0 ≤ h ∧ h ≤ l 3 ∧ 0 ≤ p ∧ p < l 0 ∧ 0 ≤ n ∧ n ≤ st
/-- a row of states that holds T where it is done -/
def TI (l : Nat → Int) (st : Int) (T : Int → Int → Int → Int) (b : Int) (g g0 : Nat → Int) (h p n : Int) : Prop := (∀ h' p' n', vs l st h' p' n' → dn h p n h' p' n' → g (b + ((h' * 12 + p') * 13 + n')).toNat = T h' p' n') ∧ (∀ i : Nat, (i : Int) < b ∨ b + 3900 ≤ i → g i = g0 i)
theorem TI_s {l : Nat → Int} {st : Int} {T : Int → Int → Int → Int} {b : Int} {g g' g0 : Nat → Int} {h p n : Int} {j : Nat} (hv : LV l) (hst : st ≤ 12) (hb : 0 ≤ b) (h1 : TI l st T b g g0 h p n) (h2 : vs l st h p n) (hj : j = (b + ((h * 12 + p) * 13 + n)).toNat)
    (hg : ∀ i, g' i = if i = j then T h p n else g i) : TI l st T b g' g0 h p (n + 1) := by
  obtain ⟨⟨hv1, hv2⟩, ⟨hv3, hv4⟩, ⟨hv5, hv6⟩, ⟨hv7, hv8⟩, ⟨hv9, hv10⟩, ⟨hv11, hv12⟩, ⟨hv13, hv14⟩, hvw, hvs, hvk, hvc, hvx⟩ := id hv
  unfold vs at h2
  refine ⟨fun h' p' n' a d => ?_, fun i hi => ?_⟩
  · rw [hg]
    by_cases c : h' = h ∧ p' = p ∧ n' = n
    · rw [c.1, c.2.1, c.2.2, if_pos hj.symm]
    · unfold vs at a
      rw [if_neg (by omega)]
      refine h1.1 h' p' n' a ?_
      unfold dn at d ⊢
      omega
  · rw [hg, if_neg (by omega)]
    exact h1.2 i hi
theorem TI_n {l : Nat → Int} {st : Int} {T : Int → Int → Int → Int} {b : Int} {g g0 : Nat → Int} {h p n : Int} (h1 : TI l st T b g g0 h p n) (h2 : st < n) : TI l st T b g g0 h (p + 1) 0 := by
  refine ⟨fun h' p' n' a d => h1.1 h' p' n' a ?_, h1.2⟩
  unfold dn at d ⊢
  unfold vs at a
  omega
theorem TI_p {l : Nat → Int} {st : Int} {T : Int → Int → Int → Int} {b : Int} {g g0 : Nat → Int} {h p : Int} (h1 : TI l st T b g g0 h p 0) (h2 : l 0 ≤ p) : TI l st T b g g0 (h - 1) 0 0 := by
  refine ⟨fun h' p' n' a d => h1.1 h' p' n' a ?_, h1.2⟩
  unfold dn at d ⊢
  unfold vs at a
  omega
theorem TI_0 {l : Nat → Int} {st : Int} {T : Int → Int → Int → Int} {b : Int} {g : Nat → Int} : TI l st T b g g (l 3) 0 0 := by
  refine ⟨fun h' p' n' a d => ?_, fun _ _ => rfl⟩
  unfold dn at d
  unfold vs at a
  omega
