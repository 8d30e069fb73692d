/-! ===== the reference plays a scene ===== -/
/-- what is tried can be tried -/
def CV (l : Nat → Int) (st : Int) (c : Cf) : Prop := (∀ h, 0 ≤ h → h < l 3 → 0 ≤ c.1 h ∧ c.1 h < l 2) ∧ (∀ h, 0 ≤ h → h < 24 → 0 ≤ c.2.2.1 h ∧ c.2.2.1 h ≤ l 1) ∧ MK l st c.2.2.2.1 ∧ (c.2.2.2.2.2.2 = 0 ∨ c.2.2.2.2.2.2 = 1) ∧ (c.2.2.2.2.1 = -1 → c.2.2.2.2.2.1 = -1)
theorem sPick_in {l : Nat → Int} {st : Int} {c : Cf} {h p n bits : Int} {W A B : Int → Int → Int → Int} (hv : LV l) (hc : CV l st c) (h1 : 0 ≤ h) (h2 : h < l 3) (hb : ∃ m, 0 ≤ m ∧ m ≤ l 1 ∧ bit bits m) :
    0 ≤ sPick l c st h p n bits W A B ∧ sPick l c st h p n bits W A B ≤ l 1 := by
  obtain ⟨⟨hv1, hv2⟩, ⟨hv3, hv4⟩, ⟨hv5, hv6⟩, ⟨hv7, hv8⟩, ⟨hv9, hv10⟩, ⟨hv11, hv12⟩, ⟨hv13, hv14⟩, hvw, hvs, hvk, hvc, hvx⟩ := id hv
  have hp := hc.2.1 h h1 (by omega)
  have bi := fun v => bst_in (v := v) hv3 hb
  have ba := fun v => bst_in (v := v) (b := 33554431) hv3 ⟨0, by omega, by omega, bit_all (by omega) (by omega)⟩
  unfold sPick
  split
  · exact ⟨(ba _).1, (ba _).2.1⟩
  split
  · exact ⟨(bi _).1, (bi _).2.1⟩
  split
  · exact ⟨(bi _).1, (bi _).2.1⟩
  split
  · exact ⟨(bi _).1, (bi _).2.1⟩
  split
  · exact ⟨(bi _).1, (bi _).2.1⟩
  split
  · exact ⟨(bi _).1, (bi _).2.1⟩
  split
  · exact ⟨(bi _).1, (bi _).2.1⟩
  split
  · exact hp
  · exact ⟨(bi _).1, (bi _).2.1⟩
theorem sPick_c {l : Nat → Int} {st : Int} {c : Cf} {h p n bits : Int} {W A B W' A' B' : Int → Int → Int → Int} (hv : LV l) (hc : CV l st c) (hs : 0 ≤ st) (hst : st ≤ 12) (h1 : 0 ≤ h) (h2 : h < l 3) (h3 : 0 ≤ p) (h4 : p < l 0) (h5 : 1 ≤ n) (h6 : n ≤ st)
    (hW : ∀ k q s, 0 ≤ k → k < l 2 → 0 ≤ q → q < l 0 → 0 ≤ s → s ≤ st → W k q s = W' k q s) (hA : c.2.1 (c.1 h) = 1 → ∀ q s, 0 ≤ q → q < l 0 → 0 ≤ s → s ≤ st → A (c.1 h) q s = A' (c.1 h) q s)
    (hB : c.2.1 (c.1 h) = 4 → ∀ q s, 0 ≤ q → q < l 0 → 0 ≤ s → s ≤ st → B (c.1 h) q s = B' (c.1 h) q s) : sPick l c st h p n bits W A B = sPick l c st h p n bits W' A' B' := by
  obtain ⟨⟨hv1, hv2⟩, ⟨hv3, hv4⟩, ⟨hv5, hv6⟩, ⟨hv7, hv8⟩, ⟨hv9, hv10⟩, ⟨hv11, hv12⟩, ⟨hv13, hv14⟩, hvw, hvs, hvk, hvc, hvx⟩ := id hv
  have lh := hc.1 h h1 h2
  have e : ∀ k m : Int, 0 ≤ k → k < l 2 → 0 ≤ m → m < ((l 1 + 1).toNat : Int) → sBr l st h p n m (W k) = sBr l st h p n m (W' k) := fun k m k1 k2 m1 m2 => sBr_c hv hs h3 h4 h5 h6 m1 (by omega) hst (fun q s a b c d => hW k q s k1 k2 a b c d)
  unfold sPick
  have e1 : bst (fun m => sVt (fun k => bst (fun m => sBr l st h p n m (W k)) bits (l 1 + 1).toNat) m (l 2).toNat) 33554431 (l 1 + 1).toNat = bst (fun m => sVt (fun k => bst (fun m => sBr l st h p n m (W' k)) bits (l 1 + 1).toNat) m (l 2).toNat) 33554431 (l 1 + 1).toNat :=
    bst_c (fun m m1 m2 _ => sVt_c (fun k k1 k2 => bst_c (fun m m1 m2 _ => e k m k1 (by omega) m1 m2)))
  have e2 : ∀ C : Int → Prop, bst (fun m => sSum C (fun k => sBr l st h p n m (W k)) (l 2).toNat) bits (l 1 + 1).toNat = bst (fun m => sSum C (fun k => sBr l st h p n m (W' k)) (l 2).toNat) bits (l 1 + 1).toNat :=
    fun C => bst_c (fun m m1 m2 _ => sSum_c (fun k k1 k2 => ⟨Iff.rfl, e k m k1 (by omega) m1 m2⟩))
  have e3 : bst (fun m => sBr l st h p n m (W (c.1 h))) bits (l 1 + 1).toNat = bst (fun m => sBr l st h p n m (W' (c.1 h))) bits (l 1 + 1).toNat := bst_c (fun m m1 m2 _ => e _ m lh.1 lh.2 m1 m2)
  rw [e1, e2, e2, e3]
  by_cases k1 : c.2.1 (c.1 h) = 1
  · have e4 : bst (fun m => sBr l st h p n m (A (c.1 h))) bits (l 1 + 1).toNat = bst (fun m => sBr l st h p n m (A' (c.1 h))) bits (l 1 + 1).toNat := bst_c (fun m m1 m2 _ => sBr_c hv hs h3 h4 h5 h6 m1 (by omega) hst (hA k1))
    rw [e4]
    simp only [k1]
    rfl
  · by_cases k4 : c.2.1 (c.1 h) = 4
    · have e4 : bst (fun m => sBr l st h p n m (B (c.1 h))) bits (l 1 + 1).toNat = bst (fun m => sBr l st h p n m (B' (c.1 h))) bits (l 1 + 1).toNat := bst_c (fun m m1 m2 _ => sBr_c hv hs h3 h4 h5 h6 m1 (by omega) hst (hB k4))
      rw [e4]
      simp only [if_neg k1]
    · simp only [if_neg k1, if_neg k4]
noncomputable def sTk (l : Nat → Int) (c : Cf) (st h p n : Int) : Int := if sEnd l h p n ≠ 0 then -1 else sMv l c st (l 3 - (h + 1)).toNat (sW l c st (l 3 - (h + 1)).toNat) p n
theorem sW_e {l : Nat → Int} {c : Cf} {st k h p n : Int} (h2 : h ≤ l 3) (he : sEnd l h p n ≠ 0) : sW l c st (l 3 - h).toNat k p n = sEv l k h p (sEnd l h p n) := by
  by_cases d : h = l 3
  · rw [d, show (l 3 - l 3).toNat = 0 by omega]
    rfl
  · obtain ⟨t, ht⟩ : ∃ t : Nat, (l 3 - h).toNat = t + 1 := ⟨(l 3 - h).toNat - 1, by omega⟩
    have e : l 3 - ((t : Int) + 1) = h := by omega
    rw [ht]
    show (if _ then _ else _) = _
    rw [e, if_pos he]
theorem sW_g {l : Nat → Int} {c : Cf} {st k h p n : Int} (h2 : h < l 3) (he : sEnd l h p n = 0) : sW l c st (l 3 - h).toNat k p n = sBr l st h p n (sTk l c st h p n) (sW l c st (l 3 - (h + 1)).toNat k) := by
  obtain ⟨t, ht⟩ : ∃ t : Nat, (l 3 - h).toNat = t + 1 := ⟨(l 3 - h).toNat - 1, by omega⟩
  have e : l 3 - ((t : Int) + 1) = h := by omega
  unfold sTk
  rw [ht, show (l 3 - (h + 1)).toNat = t by omega, if_neg (by rw [he]; decide)]
  show (if _ then _ else _) = _
  rw [e, if_neg (by rw [he]; decide)]
theorem sTk_in {l : Nat → Int} {c : Cf} {st h p n : Int} (hv : LV l) (hc : CV l st c) (hw : vs l st h p n) (he : sEnd l h p n = 0) : 0 ≤ sTk l c st h p n ∧ sTk l c st h p n ≤ l 1 := by
  obtain ⟨w1, w2, w3, w4, w5, w6⟩ := hw
  have hne := (sEnd_n he).2
  have lh := hc.1 h w1 (by omega)
  have e : l 3 - ((((l 3 - (h + 1)).toNat : Nat) : Int) + 1) = h := by omega
  unfold sTk sMv
  rw [if_neg (by rw [he]; decide), e]
  exact sPick_in hv hc w1 (by omega) (hc.2.2.1 _ h p n lh.1 lh.2 w1 (by omega) w3 w4 w5 w6 he).2.2
theorem sW_b {l : Nat → Int} {c : Cf} {st : Int} (hv : LV l) (hs : 0 ≤ st) (hst : st ≤ 12) (hc : CV l st c) :
    ∀ t : Nat, (t : Int) ≤ l 3 → ∀ k p n, 0 ≤ k → k < l 2 → 0 ≤ p → p < l 0 → 0 ≤ n → n ≤ st → WB l t (sW l c st t k p n) := by
  obtain ⟨⟨hv1, hv2⟩, ⟨hv3, hv4⟩, ⟨hv5, hv6⟩, ⟨hv7, hv8⟩, ⟨hv9, hv10⟩, ⟨hv11, hv12⟩, ⟨hv13, hv14⟩, hvw, hvs, hvk, hvc, hvx⟩ := id hv
  intro t
  induction t with
  | zero =>
    intro _ k p n k1 k2 h1 h2 h3 h4
    have := sEv_b (e := sEnd l (l 3) p n) hv k1 k2 (h := l 3) (by omega) (by omega) h1 h2
    rw [show (l 3 - l 3).toNat = 0 by omega] at this
    exact this
  | succ t ih =>
    intro ht k p n k1 k2 h1 h2 h3 h4
    have hh : (l 3 - (l 3 - ((t : Int) + 1))).toNat = t + 1 := by omega
    have hh2 : (l 3 - (l 3 - ((t : Int) + 1) + 1)).toNat = t := by omega
    by_cases d : sEnd l (l 3 - ((t : Int) + 1)) p n = 0
    · obtain ⟨c1, c2⟩ := sEnd_n d
      have mb := sTk_in hv hc ⟨by omega, by omega, h1, h2, h3, h4⟩ d
      have e := sW_g (c := c) (st := st) (k := k) (by omega) d
      rw [hh, hh2] at e
      rw [e]
      exact sBr_w hv hs hst h1 h2 (by omega) h4 mb.1 mb.2 (by omega) (by omega) rfl (fun q s a b c d => ih (by omega) k q s k1 k2 a b c d)
    · have e := sW_e (c := c) (st := st) (k := k) (by omega) d
      rw [hh] at e
      rw [e]
      have := sEv_b (e := sEnd l (l 3 - ((t : Int) + 1)) p n) hv k1 k2 (h := l 3 - ((t : Int) + 1)) (by omega) (by omega) h1 h2
      rw [hh] at this
      exact this
/-- what stands ready before a scene is played: lawful moves, snow, scales, what each would come to alone -/
def RDY (l : Nat → Int) (st : Int) (mk : Int → Int → Int → Int → Int) (F : FI) (G : FJ) : Prop := MF (F 116) l st mk ∧ (∀ h, 0 ≤ h → h < l 3 → F 122 h.toNat = sSy l h) ∧ (∀ h, 0 ≤ h → h ≤ l 3 → G 118 h.toNat = sScH l h) ∧
  (∀ k h p n, 0 ≤ k → k < l 2 → vs l st h p n → G 120 (k * 3900 + ((h * 12 + p) * 13 + n)).toNat = sDr l st mk (fun _ => k) k (l 3 - h).toNat p n) ∧ (∀ i, B5 (G 120 i))
/-- a scene as it is played -/
def PI (l : Nat → Int) (c : Cf) (st : Int) (F F0 : FI) (G G0 : FJ) (h p n : Int) : Prop :=
  (∀ h' p' n', vs l st h' p' n' → dn h p n h' p' n' → F 117 ((h' * 12 + p') * 13 + n').toNat = sTk l c st h' p' n') ∧
  (∀ k h' p' n', 0 ≤ k → k < l 2 → vs l st h' p' n' → dn h p n h' p' n' → G 119 (k * 3900 + ((h' * 12 + p') * 13 + n')).toNat = sW l c st (l 3 - h').toNat k p' n') ∧
  (∀ i, B5 (G 119 i)) ∧ (∀ a, a ≠ 117 → a ≠ 123 → F a = F0 a) ∧ (∀ a, a ≠ 119 → G a = G0 a)
theorem PI_n {l : Nat → Int} {c : Cf} {st : Int} {F F0 : FI} {G G0 : FJ} {h p n : Int} (h1 : PI l c st F F0 G G0 h p n) (h2 : st < n) : PI l c st F F0 G G0 h (p + 1) 0 := by
  refine ⟨fun h' p' n' a d => h1.1 h' p' n' a ?_, fun k h' p' n' k1 k2 a d => h1.2.1 k h' p' n' k1 k2 a ?_, h1.2.2⟩ <;>
  · unfold dn at d ⊢
    unfold vs at a
    omega
theorem PI_p {l : Nat → Int} {c : Cf} {st : Int} {F F0 : FI} {G G0 : FJ} {h p : Int} (h1 : PI l c st F F0 G G0 h p 0) (h2 : l 0 ≤ p) : PI l c st F F0 G G0 (h - 1) 0 0 := by
  refine ⟨fun h' p' n' a d => h1.1 h' p' n' a ?_, fun k h' p' n' k1 k2 a d => h1.2.1 k h' p' n' k1 k2 a ?_, h1.2.2⟩ <;>
  · unfold dn at d ⊢
    unfold vs at a
    omega
theorem PI_F {l : Nat → Int} {c : Cf} {st : Int} {F F0 : FI} {G G0 : FJ} {h p n k : Int} (hd : PI l c st F F0 G G0 h p n) (h0 : 0 ≤ h) (h1 : h < l 3) (k0 : 0 ≤ k) (k1 : k < l 2) :
    ∀ q s, 0 ≤ q → q < l 0 → 0 ≤ s → s ≤ st → sF (G 119) (k * 3900) h q s = sW l c st (l 3 - (h + 1)).toNat k q s := by
  intro q s a1 a2 a3 a4
  exact hd.2.1 k (h + 1) q s k0 k1 ⟨by omega, by omega, a1, a2, a3, a4⟩ (Or.inl (by omega))
/-- the state's own numbers, person by person -/
def PK (l : Nat → Int) (c : Cf) (st : Int) (F F0 : FI) (G G0 : FJ) (h p n x : Int) : Prop := PI l c st F F0 G G0 h p n ∧ F 117 ((h * 12 + p) * 13 + n).toNat = sTk l c st h p n ∧ (∀ k, 0 ≤ k → k < x → G 119 (k * 3900 + ((h * 12 + p) * 13 + n)).toNat = sW l c st (l 3 - h).toNat k p n)
theorem PK_s {l : Nat → Int} {c : Cf} {st : Int} {F F0 : FI} {G G0 : FJ} {h p n x v : Int} (hv : LV l) (hs : 0 ≤ st) (hst : st ≤ 12) (hc : CV l st c) (hd : PK l c st F F0 G G0 h p n x) (hw : vs l st h p n) (hx : 0 ≤ x) (hx2 : x < l 2)
    (he : v = sW l c st (l 3 - h).toNat x p n) : PK l c st F F0 (u2 G 119 (x * 3900 + ((h * 12 + p) * 13 + n)).toNat v) G0 h p n (x + 1) := by
  obtain ⟨⟨hv1, hv2⟩, ⟨hv3, hv4⟩, ⟨hv5, hv6⟩, ⟨hv7, hv8⟩, ⟨hv9, hv10⟩, ⟨hv11, hv12⟩, ⟨hv13, hv14⟩, hvw, hvs, hvk, hvc, hvx⟩ := id hv
  have hw' := hw
  unfold vs at hw'
  have hb : WB l (l 3 - h).toNat v := by
    rw [he]
    exact sW_b hv hs hst hc _ (by omega) x p n hx hx2 hw'.2.2.1 hw'.2.2.2.1 hw'.2.2.2.2.1 hw'.2.2.2.2.2
  refine ⟨⟨hd.1.1, fun k h' p' n' k1 k2 a d => ?_, B5_u hd.1.2.2.1 (WB_5 hv (by omega) hb), hd.1.2.2.2.1, off_u hd.1.2.2.2.2⟩, hd.2.1, fun k k1 k2 => ?_⟩
  · unfold dn at d
    unfold vs at a
    rw [u2_k, if_neg (by omega)]
    exact hd.1.2.1 k h' p' n' k1 k2 a d
  · rw [u2_k]
    by_cases e : k = x
    · rw [e, if_pos rfl, he]
    · rw [if_neg (by omega)]
      exact hd.2.2 k k1 (by omega)
theorem PK_e {l : Nat → Int} {c : Cf} {st : Int} {F F0 : FI} {G G0 : FJ} {h p n x : Int} (hd : PK l c st F F0 G G0 h p n x) (hx : l 2 ≤ x) : PI l c st F F0 G G0 h p (n + 1) := by
  obtain ⟨⟨d1, d2, d3, d4, d5⟩, e1, e2⟩ := hd
  refine ⟨fun h' p' n' a d => ?_, fun k h' p' n' k1 k2 a d => ?_, d3, d4, d5⟩
  · by_cases q : h' = h ∧ p' = p ∧ n' = n
    · rw [q.1, q.2.1, q.2.2]; exact e1
    · refine d1 h' p' n' a ?_
      unfold dn at d ⊢
      omega
  · by_cases q : h' = h ∧ p' = p ∧ n' = n
    · rw [q.1, q.2.1, q.2.2]; exact e2 k k1 (by omega)
    · refine d2 k h' p' n' k1 k2 a ?_
      unfold dn at d ⊢
      omega
