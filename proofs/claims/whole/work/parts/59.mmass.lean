/-! ===== how much of the chance is where ===== -/
/-- what comes to a state of the next hour from the state of an index -/
noncomputable def sCo (l : Nat → Int) (T : Int → Int → Int → Int) (st h : Int) (M : Int → Int → Int) (p' n' : Int) (i : Nat) : Int :=
  iW (iv l st i ∧ sEnd l h (iP i) (iN i) = 0) (M (iP i) (iN i) * sCt l st h (iP i) (iN i) (T h (iP i) (iN i)) p' n')
noncomputable def sMs (l : Nat → Int) (T : Int → Int → Int → Int) (st : Int) : Nat → Int → Int → Int
  | 0 => fun p n => if l 6 = p ∧ st = n then 1 else 0
  | h + 1 => fun p' n' => aS (sCo l T st h (sMs l T st h) p' n') 156
def TK (l : Nat → Int) (T : Int → Int → Int → Int) (st : Int) : Prop := ∀ h p n, vs l st h p n → sEnd l h p n = 0 → 0 ≤ T h p n ∧ T h p n ≤ l 1
theorem iv_vs {l : Nat → Int} {st h : Int} {i : Nat} (h0 : 0 ≤ h) (h1 : h ≤ l 3) (q : iv l st i) : vs l st h (iP i) (iN i) := by
  obtain ⟨a, b, c, d⟩ := iv_p q
  exact ⟨h0, h1, a, b, c, d⟩
theorem sMs_f {l : Nat → Int} {T : Int → Int → Int → Int} {st : Int} {h : Nat} (f : Int → Int → Int) (hv : LV l) (hs : 0 ≤ st) (hst : st ≤ 12) (hT : TK l T st) (hh : (h : Int) < l 3) :
    hS l st (fun q s => sMs l T st (h + 1) q s * f q s) = hS l st (fun p n => sMs l T st h p n * iW (sEnd l h p n = 0) (sBr l st h p n (T h p n) f)) := by
  have e1 : hS l st (fun q s => sMs l T st (h + 1) q s * f q s) = aS (fun j => aS (fun i => iW (iv l st j) (sCo l T st h (sMs l T st h) (iP j) (iN j) i * f (iP j) (iN j))) 156) 156 := by
    refine aS_c (fun j _ => ?_)
    rcases iW_2 (iv l st j) with ⟨q, e⟩ | ⟨q, e⟩
    · rw [e, aS_c (g := fun i => sCo l T st h (sMs l T st h) (iP j) (iN j) i * f (iP j) (iN j)) (fun i _ => e _), aS_mul]
      rfl
    · rw [e, aS_c (g := fun _ => 0) (fun i _ => e _), aS_z]
  rw [e1, aS_sw]
  refine aS_c (fun i _ => ?_)
  rcases iW_2 (iv l st i) with ⟨q, e⟩ | ⟨q, e⟩
  · obtain ⟨i1, i2, i3, i4⟩ := iv_p q
    rw [e]
    show _ = sMs l T st h (iP i) (iN i) * iW (sEnd l h (iP i) (iN i) = 0) (sBr l st h (iP i) (iN i) (T h (iP i) (iN i)) f)
    rcases iW_2 (sEnd l h (iP i) (iN i) = 0) with ⟨r, e2⟩ | ⟨r, e2⟩
    · have tk := hT h _ _ (iv_vs (by omega) (by omega) q) r
      have ne := (sEnd_n r).1
      rw [e2, ← sCt_f hv hs hst i1 i2 (by omega) i4 tk.1 tk.2, Int.mul_comm, ← hS_mul]
      refine aS_c (fun j _ => ?_)
      have z : sCo l T st h (sMs l T st h) (iP j) (iN j) i = sMs l T st h (iP i) (iN i) * sCt l st h (iP i) (iN i) (T h (iP i) (iN i)) (iP j) (iN j) := iW_p ⟨q, r⟩
      rw [z]
      refine congrArg _ ?_
      rw [Int.mul_assoc, Int.mul_comm]
    · rw [e2, Int.mul_zero, aS_c (g := fun _ => 0) (fun j _ => ?_), aS_z]
      have z : sCo l T st h (sMs l T st h) (iP j) (iN j) i = 0 := iW_n (fun x => r x.2)
      rw [z, Int.zero_mul]
      rcases iW_2 (iv l st j) with ⟨_, e⟩ | ⟨_, e⟩ <;> rw [e]
  · rw [e, aS_c (g := fun _ => 0) (fun j _ => ?_), aS_z]
    have z : sCo l T st h (sMs l T st h) (iP j) (iN j) i = 0 := iW_n (fun x => q x.1)
    rw [z, Int.zero_mul]
    rcases iW_2 (iv l st j) with ⟨_, e⟩ | ⟨_, e⟩ <;> rw [e]
theorem sCt_n {l : Nat → Int} {st h p n m p' n' : Int} (hv : LV l) (h1 : 0 ≤ h) (h2 : h < l 3) (h3 : 0 ≤ m) (h4 : m ≤ l 1) : 0 ≤ sCt l st h p n m p' n' :=
  sBr_nn hv h1 h2 h3 h4 (fun q s => by show 0 ≤ (if q = p' ∧ s = n' then (1 : Int) else 0); split <;> omega)
theorem sCo_n {l : Nat → Int} {T : Int → Int → Int → Int} {st p' n' : Int} {h i : Nat} {M : Int → Int → Int} (hv : LV l) (hT : TK l T st) (hh : (h : Int) < l 3) (hM : ∀ p n, 0 ≤ M p n) : 0 ≤ sCo l T st h M p' n' i := by
  unfold sCo
  rcases iW_2 (iv l st i ∧ sEnd l h (iP i) (iN i) = 0) with ⟨q, e⟩ | ⟨q, e⟩
  · rw [e]
    have tk := hT h _ _ (iv_vs (by omega) (by omega) q.1) q.2
    exact Int.mul_nonneg (hM _ _) (sCt_n hv (by omega) hh tk.1 tk.2)
  · rw [e]; exact Int.le_refl _
theorem sMs_n {l : Nat → Int} {T : Int → Int → Int → Int} {st : Int} (hv : LV l) (hT : TK l T st) : ∀ {h : Nat}, (h : Int) ≤ l 3 → ∀ p n, 0 ≤ sMs l T st h p n := by
  intro h
  induction h with
  | zero => intro _ p n; show 0 ≤ (if l 6 = p ∧ st = n then (1 : Int) else 0); split <;> omega
  | succ h ih => intro a p n; exact aS_nn (fun i _ => sCo_n hv hT (by omega) (ih (by omega)))
theorem sMs_0 {l : Nat → Int} {T : Int → Int → Int → Int} {st : Int} (f : Int → Int → Int) (hv : LV l) (hs : 0 ≤ st) (hst : st ≤ 12) : hS l st (fun p n => sMs l T st 0 p n * f p n) = f (l 6) st := by
  obtain ⟨⟨hv1, hv2⟩, ⟨hv3, hv4⟩, ⟨hv5, hv6⟩, ⟨hv7, hv8⟩, ⟨hv9, hv10⟩, ⟨hv11, hv12⟩, ⟨hv13, hv14⟩, hvw, hvs, hvk, hvc, hvx⟩ := id hv
  exact hS_d hv hst hv13 hv14 hs (Int.le_refl _)
/-- nothing is won and nothing is lost -/
theorem sMs_t {l : Nat → Int} {T : Int → Int → Int → Int} {st : Int} (hv : LV l) (hs : 0 ≤ st) (hst : st ≤ 12) (hT : TK l T st) : ∀ {h : Nat}, (h : Int) ≤ l 3 → hS l st (sMs l T st h) * sScH l h ≤ sScH l 0 := by
  intro h
  have one : ∀ h, hS l st (sMs l T st h) = hS l st (fun p n => sMs l T st h p n * 1) := fun h => hS_c (fun _ _ _ _ _ _ => (Int.mul_one _).symm)
  induction h with
  | zero =>
    intro _
    rw [one, sMs_0 (fun _ _ => 1) hv hs hst, Int.one_mul]
    exact Int.le_refl _
  | succ h ih =>
    intro a
    have ih := ih (by omega)
    have s1 := (sScH_b hv (h := (h : Int) + 1) (by omega) (by omega)).1
    rw [sSc_s l (by omega) (by omega)] at ih
    obtain ⟨w, ew⟩ : ∃ w : Int, w = (if sSy l h = 1 then 16 else 1) := ⟨_, rfl⟩
    rw [← ew] at ih
    have w0 : 0 ≤ w := by rw [ew]; split <;> omega
    have st1 : hS l st (sMs l T st (h + 1)) ≤ hS l st (sMs l T st h) * w := by
      rw [one, sMs_f (fun _ _ => 1) hv hs hst hT (by omega), ← hS_mul]
      refine hS_le (fun p n a b c d => Int.mul_le_mul_of_nonneg_left ?_ (sMs_n hv hT (by omega) p n))
      rcases iW_2 (sEnd l h p n = 0) with ⟨r, e⟩ | ⟨r, e⟩
      · have tk := hT h _ _ ⟨by omega, by omega, a, b, c, d⟩ r
        rw [e, ew]
        unfold sBr
        simp only [Int.mul_one]
        split
        · split <;> omega
        · split <;> omega
      · rw [e]; exact w0
    have hc : ((h + 1 : Nat) : Int) = (h : Int) + 1 := by omega
    rw [hc]
    refine Int.le_trans (Int.mul_le_mul_of_nonneg_right st1 (by omega)) ?_
    rw [Int.mul_assoc, Int.mul_comm w]
    exact ih
theorem sMs_b {l : Nat → Int} {T : Int → Int → Int → Int} {st p n : Int} {h : Nat} (hv : LV l) (hs : 0 ≤ st) (hst : st ≤ 12) (hT : TK l T st) (hh : (h : Int) ≤ l 3) (h1 : 0 ≤ p) (h2 : p < l 0) (h3 : 0 ≤ n) (h4 : n ≤ st) :
    0 ≤ sMs l T st h p n ∧ sMs l T st h p n * sScH l h ≤ 1099511627776 ∧ sMs l T st h p n ≤ 1099511627776 := by
  obtain ⟨⟨hv1, hv2⟩, ⟨hv3, hv4⟩, ⟨hv5, hv6⟩, ⟨hv7, hv8⟩, ⟨hv9, hv10⟩, ⟨hv11, hv12⟩, ⟨hv13, hv14⟩, hvw, hvs, hvk, hvc, hvx⟩ := id hv
  have a := hS_1 (f := sMs l T st h) hv hst (fun p n _ _ _ _ => sMs_n hv hT hh p n) h1 h2 h3 h4
  have b := sMs_t hv hs hst hT hh
  have c := (sScH_b hv (h := (h : Int)) (by omega) (by omega)).1
  have d := (sScH_b hv (h := 0) (by omega) (by omega)).2
  have z := sMs_n hv hT hh p n
  have e := Int.mul_le_mul_of_nonneg_right a (show 0 ≤ sScH l h by omega)
  have f := Int.mul_le_mul_of_nonneg_left c z
  exact ⟨z, by omega, by omega⟩
/-- how much of the chance ends so in an hour -/
noncomputable def sArr (l : Nat → Int) (T : Int → Int → Int → Int) (st e : Int) (h : Nat) : Int := hS l st (fun p n => sMs l T st h p n * iW (sEnd l h p n = e) (sScH l h))
theorem sArr_0 {l : Nat → Int} {T : Int → Int → Int → Int} {st e : Int} {h : Nat} (hv : LV l) (hT : TK l T st) (hh : (h : Int) ≤ l 3) : 0 ≤ sArr l T st e h := by
  refine aS_nn (fun i _ => ?_)
  rcases iW_2 (iv l st i) with ⟨q, e⟩ | ⟨q, e⟩
  · rw [e]
    refine Int.mul_nonneg (sMs_n hv hT hh _ _) ?_
    have := (sScH_b hv (h := (h : Int)) (by omega) hh).1
    rcases iW_2 (sEnd l h (iP i) (iN i) = _) with ⟨q, e⟩ | ⟨q, e⟩ <;> rw [e] <;> omega
  · rw [e]; exact Int.le_refl _
theorem sCh_s {l : Nat → Int} {c : Cf} {st e h p n : Int} {t : Nat} (he : e ≠ 0) (ht : h = l 3 - ((t : Int) + 1)) (h0 : 0 ≤ h) :
    sCh l c st e (t + 1) p n = iW (sEnd l h p n = e) (sScH l h) + iW (sEnd l h p n = 0) (sBr l st h p n (sTk l c st h p n) (sCh l c st e t)) := by
  have e1 : (l 3 - h).toNat = t + 1 := by omega
  have e2 : (l 3 - (h + 1)).toNat = t := by omega
  unfold sTk sScH
  rw [e1, e2]
  subst ht
  show (if _ then _ else _) = _
  by_cases q : sEnd l (l 3 - ((t : Int) + 1)) p n = 0
  · rw [if_neg (fun r => r q), iW_n (fun r => he (r.symm.trans q)), iW_p q, if_neg (fun r => r q), Int.zero_add]
  · rw [if_pos q, iW_n q, Int.add_zero]
    split
    · rename_i r
      rw [iW_p r]
    · rename_i r
      rw [iW_n r]
theorem sCh_a {l : Nat → Int} {c : Cf} {st e : Int} (hv : LV l) (hs : 0 ≤ st) (hst : st ≤ 12) (hT : TK l (sTk l c st) st) (he : e ≠ 0) : ∀ {h : Nat}, (h : Int) ≤ l 3 →
    aS (sArr l (sTk l c st) st e) h + hS l st (fun p n => sMs l (sTk l c st) st h p n * sCh l c st e (l 3 - h).toNat p n) = sCh l c st e (l 3).toNat (l 6) st := by
  intro h
  induction h with
  | zero =>
    intro _
    rw [sMs_0 (fun p n => sCh l c st e (l 3 - ((0 : Nat) : Int)).toNat p n) hv hs hst]
    show 0 + _ = _
    rw [Int.zero_add, show l 3 - ((0 : Nat) : Int) = l 3 by omega]
  | succ h ih =>
    intro a
    have ih := ih (by omega)
    rw [← ih]
    show aS _ h + sArr l (sTk l c st) st e h + _ = _
    rw [sMs_f (fun p n => sCh l c st e (l 3 - ((h + 1 : Nat) : Int)).toNat p n) hv hs hst hT (by omega), Int.add_assoc]
    refine congrArg _ ?_
    unfold sArr
    rw [← hS_add]
    refine hS_c (fun p n _ _ _ _ => ?_)
    rw [show (l 3 - (h : Int)).toNat = (l 3 - ((h + 1 : Nat) : Int)).toNat + 1 by omega, sCh_s (h := h) he (by omega) (by omega), Int.mul_add]
theorem sCh_sum {l : Nat → Int} {c : Cf} {st e : Int} (hv : LV l) (hs : 0 ≤ st) (hst : st ≤ 12) (hT : TK l (sTk l c st) st) (he : e ≠ 0) :
    aS (sArr l (sTk l c st) st e) ((l 3).toNat + 1) = sCh l c st e (l 3).toNat (l 6) st := by
  obtain ⟨⟨hv1, hv2⟩, ⟨hv3, hv4⟩, ⟨hv5, hv6⟩, ⟨hv7, hv8⟩, ⟨hv9, hv10⟩, ⟨hv11, hv12⟩, ⟨hv13, hv14⟩, hvw, hvs, hvk, hvc, hvx⟩ := id hv
  rw [← sCh_a hv hs hst hT he (h := (l 3).toNat) (by omega)]
  show aS _ _ + _ = aS _ _ + _
  refine congrArg _ ?_
  unfold sArr
  have e1 : (((l 3).toNat : Nat) : Int) = l 3 := by omega
  rw [e1, show (l 3 - l 3).toNat = 0 by omega]
  refine hS_c (fun p n _ _ _ _ => congrArg _ ?_)
  unfold sScH
  rw [show (l 3 - l 3).toNat = 0 by omega]
  show iW _ 1 = (if _ then _ else _)
  by_cases q : sEnd l (l 3) p n = e
  · rw [iW_p q, if_pos q]
  · rw [iW_n q, if_neg q]
