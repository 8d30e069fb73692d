/-! ===== the first memory ties class and reference ===== -/
theorem M0c_ki : KI M0c := by
  refine ⟨fun k hk => ?_, Nat.zero_le _, fun k i _ => rfl⟩
  exfalso
  replace hk : (if k = 1000000 then (6, 0) else if 2000000 ≤ k ∧ k < 2000051 then (7, strL (k - 2000000)) else ((9, 0) : Nat × Nat)).1 ≤ 4 := hk
  split at hk
  · exact absurd hk (by decide)
  · split at hk
    · exact absurd hk (by show ¬ 7 ≤ 4; decide)
    · exact absurd hk (by decide)
theorem M00_ov (L : Nat) (xs : Nat → Int32) : ov (M00 L xs).2.2.1 (M00 L xs).2.2.2.1 M0c = M00 L xs := by
  refine Prod.ext rfl (Prod.ext rfl (Prod.ext ?_ (Prod.ext ?_ rfl)))
  · funext k i
    show (if k < 1000000 then (if k = 1000000 then 0 else 0) else if k = 1000000 then L else 0) = if k = 1000000 then L else 0
    by_cases h : k < 1000000
    · rw [if_pos h, if_neg (by omega), if_neg (by omega)]
    · rw [if_neg h]
  · funext k i
    show (if k < 1000000 then gI M0c k i else (M00 L xs).2.2.2.1 k i) = (M00 L xs).2.2.2.1 k i
    by_cases h : k < 1000000
    · rw [if_pos h]
      show (if k = 1000000 then (if i < 0 then (0 : Int32).toInt else 0) else if 2000000 ≤ k ∧ k < 2000051 ∧ i < strL (k - 2000000) then strC (k - 2000000) i else 0) = if k = 1000000 then (if i < L then (xs i).toInt else 0) else if 2000000 ≤ k ∧ k < 2000051 ∧ i < strL (k - 2000000) then strC (k - 2000000) i else 0
      rw [if_neg (by omega), if_neg (by omega), if_neg (by omega)]
    · rw [if_neg h]
def GZ (M : Mm) : Prop := ∀ a b, gJ M a b = 0
def gzr (r : Sr) : Prop := match r with
  | .inl q => GZ q.2.2.1
  | .inr _ => True
theorem GZ_nw {M : Mm} {q : Nat × Nat} (h : GZ M) : GZ (nw M q) := by
  intro a b
  show (if a = gN M + 1 then 0 else gJ M a b) = 0
  split
  · rfl
  · exact h a b
section GZS
variable {bd : Nat × Nat} {op : Op} {ls st : List Vl} {M : Mm} {cs : Nat × Nat} {r : Sr}
theorem clV_gz {y n ci : Nat} (h : exO.clV y n ci st M = some r) : gzr r := by
  unfold exO.clV at h
  split at h
  · obtain ⟨h1, h⟩ := iff_e h
    obtain ⟨h2, h⟩ := iff_e h
    cases h
    exact trivial
  · cases h
theorem clO_gz {aux : List Nat} (hM : GZ M) (h : exO.clO aux ls st M cs = some r) : gzr r := by
  unfold exO.clO at h
  split at h
  · exact clV_gz h
  · exact clV_gz h
  · exact clV_gz h
  · obtain ⟨h1, h⟩ := iff_e h
    cases h
    exact trivial
  · split at h
    · obtain ⟨h1, h⟩ := iff_e h
      obtain ⟨h2, h⟩ := iff_e h
      cases h
      exact hM
    · cases h
  · cases h
set_option maxHeartbeats 2000000 in
theorem exO_gz (hM : GZ M) (h : exO bd op ls st M cs = some r) : gzr r := by
  obtain ⟨ins, len, aux, cst⟩ := op
  unfold exO at h
  dsimp only at h
  split at h
  all_goals first
    | (cases h; done)
    | exact clO_gz hM h
    | (cases h; exact hM)
    | (cases h; exact trivial)
    | skip
  all_goals (split at h)
  all_goals first
    | (cases h; done)
    | (cases h; exact hM)
    | (cases h; exact trivial)
    | (obtain ⟨h1, h⟩ := iff_e h; cases h; first | exact hM | exact GZ_nw hM)
    | (obtain ⟨h1, h⟩ := iff_e h; obtain ⟨h2, h⟩ := iff_e h; cases h; first | exact hM | exact GZ_nw hM)
    | (obtain ⟨h1, h⟩ := iff_e h; obtain ⟨h2, h⟩ := iff_e h; obtain ⟨h3, h⟩ := iff_e h; cases h; first | exact hM | exact GZ_nw hM)
    | (obtain ⟨h1, h⟩ := iff_e h; obtain ⟨h2, h⟩ := iff_e h; obtain ⟨h3, h⟩ := iff_e h; obtain ⟨h4, h⟩ := iff_e h; cases h; first | exact hM | exact GZ_nw hM)
    | skip
  all_goals (split at h)
  all_goals first
    | (cases h; done)
    | (cases h; exact hM)
    | (cases h; exact trivial)
    | (obtain ⟨h1, h⟩ := iff_e h; cases h; first | exact hM | exact GZ_nw hM)
    | (obtain ⟨h1, h⟩ := iff_e h; obtain ⟨h2, h⟩ := iff_e h; cases h; first | exact hM | exact GZ_nw hM)
    | skip
  all_goals (split at h)
  all_goals first
    | (cases h; done)
    | (cases h; exact hM)
    | (cases h; exact trivial)
end GZS
theorem rn_gz : ∀ (f d j pc : Nat) (ops : List Op) (ls st : List Vl) (M : Mm) (cs : Nat × Nat) (z : Option Vl × Mm), GZ M → rn f d j pc ops ls st M cs = some z → GZ z.2 := by
  intro f
  induction f with
  | zero =>
    intro d j pc ops ls st M cs z _ h
    cases h
  | succ f ih =>
    intro d j pc ops ls st M cs z hM h
    cases ops with
    | nil => cases h
    | cons op ops =>
      unfold rn at h
      dsimp only at h
      split at h
      · cases h
      · rename_i q e
        exact ih _ _ _ _ _ _ _ _ _ (exO_gz hM e) h
      · exact ih _ _ _ _ _ _ _ _ _ hM h
      · split at h
        · split at h
          · cases h
          · rename_i y ey
            exact ih _ _ _ _ _ _ _ _ _ (ih _ _ _ _ _ _ _ _ _ hM ey) h
        · cases h
      · cases h
        exact hM
theorem rs_gz (g : Nat) : ∀ (f d j pc : Nat) (ops : List Op) (ls st : List Vl) (M : Mm) (cs : Nat × Nat) (z : Nat × List Op × List Vl × List Vl × Mm × (Nat × Nat)), GZ M → rs g f d j pc ops ls st M cs = some z → GZ z.2.2.2.2.1 := by
  intro f
  induction f with
  | zero =>
    intro d j pc ops ls st M cs z hM h
    cases h
    exact hM
  | succ f ih =>
    intro d j pc ops ls st M cs z hM h
    cases ops with
    | nil => cases h
    | cons op ops =>
      unfold rs at h
      dsimp only at h
      split at h
      · rename_i q e
        exact ih _ _ _ _ _ _ _ _ _ (exO_gz hM e) h
      · exact ih _ _ _ _ _ _ _ _ _ hM h
      · split at h
        · split at h
          · cases h
          · rename_i y ey
            exact ih _ _ _ _ _ _ _ _ _ (rn_gz _ _ _ _ _ _ _ _ _ _ hM ey) h
        · cases h
      · cases h
theorem z0_e : rs 6000 14 2000 LAWM 0 (cod LAWM 0).2 [.inr (.inr (.inl 1000000))] [] M0c (0, 0) = some z0 := by
  obtain ⟨z, e⟩ := Option.isSome_iff_exists.mp z0_ok
  unfold z0
  rw [e]
  rfl
abbrev zM : Mm := zq
theorem zM_d : zM = zq := rfl
theorem zq_d : zq = Prm z0.2.2.2.2.1 := by
  unfold zq
  rfl
theorem Prm_1 {M : Mm} {k : Nat} : (Prm M).1 k = M.1 (qn k) := rfl
theorem Prm_2 {M : Mm} {k i : Nat} : (Prm M).2.1 k i = pn (M.2.1 (qn k) i) := rfl
theorem GZ_p {M : Mm} (h : GZ M) : GZ (Prm M) := fun a b => h (qn a) b
theorem zM_G : GZ zM := by
  rw [zM_d, zq_d]
  exact GZ_p (rs_gz _ _ _ _ _ _ _ _ _ _ _ (fun _ _ => rfl) z0_e)
theorem z0_op : z0.2.1 = (cod LAWM 23).2 := by decide +kernel
theorem z0_c : z0.2.2.2.2.2.1 ≤ 500000 ∧ z0.2.2.2.2.2.2 ≤ 6000000 := by decide +kernel
theorem z0_S : zM.2.2.1 1 0 = 41 ∧ zM.2.2.1 1 1 = 51 ∧ zM.2.2.1 1 2 = 61 ∧ zM.2.2.1 1 3 = 67 := by decide +kernel
theorem z0_1 : (gI zM 97 2 = 0 ∧ gI zM 2 1 = 0 ∧ gI zM 2 8 = gI zM 97 8) ∧ (∀ i, i < 4 → gI zM 40 i = gI zM 98 i) ∧ (gI zM 97 13 = 0 ∧ gI zM 61 5 = 0 ∧ gI zM 63 0 = 0 ∧ gI zM 69 0 = 0) ∧ (gI zM 16 0 = 1 ∧ gI zM 19 0 = 0) ∧ (gI zM 97 32 = -1 ∧ gI zM 97 33 = -1 ∧ gI zM 97 34 = -1 ∧ gI zM 97 35 = 0) ∧ gI zM 97 28 = 0 ∧ gI zM 97 27 = 0 ∧ gI zM 1 16 = 0 ∧ gI zM 97 12 = 0 ∧ (∀ i, i < 7 → gI zM 41 (9 + i) = 0) ∧ (∀ j, j < 7 → gI zM 100 j = 0) := by decide +kernel
theorem z0_2 : (∀ k, k < 5 → (0 ≤ gI zM 112 k ∧ gI zM 112 k ≤ 5) ∧ gI zM 32 k = gI zM 112 k) ∧ (∀ h, h < 24 → gI zM 112 (5 + h) = 0 ∧ gI zM 33 h = 0) ∧ (∀ h, h < 24 → gI zM 112 (29 + h) = -1 ∧ gI zM 34 h = -1) ∧ ((1 ≤ gI zM 112 53 ∧ gI zM 112 53 ≤ 12) ∧ gI zM 31 7 = gI zM 112 53) ∧ (gI zM 112 54 = 0 ∧ gI zM 31 8 = 0) ∧ gI zM 31 9 = -1 ∧ gI zM 112 79 = 0 := by decide +kernel
theorem lt_no {i c : Nat} (h : 64 ≤ i) (hc : c ≤ 64) : (i < c) = False := eq_false (by omega)
theorem rr_big {k i : Nat} (h : 64 ≤ i) : rr k i = 0 := by
  unfold rr
  simp (disch := decide) only [lt_no h, if_false, ite_self]
def S0f (L : Nat) (xs : Nat → Int32) : FS := fun k i => if k < 1000000 then zM.2.2.1 k i else (M00 L xs).2.2.1 k i
def F0f (L : Nat) (xs : Nat → Int32) : FI := fun k i => if k < 1000000 then gI zM k i else (M00 L xs).2.2.2.1 k i
def G0f : FJ := zM.2.2.2.2.1
theorem kk_hi {k : Nat} (h : 129 ≤ k) : kk k = if k = 1000000 then (6, 0) else if 2000000 ≤ k ∧ k < 2000051 then (7, strL (k - 2000000)) else (9, 0) := by
  unfold kk
  rw [if_neg (by omega)]
theorem rr_hi {k i : Nat} (h : 129 ≤ k) : rr k i = 0 := by
  unfold rr
  rw [if_neg (by omega)]
theorem ov_mm {S1 : FS} {F1 : FI} {M : Mm} (h1 : M.1 = kk) (h2 : M.2.1 = rr) (hN : gN M = NN) : ov S1 F1 M = mm (fun k i => if k < 1000000 then M.2.2.1 k i else S1 k i) (fun k i => if k < 1000000 then gI M k i else F1 k i) M.2.2.2.2.1 := by
  obtain ⟨a, b, c, d, e, n⟩ := M
  have h1 : a = kk := h1
  have h2 : b = rr := h2
  have hN : n = NN := hN
  subst h1 h2 hN
  rfl
theorem mL_1 (F : FI) : (mL F).1 = F 97 13 := rfl
theorem PM_ov {S1 : FS} {F1 : FI} {M : Mm} (h : ∀ k i, 1000000 ≤ k → (if (M.1 k).1 = 6 then S1 k i else pn (S1 k i)) = S1 k i) : Prm (ov S1 F1 M) = ov S1 F1 (Prm M) := by
  refine Prod.ext rfl (Prod.ext rfl (Prod.ext ?_ (Prod.ext ?_ rfl)))
  · funext k i
    show (if (M.1 (qn k)).1 = 6 then (if qn k < 1000000 then M.2.2.1 (qn k) i else S1 (qn k) i) else pn (if qn k < 1000000 then M.2.2.1 (qn k) i else S1 (qn k) i)) = if k < 1000000 then (if (M.1 (qn k)).1 = 6 then M.2.2.1 (qn k) i else pn (M.2.2.1 (qn k) i)) else S1 k i
    by_cases hk : k < 1000000
    · rw [if_pos hk, if_pos ((qn_lt (by omega)).mpr hk)]
    · rw [if_neg hk, if_neg (fun h2 => hk ((qn_lt (by omega)).mp h2)), qn_id (by omega)]
      exact h k i (by omega)
  · funext k i
    show (if qn k < 1000000 then gI M (qn k) i else F1 (qn k) i) = if k < 1000000 then gI M (qn k) i else F1 k i
    by_cases hk : k < 1000000
    · rw [if_pos hk, if_pos ((qn_lt (by omega)).mpr hk)]
    · rw [if_neg hk, if_neg (fun h2 => hk ((qn_lt (by omega)).mp h2)), qn_id (by omega)]
theorem zM_mm (L : Nat) (xs : Nat → Int32) : Prm (ov (M00 L xs).2.2.1 (M00 L xs).2.2.2.1 z0.2.2.2.2.1) = mm (S0f L xs) (F0f L xs) G0f := by
  obtain ⟨-, ki, fr⟩ := rs_ov (S1 := fun _ _ => 0) (F1 := fun _ _ => 0) _ _ _ _ _ _ _ _ _ _ _ M0c_ki z0_e
  have hN : gN z0.2.2.2.2.1 = 128 := z0_N
  have hM : gN zM = NN := by
    rw [zM_d, zq_d, PM_N]
    exact hN
  have e1 : zM.1 = kk := by
    funext k
    by_cases h : k < 129
    · rw [zM_d]
      exact z0_k k h
    · rw [kk_hi (by omega), zM_d, zq_d, Prm_1, qn_id (k := k) (by omega), (fr.2 k (by rw [hN]; omega)).1]
      rfl
  have e2 : zM.2.1 = rr := by
    funext k i
    by_cases h : k < 129
    · by_cases hi : i < 64
      · rw [zM_d]
        exact z0_r k h i hi
      · rw [rr_big (by omega), zM_d, zq_d, Prm_2, ki.2.2 (qn k) i (by omega)]
        rfl
    · rw [rr_hi (by omega), zM_d, zq_d, Prm_2, qn_id (k := k) (by omega), (fr.2 k (by rw [hN]; omega)).2]
      rfl
  rw [PM_ov (fun k i hk => ?_)]
  · rw [← zq_d]
    exact ov_mm e1 e2 hM
  · by_cases h : k = 1000000
    · subst h
      rw [(fr.2 1000000 (by rw [hN]; omega)).1]
      exact if_pos rfl
    · have h0 : (M00 L xs).2.2.1 k i = 0 := if_neg h
      rw [h0]
      split <;> rfl
theorem F0_l {L : Nat} {xs : Nat → Int32} {k i : Nat} (h : k < 1000000) : F0f L xs k i = gI zM k i := if_pos h
theorem S0_l {L : Nat} {xs : Nat → Int32} {k i : Nat} (h : k < 1000000) : S0f L xs k i = zM.2.2.1 k i := if_pos h
theorem c_nn {h : Int} (h0 : 0 ≤ h) (a : Nat) : ((a : Int) + h).toNat = a + h.toNat := by omega
theorem BI_0 (L : Nat) (xs : Nat → Int32) : BI (F0f L xs 1000000) L (S0f L xs) (F0f L xs) G0f := by
  obtain ⟨⟨t1, t2, t3⟩, r1, ⟨w1, w2, w3, w4⟩, ⟨c1, c2⟩, o1, k1, i1, i2, n1, n2, n3⟩ := z0_1
  obtain ⟨p1, p2, p3, ⟨p4, p5⟩, ⟨p6, p7⟩, p8, p9⟩ := z0_2
  obtain ⟨s1, s2, s3, s4⟩ := z0_S
  have f : ∀ {k : Nat} (i : Nat), k < 1000000 → F0f L xs k i = gI zM k i := fun i h => F0_l h
  have mw : (mL (F0f L xs)).1 = 0 := by
    rw [mL_1, f 13 (by decide)]
    exact w1
  have a5 : ∀ k : Int, 0 ≤ k → k < 5 → (0 ≤ F0f L xs 112 k.toNat ∧ F0f L xs 112 k.toNat ≤ 5) ∧ F0f L xs 32 k.toNat = F0f L xs 112 k.toNat := by
    intro k h0 h1
    rw [f _ (by decide), f _ (by decide)]
    exact p1 k.toNat (by omega)
  have a6 : ∀ h : Int, 0 ≤ h → h < 24 → F0f L xs 112 (5 + h).toNat = 0 ∧ F0f L xs 33 h.toNat = 0 := by
    intro h h0 h1
    rw [f _ (by decide), f _ (by decide), show (5 + h).toNat = 5 + h.toNat by omega]
    exact p2 h.toNat (by omega)
  have a7 : ∀ h : Int, 0 ≤ h → h < 24 → F0f L xs 112 (29 + h).toNat = -1 ∧ F0f L xs 34 h.toNat = -1 := by
    intro h h0 h1
    rw [f _ (by decide), f _ (by decide), show (29 + h).toNat = 29 + h.toNat by omega]
    exact p3 h.toNat (by omega)
  have l1 : F0f L xs 100 1 = 0 := by rw [f 1 (by decide)]; exact n3 1 (by decide)
  have l2 : F0f L xs 100 2 = 0 := by rw [f 2 (by decide)]; exact n3 2 (by decide)
  have q54 : F0f L xs 112 54 = 0 := by rw [f 54 (by decide)]; exact p6
  have q79 : F0f L xs 112 79 = 0 := by rw [f 79 (by decide)]; exact p9
  have q12 : F0f L xs 97 12 = 0 := by rw [f 12 (by decide)]; exact n1
  have q27 : F0f L xs 97 27 = 0 := by rw [f 27 (by decide)]; exact i1
  have q2 : F0f L xs 97 2 = 0 := by rw [f 2 (by decide)]; exact t1
  have q28 : F0f L xs 97 28 = 0 := by rw [f 28 (by decide)]; exact k1
  refine ⟨41, 51, 61, 67, ⟨⟨Or.inl rfl, Or.inr rfl, by decide⟩, ⟨Or.inl rfl, Or.inr rfl, by decide⟩, ?_, ?_, ?_, ?_⟩, ?_, ⟨rfl, rfl⟩, ⟨?_, ?_, ?_, ?_⟩, ?_, ⟨⟨?_, ?_⟩, ⟨?_, ?_⟩, ?_, ?_⟩, ⟨?_, ?_⟩, ⟨⟨?_, ?_, ?_, ?_⟩, ?_, ?_⟩, ⟨?_, ?_, ?_⟩, ⟨⟨?_, ?_, ?_, ?_, ?_, ?_⟩, ?_⟩, ⟨?_, ?_, ?_, ?_, ?_, ?_, ?_, ?_, ?_, ?_⟩, ⟨?_, ?_, ?_⟩, Or.inl ⟨q12, ?_, ?_⟩⟩
  · rw [S0_l (by decide)]; exact s1
  · rw [S0_l (by decide)]; exact s2
  · rw [S0_l (by decide)]; exact s3
  · rw [S0_l (by decide)]; exact s4
  · intro t i ht hi
    have ht : t < 51 := ht
    show (if 2000000 + t < 1000000 then _ else (if 2000000 + t = 1000000 then (if i < L then (xs i).toInt else 0) else if 2000000 ≤ 2000000 + t ∧ 2000000 + t < 2000051 ∧ i < strL (2000000 + t - 2000000) then strC (2000000 + t - 2000000) i else 0)) = _
    rw [if_neg (by omega), if_neg (by omega), show 2000000 + t - 2000000 = t by omega, if_pos ⟨by omega, by omega, hi⟩]
  · rw [q2]; decide
  · rw [q2, f 1 (by decide)]; exact t2
  · intro i hi
    rw [q2] at hi
    omega
  · rw [f 8 (by decide), f 8 (by decide)]; exact t3
  · intro i hi
    rw [f i (by decide), f i (by decide)]
    exact r1 i hi
  · rw [mw]; decide
  · intro k h0 h1
    rw [mw] at h1
    omega
  · rw [mw, f 5 (by decide)]; exact w2
  · intro k h0 h1
    rw [mw] at h1
    omega
  · rw [f 0 (by decide)]; exact w3
  · rw [f 0 (by decide)]; exact w4
  · rw [f 0 (by decide)]; exact c1
  · rw [f 0 (by decide)]; exact c2
  · rw [f 32 (by decide)]; exact o1.1
  · rw [f 33 (by decide)]; exact o1.2.1
  · rw [f 34 (by decide)]; exact o1.2.2.1
  · rw [f 35 (by decide)]; exact o1.2.2.2
  · exact Or.inl q28
  · intro q
    rw [q28] at q
    exact absurd q (by decide)
  · intro i
    show B5 (gJ zM 119 i)
    rw [zM_G 119 i]
    exact ⟨by decide, by decide⟩
  · intro i
    show B5 (gJ zM 120 i)
    rw [zM_G 120 i]
    exact ⟨by decide, by decide⟩
  · intro i
    show B5 (gJ zM 121 i)
    rw [zM_G 121 i]
    exact ⟨by decide, by decide⟩
  · exact fun k h0 h1 => (a5 k h0 h1).1
  · intro h h0 h1
    rw [(a6 h h0 h1).1, l1]
    decide
  · intro h h0 h1
    rw [(a7 h h0 h1).1, l2]
    decide
  · rw [f 53 (by decide)]; exact p4
  · rw [q54]; decide
  · intro i h0 h1
    rw [q54] at h1
    omega
  · intro q
    exact absurd q79 q
  · exact fun k h0 h1 => (a5 k h0 h1).2
  · intro h h0 h1
    rw [(a6 h h0 h1).1]
    exact (a6 h h0 h1).2
  · intro h h0 h1
    rw [(a7 h h0 h1).1]
    exact (a7 h h0 h1).2
  · rw [f 7 (by decide), f 53 (by decide)]; exact p5
  · rw [q54, f 8 (by decide)]; exact p7
  · intro i h0 h1
    rw [q54] at h1
    omega
  · rw [if_pos q79, f 9 (by decide)]; exact p8
  · intro q
    exact absurd q79 q
  · intro q
    exact absurd q79 q
  · intro q
    exact absurd q79 q
  · rw [q27]; decide
  · rw [q27, f 16 (by decide)]; exact i2
  · intro n hn
    rw [q27] at hn
    omega
  · intro i h9 h15
    rw [f i (by decide), show i = 9 + (i - 9) by omega]
    exact n2 (i - 9) (by omega)
  · intro j hj
    rw [f j (by decide)]
    exact n3 j hj
