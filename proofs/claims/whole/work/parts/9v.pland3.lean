/-! ===== the reference: a land is told ===== -/
def lC (l g : Nat → Int) : Nat → Int := fun j => if j < 708 then l j else g j
def s00 : Nat → Int := fun j => if j = 53 then 1 else if j < 29 then 0 else if j < 53 then -1 else 0
set_option maxRecDepth 100000 in
theorem l_108 {Q : Rs → Mm → Prop} {F0 : FI} {S : FS} {G : FJ} (hk : ∀ F', (∀ a, a ≠ 97 → a ≠ 112 → F' a = F0 a) → (∀ i, i ≠ 28 → F' 97 i = F0 97 i) → F' 97 28 = 0 → (∀ j, j < 156 → F' 112 j = s00 j) → Q (.inl none) (mm S F' G)) :
    ∀ (K x : Nat) (F : FI), K + x = 156 → (∀ a, a ≠ 112 → F a = F0 a) → (∀ j, j < x → F 112 j = if j < 29 then 0 else if j < 53 then -1 else 0) → wph 0 108 2 [.inr (.inr (.inl 97)), .inl (x : Int)] [] (mm S F G) (0, 0) Q := by
  intro K
  induction K with
  | zero =>
    intro x F hx hF hs
    refine sg_108_2 (cd_f (by omega) (hk _ (fun a a1 a2 => ?_) (fun i hi => ?_) u2_s (fun j hj => ?_)))
    · rw [u2_o a1, u2_o a2]; exact hF a a2
    · rw [u2_n hi, u2_o (by decide), hF 97 (by decide)]
    · rw [u2_o (by decide), u2_k]
      unfold s00
      split
      · rfl
      · exact hs j (by omega)
  | succ K ih =>
    intro x F hx hF hs
    have tx : ((x : Int)).toNat = x := by omega
    have nxt : ∀ v, v = (if x < 29 then 0 else if x < 53 then -1 else 0) → wph 0 108 2 [.inr (.inr (.inl 97)), .inl (wr ((x : Int) + 1))] [] (mm S (u2 F 112 ((x : Int)).toNat v) G) (0, 0) Q := by
      intro v ev
      rw [wr_id (by omega) (by omega), show (x : Int) + 1 = ((x + 1 : Nat) : Int) by omega, tx]
      refine ih (x + 1) _ (by omega) (fun a ha => (u2_o ha).trans (hF a ha)) (fun j hj => ?_)
      rw [u2_k]
      by_cases q : j = x
      · rw [if_pos q, ev, q]
      · rw [if_neg q]
        exact hs j (by omega)
    refine sg_108_2 (cd_t (by omega) (cn_i (fun a => ck_i (jb_i (by omega) (by omega)) (nxt 0 ?_)) (fun a => cn_i (fun b => ck_i (jb_i (by omega) (by omega)) (nxt (-1) ?_)) (fun b => ck_i (jb_i (by omega) (by omega)) (nxt 0 ?_)))))
    · rw [if_pos (by omega)]
    · rw [if_neg (by omega), if_pos (by omega)]
    · rw [if_neg (by omega), if_neg (by omega)]
theorem c_108 {k : FS → FI → FJ → Prop} {S : FS} {F : FI} {G : FJ} (hk : ∀ F', (∀ a, a ≠ 97 → a ≠ 112 → F' a = F a) → (∀ i, i ≠ 28 → F' 97 i = F 97 i) → F' 97 28 = 0 → (∀ j, j < 156 → F' 112 j = s00 j) → k S F' G) : calV 0 108 [.inr (.inr (.inl 97))] (mm S F G) k nof :=
  sg_108_0 (l_108 (F0 := F) (fun F' a b c d => ⟨_, _, _, rfl, hk F' a b c d⟩) 156 0 F rfl (fun _ _ => rfl) (fun j hj => by omega))
set_option maxRecDepth 100000 in
theorem l_96_229 {Q : Rs → Mm → Prop} {F0 : FI} {l : Nat → Int} {S : FS} {G : FJ} (h101 : F0 101 = l)
    (hk : ∀ F', (∀ a, a ≠ 97 → a ≠ 100 → a ≠ 112 → F' a = F0 a) → (∀ i, i ≠ 12 → i ≠ 13 → i ≠ 27 → i ≠ 28 → F' 97 i = F0 97 i) → (F' 97 12 = 1 ∧ F' 97 13 = 0 ∧ F' 97 27 = 0 ∧ F' 97 28 = 0) → F' 100 = lC l (F0 100) → (∀ j, j < 156 → F' 112 j = s00 j) → Q (.inl (some (.inl (l 0)))) (mm S F' G)) :
    ∀ (K x : Nat) (F : FI), K + x = 708 → (∀ a, a ≠ 100 → F a = F0 a) → (∀ j, F 100 j = if j < x then l j else F0 100 j) → wph 5 96 229 [.inr (.inr (.inl 97)), jk, jk, .inl (x : Int)] [] (mm S F G) (0, 0) Q := by
  intro K
  induction K with
  | zero =>
    intro x F hx hF hs
    have e100 : F 100 = lC l (F0 100) := by
      funext j
      rw [hs j]
      unfold lC
      rw [show x = 708 by omega]
    refine sg_96_229 (cd_f (by omega) (c_108 (fun F' f1 f2 f3 f4 => ?_)))
    have g100 : F' 100 = lC l (F0 100) := by rw [f1 100 (by decide) (by decide), u2_o (by decide), u2_o (by decide), u2_o (by decide)]; exact e100
    have e0 : F' 100 0 = l 0 := by rw [g100]; rfl
    rw [e0]
    refine hk F' (fun a a1 a2 a3 => ?_) (fun i i1 i2 i3 i4 => ?_) ⟨?_, ?_, ?_, f3⟩ g100 f4
    · rw [f1 a a1 a3, u2_o a1, u2_o a1, u2_o a1]; exact hF a a2
    · rw [f2 i i4, u2_n i2, u2_n i3, u2_n i1, hF 97 (by decide)]
    · rw [f2 12 (by decide), u2_n (by decide), u2_n (by decide), u2_s]
    · rw [f2 13 (by decide), u2_s]
    · rw [f2 27 (by decide), u2_n (by decide), u2_s]
  | succ K ih =>
    intro x F hx hF hs
    have tx : ((x : Int)).toNat = x := by omega
    refine sg_96_229 (cd_t (by omega) (ck_i (jb_i (by omega) (by omega)) (ck_i (jb_i (by omega) (by omega)) ?_)))
    rw [wr_id (by omega) (by omega), show (x : Int) + 1 = ((x + 1 : Nat) : Int) by omega, tx, hF 101 (by decide), h101]
    refine ih (x + 1) _ (by omega) (fun a ha => (u2_o ha).trans (hF a ha)) (fun j => ?_)
    rw [u2_k]
    by_cases q : j = x
    · rw [if_pos q, q, if_pos (by omega)]
    · rw [if_neg q, hs j]
      by_cases q2 : j < x
      · rw [if_pos q2, if_pos (by omega)]
      · rw [if_neg q2, if_neg (by omega)]
set_option maxRecDepth 100000 in
theorem l_96_40 {Q : Rs → Mm → Prop} {F0 : FI} {S : FS} {G : FJ} (hk : wph 5 96 78 [.inr (.inr (.inl 97)), jk, .inl 0] [] (mm S (wL F0 (l00 (F0 101))) G) (0, 0) Q) :
    ∀ (K x : Nat) (l : Nat → Int), K + x = 708 → (∀ j, l j = if j < x then 0 else F0 101 j) → wph 5 96 40 [.inr (.inr (.inl 97)), jk, .inl (x : Int)] [] (mm S (wL F0 l) G) (0, 0) Q := by
  intro K
  induction K with
  | zero =>
    intro x l hx hl
    refine sg_96_40 (cd_f (by omega) ?_)
    rw [wL_u, wL_u]
    have e : uL (uL l 3 12) 4 12 = l00 (F0 101) := by
      funext j
      show (if j = 4 then 12 else if j = 3 then 12 else l j) = if j = 4 then 12 else if j = 3 then 12 else if j < 708 then 0 else F0 101 j
      rw [hl j, show x = 708 by omega]
    rw [e]
    exact hk
  | succ K ih =>
    intro x l hx hl
    have tx : ((x : Int)).toNat = x := by omega
    refine sg_96_40 (cd_t (by omega) (ck_i (jb_i (by omega) (by omega)) ?_))
    rw [wr_id (by omega) (by omega), show (x : Int) + 1 = ((x + 1 : Nat) : Int) by omega, tx, wL_u]
    refine ih (x + 1) _ (by omega) (fun j => ?_)
    show (if j = x then 0 else l j) = _
    by_cases q : j = x
    · rw [if_pos q, if_pos (by omega)]
    · rw [if_neg q, hl j]
      by_cases q2 : j < x
      · rw [if_pos q2, if_pos (by omega)]
      · rw [if_neg q2, if_neg (by omega)]
/-- all lines of a land, and how it stands then -/
noncomputable def lRd (F : FI) (n : Int) : Pz × (Nat → Int) := lLo (F 99) n 61 0 (0, -1, F 97 6) (l00 (F 101))
noncomputable def lP (F : FI) (n : Int) : Pz := pE (lRd F n).1 (lRd F n).2 n
theorem pE_n {p : Pz} {l : Nat → Int} {n : Int} (h0 : 0 ≤ n) (h : (pE p l n).2.1 = -1) : p.2.1 = -1 ∧ l 0 ≠ 0 ∧ l 2 ≠ 0 := by
  unfold pE at h
  split at h
  · rename_i c
    unfold pFl at h
    rw [if_pos c.1] at h
    have h : n = -1 := h
    omega
  · rename_i c
    exact ⟨h, fun r => c ⟨h, Or.inl r⟩, fun r => c ⟨h, Or.inr r⟩⟩
set_option maxRecDepth 100000 in
theorem q_96 {k : Int → FS → FI → FJ → Prop} {x1 : Int} {S : FS} {F : FI} {G : FJ} (hT : TX F) (h2 : 0 ≤ F 97 2 ∧ F 97 2 ≤ 600) (noA : ¬ (0 ≤ x1 ∧ x1 ≤ F 97 2) → k 0 S (rfs (zF F) 1 2) G)
    (bad : 0 ≤ x1 ∧ x1 ≤ F 97 2 → (lP F x1).2.1 ≠ -1 → ∀ F', (∀ a, a ≠ 97 → a ≠ 101 → F' a = F a) → (∀ i, i ≠ 0 → ¬ (2 ≤ i ∧ i ≤ 8) → F' 97 i = F 97 i) → F' 97 0 = 0 → F' 97 2 = 0 → F' 97 8 = (lP F x1).2.1 → k (wr ((lP F x1).2.2 - 10)) S F' G)
    (good : 0 ≤ x1 ∧ x1 ≤ F 97 2 → (lP F x1).2.1 = -1 → RV (lRd F x1).2 → 1 ≤ (lRd F x1).2 0 ∧ 1 ≤ (lRd F x1).2 2 → ∀ F', (∀ a, a ≠ 97 → a ≠ 100 → a ≠ 101 → a ≠ 112 → F' a = F a) → (∀ i, i ≠ 0 → ¬ (2 ≤ i ∧ i ≤ 8) → i ≠ 12 → i ≠ 13 → i ≠ 27 → i ≠ 28 → F' 97 i = F 97 i) → F' 97 0 = 0 → F' 97 2 = 0 → F' 97 8 = -1 → (F' 97 12 = 1 ∧ F' 97 13 = 0 ∧ F' 97 27 = 0 ∧ F' 97 28 = 0) → F' 100 = lC (lRd F x1).2 (F 100) → (∀ j, j < 156 → F' 112 j = s00 j) → k ((lRd F x1).2 0) S F' G) : calI 5 96 [.inr (.inr (.inl 97)), .inl x1] (mm S F G) k nof := by
  refine sg_96_0 ?_
  rw [show u2 F 97 0 0 = zF F from rfl]
  refine cn_i (fun z => c_69 z_0 (by decide) (by decide) (by decide) (fun q => absurd rfl q) (fun _ => cn_0 ⟨_, _, _, rfl, noA (by omega)⟩)) (fun z => cn_i (fun z2 => c_69 z_0 (by decide) (by decide) (by decide) (fun q => absurd rfl q) (fun _ => cn_0 ⟨_, _, _, rfl, noA (by omega)⟩)) (fun z2 => ?_))
  refine c_69 z_0 (by decide) (by decide) (by decide) (fun _ => cn_1 ?_) (fun q => absurd q (by decide))
  have hx : 0 ≤ x1 ∧ x1 ≤ F 97 2 := by omega
  have bad := bad hx
  have good := good hx
  refine c_84 hx.1 (by omega) (fun s0 n0 => ?_)
  obtain ⟨F1, eF1⟩ : ∃ F1, F1 = pZ0 (zF F) x1 := ⟨_, rfl⟩
  rw [← eF1] at s0 n0 ⊢
  have o1 : ∀ a, a ≠ 97 → F1 a = F a := fun a ha => by
    rw [eF1]
    unfold pZ0
    rw [u2_o ha, u2_o ha, u2_o ha, u2_o ha, u2_o ha, u2_o ha]
    exact z_n ha
  have f1 : ∀ i, i ≠ 0 → ¬ (2 ≤ i ∧ i ≤ 8 ∧ i ≠ 6) → F1 97 i = F 97 i := fun i i0 hi => by
    rw [eF1]
    unfold pZ0
    rw [u2_n (by omega), u2_n (by omega), u2_n (by omega), u2_n (by omega), u2_n (by omega), u2_n (by omega)]
    exact z_f i0
  have f0 : F1 97 0 = 0 := by
    rw [eF1]
    unfold pZ0
    rw [u2_n (by decide), u2_n (by decide), u2_n (by decide), u2_n (by decide), u2_n (by decide), u2_n (by decide)]
    exact z_0
  have f2 : F1 97 2 = 0 := by
    rw [eF1]
    unfold pZ0
    rw [u2_n (by decide), u2_n (by decide), u2_n (by decide), u2_n (by decide), u2_n (by decide), u2_s]
  have e6 : zF F 97 6 = F 97 6 := z_f (by decide)
  rw [e6] at s0 n0
  have tx1 : TX F1 := fun t i a b => by rw [o1 _ (by omega)]; exact hT t i a b
  have eR : lLo (F1 99) x1 61 0 (0, -1, F 97 6) (l00 (F1 101)) = lRd F x1 := by
    unfold lRd
    rw [o1 99 (by decide), o1 101 (by decide)]
  have sw : PZs (wL F1 (l00 (F1 101))) (wL F1 (l00 (F1 101))) (0, -1, F 97 6) := by
    refine ⟨fun _ _ => rfl, fun _ _ _ _ => rfl, ?_, ?_, ?_⟩
    · rw [wL_o (by decide)]; exact s0.2.2.1
    · rw [wL_o (by decide)]; exact s0.2.2.2.1
    · rw [wL_o (by decide)]; exact s0.2.2.2.2
  have loop : wph 5 96 78 [.inr (.inr (.inl 97)), jk, .inl 0] [] (mm S (wL F1 (l00 (F1 101))) G) (0, 0) (fun o M' => ∃ S F G, M' = mm S F G ∧ (match o with
      | .inl (some (.inl x)) => k x S F G
      | .inr e => nof e S F G
      | _ => False)) := by
    refine l_96_78 (R := lRd F x1) tx1 n0.1 (fun b F' s => ?_) (fun b rv F' s => ?_) 60 0 (0, -1, F 97 6) (l00 (F1 101)) (wL F1 (l00 (F1 101))) rfl eR sw n0 (fun _ => RV_00 _)
    · have oF : ∀ a, a ≠ 97 → a ≠ 101 → F' a = F a := fun a h1 h2 => by rw [s.1 a h1, wL_o h2]; exact o1 a h1
      have oG : ∀ i, i ≠ 4 → i ≠ 5 → i ≠ 6 → F' 97 i = F1 97 i := fun i h1 h2 h3 => by rw [s.2.1 i h1 h2 h3, wL_o (by decide)]
      refine ⟨_, _, _, rfl, bad b _ (fun a h1 h2 => by rw [u2_o h1]; exact oF a h1 h2) (fun i i0 hi => ?_) ?_ ?_ u2_s⟩
      · rw [u2_n (by omega), oG i (by omega) (by omega) (by omega)]
        exact f1 i i0 (by omega)
      · rw [u2_n (by decide), oG 0 (by decide) (by decide) (by decide)]; exact f0
      · rw [u2_n (by decide), oG 2 (by decide) (by decide) (by decide)]; exact f2
    · have oF : ∀ a, a ≠ 97 → a ≠ 101 → F' a = F a := fun a h1 h2 => by rw [s.1 a h1, wL_o h2]; exact o1 a h1
      have oG : ∀ i, i ≠ 4 → i ≠ 5 → i ≠ 6 → F' 97 i = F1 97 i := fun i h1 h2 h3 => by rw [s.2.1 i h1 h2 h3, wL_o (by decide)]
      have ne := pE_n hx.1 b
      have rv0 := rv.1.1
      have rv2 := rv.1.2.2.1
      refine l_96_229 (F0 := u2 F' 97 8 (-1)) (l := (lRd F x1).2) (by rw [u2_o (by decide), s.1 101 (by decide)]; exact wL_s) (fun F2 g1 g2 g3 g4 g5 => ⟨_, _, _, rfl, ?_⟩) 708 0 _ rfl (fun _ _ => rfl) (fun j => by rw [if_neg (by omega)])
      refine good b rv ⟨by omega, by omega⟩ F2 (fun a a1 a2 a3 a4 => ?_) (fun i i0 hi i1 i2 i3 i4 => ?_) ?_ ?_ ?_ g3 ?_ g5
      · rw [g1 a a1 a2 a4, u2_o a1]; exact oF a a1 a3
      · rw [g2 i i1 i2 i3 i4, u2_n (by omega), oG i (by omega) (by omega) (by omega)]
        exact f1 i i0 (by omega)
      · rw [g2 0 (by decide) (by decide) (by decide) (by decide), u2_n (by decide), oG 0 (by decide) (by decide) (by decide)]; exact f0
      · rw [g2 2 (by decide) (by decide) (by decide) (by decide), u2_n (by decide), oG 2 (by decide) (by decide) (by decide)]; exact f2
      · rw [g2 8 (by decide) (by decide) (by decide) (by decide), u2_s]
      · rw [g4, u2_o (by decide), oF 100 (by decide) (by decide)]
  have := l_96_40 (F0 := F1) loop 708 0 (F1 101) rfl (fun j => by rw [if_neg (by omega)])
  rw [wL_i] at this
  exact this
