/-! ===== the reference is told a law ===== -/
/-- a law as it was read -/
def LMt (w : La) (rl prog : List (Int × Int)) : Prop := w.1 = (rl.length : Int) ∧ (∀ i : Nat, i < rl.length → w.2.1 i = (rl.getD i (0, 0)).1 ∧ w.2.2.1 ((i : Int) + 1) = (rl.getD i (0, 0)).2) ∧ ∀ i : Nat, i < prog.length → w.2.2.2.1 i = (prog.getD i (0, 0)).1 ∧ w.2.2.2.2 i = (prog.getD i (0, 0)).2
def frl (rl : List (Int × Int)) (i : Nat) : Int := if i = 0 then 0 else (rl.getD (i - 1) (0, 0)).2
def RWF (rl prog : List (Int × Int)) : Prop := (∀ i, i < rl.length → (0 ≤ frl rl i ∧ frl rl i ≤ (rl.getD i (0, 0)).2 ∧ (rl.getD i (0, 0)).2 ≤ prog.length) ∧ wfl ((prog.drop (frl rl i).toNat).take ((rl.getD i (0, 0)).2 - frl rl i).toNat) 0 1) ∧ frl rl rl.length = (prog.length : Int)
theorem RWF_s {rl prog s : List (Int × Int)} {go : Int} (h : RWF rl prog) (hs : wfl s 0 1) : RWF (rl ++ [(go, ((prog ++ s).length : Int))]) (prog ++ s) := by
  obtain ⟨h1, h2⟩ := h
  have fe : ∀ i, i ≤ rl.length → frl (rl ++ [(go, ((prog ++ s).length : Int))]) i = frl rl i := fun i hi => by
    unfold frl
    by_cases q : i = 0
    · rw [if_pos q, if_pos q]
    · rw [if_neg q, if_neg q, getD_l (by omega)]
  have pl : (prog ++ s).length = prog.length + s.length := List.length_append
  refine ⟨fun i hi => ?_, ?_⟩
  · rw [List.length_append] at hi
    have hi : i < rl.length + 1 := hi
    rw [fe i (by omega)]
    by_cases q : i = rl.length
    · subst q
      rw [getD_r, h2]
      refine ⟨⟨by omega, by show (prog.length : Int) ≤ ((prog ++ s).length : Int); omega, Int.le_refl _⟩, ?_⟩
      show wfl (((prog ++ s).drop ((prog.length : Int)).toNat).take (((prog ++ s).length : Int) - (prog.length : Int)).toNat) 0 1
      rw [show ((prog.length : Int)).toNat = prog.length by omega, show (((prog ++ s).length : Int) - (prog.length : Int)).toNat = s.length by omega, List.drop_left, List.take_length]
      exact hs
    · rw [getD_l (by omega)]
      obtain ⟨⟨a1, a2, a3⟩, a4⟩ := h1 i (by omega)
      refine ⟨⟨a1, a2, by omega⟩, ?_⟩
      rw [List.drop_append_of_le_length (by omega), List.take_append_of_le_length (by rw [List.length_drop]; omega)]
      exact a4
  · have el : (rl ++ [(go, ((prog ++ s).length : Int))]).length = rl.length + 1 := List.length_append
    rw [el]
    unfold frl
    rw [if_neg (by omega), show rl.length + 1 - 1 = rl.length by omega, getD_r]
theorem wfS_l {ops vs : Int → Int} : ∀ (s : List (Int × Int)) (f d : Int), wfl s d 1 → (∀ i : Nat, i < s.length → ops (f + i) = (s.getD i (0, 0)).1 ∧ vs (f + i) = (s.getD i (0, 0)).2) → wfS ops vs s.length f d := by
  intro s
  induction s with
  | nil => intro f d h _; exact h
  | cons q r ih =>
    intro f d h hs
    have e0 := hs 0 (by show 0 < r.length + 1; omega)
    rw [show f + ((0 : Nat) : Int) = f by omega] at e0
    have e0 : ops f = q.1 ∧ vs f = q.2 := e0
    have er : ∀ i : Nat, i < r.length → ops (f + 1 + i) = (r.getD i (0, 0)).1 ∧ vs (f + 1 + i) = (r.getD i (0, 0)).2 := fun i hi => by
      have := hs (i + 1) (by show i + 1 < r.length + 1; omega)
      rw [show f + ((i + 1 : Nat) : Int) = f + 1 + (i : Int) by omega] at this
      exact this
    show wfS ops vs (r.length + 1) f d
    unfold wfS
    rw [e0.1, e0.2]
    rcases h with ⟨a1, a2, a3, a4, a5, a6, a7⟩ | ⟨a1, a2, a3⟩ | ⟨a1, a2, a3, a4, a5⟩
    · exact Or.inl ⟨a1, a2, a3, a4, a5, a6, ih _ _ a7 er⟩
    · exact Or.inr (Or.inl ⟨a1, a2, ih _ _ a3 er⟩)
    · exact Or.inr (Or.inr ⟨a1, a2, a3, a4, ih _ _ a5 er⟩)
theorem seg_d {prog : List (Int × Int)} {f k i : Nat} (hi : i < k) : ((prog.drop f).take k).getD i (0, 0) = prog.getD (f + i) (0, 0) := by
  rw [List.getD_eq_getElem?_getD, List.getD_eq_getElem?_getD, List.getElem?_take, if_pos hi, List.getElem?_drop]
theorem LMt_LW {w : La} {rl prog : List (Int × Int)} (h : LMt w rl prog) (hr : RWF rl prog) (h10 : rl.length ≤ 10) (h600 : prog.length ≤ 600) : LW w ∧ ∀ k : Nat, k < rl.length → frm w k = frl rl k := by
  obtain ⟨e1, e2, e3⟩ := h
  have ef : ∀ k : Nat, k < rl.length → frm w k = frl rl k := fun k hk => by
    unfold frm frl
    by_cases q : k = 0
    · rw [if_pos (by omega), if_pos q]
    · rw [if_neg (by omega), if_neg q]
      have := (e2 (k - 1) (by omega)).2
      rw [show (((k - 1 : Nat) : Int)) + 1 = (k : Int) by omega] at this
      exact this
  refine ⟨⟨by omega, fun k k0 k1 => ?_⟩, ef⟩
  obtain ⟨j, ej⟩ : ∃ j : Nat, k = j := ⟨k.toNat, by omega⟩
  subst ej
  obtain ⟨⟨a1, a2, a3⟩, a4⟩ := hr.1 j (by omega)
  rw [ef j (by omega), (e2 j (by omega)).2]
  refine ⟨a1, a2, by omega, ?_⟩
  have ln : ((prog.drop (frl rl j).toNat).take ((rl.getD j (0, 0)).2 - frl rl j).toNat).length = ((rl.getD j (0, 0)).2 - frl rl j).toNat := by
    rw [List.length_take, List.length_drop]
    omega
  have := wfS_l (ops := w.2.2.2.1) (vs := w.2.2.2.2) _ (frl rl j) 0 a4 (fun i hi => ?_)
  · rw [ln] at this
    exact this
  · rw [ln] at hi
    rw [seg_d hi]
    have := e3 ((frl rl j).toNat + i) (by omega)
    rw [show (((frl rl j).toNat + i : Nat) : Int) = frl rl j + (i : Int) by omega] at this
    exact this
theorem RUL_wf {t : Nat → Int} {n : Int} (hn : n ≤ 600) {R : Px × List (Int × Int)} : ∀ (K : Nat) (x : Px) (rl : List (Int × Int)), K + rl.length = 11 → RUL t n K x rl R → 0 ≤ x.1.1 ∧ x.1.1 ≤ n → (x.1.2.1 = -1 → (x.2.length : Int) ≤ x.1.1 ∧ rl.length ≤ 10 ∧ RWF rl x.2) → R.1.1.2.1 = -1 → (R.1.2.length : Int) ≤ 600 ∧ R.2.length ≤ 10 ∧ RWF R.2 R.1.2 := by
  intro K
  induction K with
  | zero =>
    intro x rl hK hR hx hl hr
    have hR : R = (x, rl) := hR
    rw [hR] at hr ⊢
    have := hl hr
    omega
  | succ K ih =>
    intro x rl hK hR hx hl hr
    obtain ⟨b1, b2, bs, -⟩ := rul_b (t := t) hx
    obtain ⟨c1, c2, -, cl⟩ := rul_b (t := t) b1
    obtain ⟨d1, d2, ds, -⟩ := rul_b (t := t) c2
    obtain ⟨-, e2, -, el⟩ := rul_b (t := t) d1
    rcases hR with ⟨hf, hR⟩ | ⟨hok, hn', hR⟩ | ⟨hok, hn', hw, hR⟩ | ⟨hok, hn', hw, h10, hR⟩ | ⟨hok, hn', hw, h10, h4, hR⟩ | ⟨hok, hn', hw, h10, h4, y, hy, hR⟩
    · rw [hR] at hr
      exact absurd hr hf
    · obtain ⟨l1, l2, l3⟩ := hl hok
      rw [hR]
      exact ⟨by show (x.2.length : Int) ≤ 600; omega, l2, l3⟩
    · rw [hR, pFl_y (show (pAt x.1 (pSp t n x.1.1)).2.1 = -1 from hok)] at hr
      have hr : pSp t n x.1.1 = -1 := hr
      omega
    · rw [hR, pFl_y (show (pAt x.1 (pSp t n x.1.1)).2.1 = -1 from hok)] at hr
      have hr : pSp t n x.1.1 = -1 := hr
      omega
    · rw [hR, pFl_y (show (pAt x.1 (pSp t n (pLe t n (pSp t n x.1.1)))).2.1 = -1 from hok)] at hr
      have hr : pSp t n (pLe t n (pSp t n x.1.1)) = -1 := hr
      omega
    · obtain ⟨l1, l2, l3⟩ := hl hok
      have my := GP_m hy e2
      have pe := pEx_p (t := t) (c := 59) my.1.1 my.1.2 (by decide)
      refine ih _ _ ?_ hR pe.1 (fun q => ?_) hr
      · rw [List.length_append]
        show K + (rl.length + 1) = 11
        omega
      · have q2 := pe.2 q
        have m2 := my.2 q2.1
        have m3 : (y.2.length : Int) - x.2.length ≤ y.1.1 - pLe t n (pSp t n (pLe t n (pSp t n x.1.1))) := m2.2.2
        obtain ⟨s, s1, s2, -⟩ := GP_wf hy e2 (by decide) q2.1
        have s1 : y.2 = x.2 ++ s := s1
        have wf := s2 (by decide) 0 (Int.le_refl 0) (by decide)
        have q3 := q2.2
        refine ⟨by show (y.2.length : Int) ≤ (pEx t n y.1 59).1; omega, ?_, ?_⟩
        · rw [List.length_append]
          show rl.length + 1 ≤ 10
          omega
        · show RWF _ y.2
          rw [s1]
          exact RWF_s l3 wf
set_option maxRecDepth 100000 in
theorem l_106_276 {Q : Rs → Mm → Prop} {F0 : FI} {L : Nat} {S : FS} {G : FJ} (hL : L ≤ 620) (h14 : F0 97 14 = L)
    (hk : ∀ F', (∀ a, a ≠ 97 → a ≠ 102 → a ≠ 103 → F' a = F0 a) → (∀ i, i ≠ 28 → F' 97 i = F0 97 i) → F' 97 28 = 0 → (∀ i : Nat, i < L → F' 102 i = F0 104 i ∧ F' 103 i = F0 105 i) → Q (.inl (some (.inl (F0 97 13)))) (mm S F' G)) :
    ∀ (K x : Nat) (F : FI), K + x = L → (∀ a, a ≠ 102 → a ≠ 103 → F a = F0 a) → (∀ i : Nat, i < x → F 102 i = F0 104 i ∧ F 103 i = F0 105 i) → wph 91 106 276 [.inr (.inr (.inl 97)), jk, jk, .inl (x : Int)] [] (mm S F G) (0, 0) Q := by
  intro K
  induction K with
  | zero =>
    intro x F hx hF hs
    refine sg_106_276 (cd_f (by rw [hF 97 (by decide) (by decide), h14]; omega) ?_)
    rw [hF 97 (by decide) (by decide)]
    refine hk _ (fun a a1 a2 a3 => by rw [u2_o a1]; exact hF a a2 a3) (fun i hi => by rw [u2_n hi, hF 97 (by decide) (by decide)]) u2_s (fun i hi => ?_)
    rw [u2_o (by decide), u2_o (by decide)]
    exact hs i (by omega)
  | succ K ih =>
    intro x F hx hF hs
    have tx : ((x : Int)).toNat = x := by omega
    refine sg_106_276 (cd_t (by rw [hF 97 (by decide) (by decide), h14]; omega) ?_)
    rw [wr_id (by omega) (by omega), show (x : Int) + 1 = ((x + 1 : Nat) : Int) by omega, tx]
    refine ck_i (jb_i (by omega) (by omega)) (ck_i (jb_i (by omega) (by omega)) (ck_i (jb_i (by omega) (by omega)) (ck_i (jb_i (by omega) (by omega)) (ih (x + 1) _ (by omega) (fun a a1 a2 => by rw [u2_o a2, u2_o a1]; exact hF a a1 a2) (fun i hi => ?_)))))
    rw [u2_o (by decide), u2_k, u2_k, hF 104 (by decide) (by decide), hF 105 (by decide) (by decide)]
    by_cases q : i = x
    · rw [if_pos q, if_pos q, q]
      exact ⟨rfl, rfl⟩
    · rw [if_neg q, if_neg q]
      exact hs i (by omega)
set_option maxRecDepth 100000 in
theorem l_106_235 {Q : Rs → Mm → Prop} {F0 : FI} {L : Nat} {S : FS} {G : FJ} (hL : L ≤ 10)
    (hk : ∀ F', (∀ a, a ≠ 106 → a ≠ 107 → F' a = F0 a) → (∀ i : Nat, i < L → F' 106 i = F0 108 i ∧ F' 107 (i + 1) = F0 109 (i + 1)) → wph 91 106 276 [.inr (.inr (.inl 97)), jk, jk, .inl 0] [] (mm S F' G) (0, 0) Q) :
    ∀ (K x : Nat) (F : FI), K + x = L → (∀ a, a ≠ 106 → a ≠ 107 → F a = F0 a) → (∀ i : Nat, i < x → F 106 i = F0 108 i ∧ F 107 (i + 1) = F0 109 (i + 1)) → wph 91 106 235 [.inr (.inr (.inl 97)), jk, .inl (L : Int), .inl (x : Int)] [] (mm S F G) (0, 0) Q := by
  intro K
  induction K with
  | zero =>
    intro x F hx hF hs
    exact sg_106_235 (cd_f (by omega) (hk F hF (fun i hi => hs i (by omega))))
  | succ K ih =>
    intro x F hx hF hs
    have tx : ((x : Int)).toNat = x := by omega
    refine sg_106_235 (cd_t (by omega) ?_)
    rw [wr_id (by omega) (by omega), show ((x : Int) + 1).toNat = x + 1 by omega, show (x : Int) + 1 = ((x + 1 : Nat) : Int) by omega, tx]
    refine ck_i (jb_i (by omega) (by omega)) (ck_i (jb_i (by omega) (by omega)) (ck_i (jb_i (by omega) (by omega)) (ck_i (jb_i (by omega) (by omega)) (ih (x + 1) _ (by omega) (fun a a1 a2 => by rw [u2_o a2, u2_o a1]; exact hF a a1 a2) (fun i hi => ?_)))))
    rw [u2_o (by decide), u2_k, u2_k, hF 108 (by decide) (by decide), hF 109 (by decide) (by decide)]
    by_cases q : i = x
    · rw [if_pos q, if_pos (by omega), q]
      exact ⟨rfl, rfl⟩
    · rw [if_neg q, if_neg (by omega)]
      exact hs i (by omega)
set_option maxRecDepth 100000 in
theorem q_106 {k : Int → FS → FI → FJ → Prop} {x1 : Int} {R : Px × List (Int × Int)} {S : FS} {F : FI} {G : FJ} (hT : TX F) (h2 : 0 ≤ F 97 2 ∧ F 97 2 ≤ 600) (hR : RUL (F 99) x1 11 ((0, -1, F 97 6), []) [] R) (noA : ¬ (0 ≤ x1 ∧ x1 ≤ F 97 2) → k 0 S (rfs (zF F) 1 2) G)
    (bad : 0 ≤ x1 ∧ x1 ≤ F 97 2 → R.1.1.2.1 ≠ -1 → ∀ F', (∀ a, a ≠ 97 → ¬ (104 ≤ a ∧ a ≤ 109) → F' a = F a) → (F' 106 = F 106 ∧ F' 107 = F 107) → (∀ i, i ≠ 0 → ¬ (2 ≤ i ∧ i ≤ 8) → i ≠ 14 → F' 97 i = F 97 i) → F' 97 0 = 0 → F' 97 2 = 0 → F' 97 8 = R.1.1.2.1 → k (wr (R.1.1.2.2 - 10)) S F' G)
    (good : 0 ≤ x1 ∧ x1 ≤ F 97 2 → R.1.1.2.1 = -1 → R.2.length ≤ 10 ∧ R.1.2.length ≤ 600 ∧ RWF R.2 R.1.2 → ∀ F', (∀ a, a ≠ 97 → ¬ (102 ≤ a ∧ a ≤ 109) → F' a = F a) → (∀ i, i ≠ 0 → ¬ (2 ≤ i ∧ i ≤ 8) → i ≠ 13 → i ≠ 14 → i ≠ 28 → F' 97 i = F 97 i) → F' 97 0 = 0 → F' 97 2 = 0 → F' 97 8 = -1 → F' 97 28 = 0 → LMt (mL F') R.2 R.1.2 → k (R.2.length : Int) S F' G) : calI 91 106 [.inr (.inr (.inl 97)), .inl x1] (mm S F G) k nof := by
  refine sg_106_0 ?_
  rw [show u2 F 97 0 0 = zF F from rfl]
  refine cn_i (fun z => c_69 z_0 (by decide) (by decide) (by decide) (fun q => absurd rfl q) (fun _ => cn_0 ⟨_, _, _, rfl, noA (by omega)⟩)) (fun z => cn_i (fun z2 => c_69 z_0 (by decide) (by decide) (by decide) (fun q => absurd rfl q) (fun _ => cn_0 ⟨_, _, _, rfl, noA (by omega)⟩)) (fun z2 => ?_))
  refine c_69 z_0 (by decide) (by decide) (by decide) (fun _ => cn_1 ?_) (fun q => absurd q (by decide))
  have hx : 0 ≤ x1 ∧ x1 ≤ F 97 2 := by omega
  have bad := bad hx
  have good := good hx
  refine c_84 hx.1 (by omega) (fun s0 n0 => ?_)
  have e6 : zF F 97 6 = F 97 6 := z_f (by decide)
  rw [e6] at s0 n0
  have q7 : pZ0 (zF F) x1 97 7 = 0 := by unfold pZ0; exact u2_s
  obtain ⟨F1, eF1⟩ : ∃ F1, F1 = pZ0 (zF F) x1 := ⟨_, rfl⟩
  rw [← eF1] at s0 n0 q7 ⊢
  have o1 : ∀ a, a ≠ 97 → F1 a = F a := fun a ha => by
    rw [eF1]
    unfold pZ0
    rw [u2_o ha, u2_o ha, u2_o ha, u2_o ha, u2_o ha, u2_o ha]
    exact z_n ha
  have f1 : ∀ i, i ≠ 0 → ¬ (2 ≤ i ∧ i ≤ 8 ∧ i ≠ 6) → F1 97 i = F 97 i := fun i i0 hi => by
    rw [eF1]
    unfold pZ0
    rw [u2_n (by omega), u2_n (by omega), u2_n (by omega), u2_n (by omega), u2_n (by omega), u2_n (by omega)]
    exact z_f i0
  have f0 : F1 97 0 = 0 := by
    rw [eF1]
    unfold pZ0
    rw [u2_n (by decide), u2_n (by decide), u2_n (by decide), u2_n (by decide), u2_n (by decide), u2_n (by decide)]
    exact z_0
  have f2 : F1 97 2 = 0 := by
    rw [eF1]
    unfold pZ0
    rw [u2_n (by decide), u2_n (by decide), u2_n (by decide), u2_n (by decide), u2_n (by decide), u2_s]
  obtain ⟨FB, eFB⟩ : ∃ FB, FB = u2 F1 97 14 0 := ⟨_, rfl⟩
  have bo : ∀ a, a ≠ 97 → FB a = F a := fun a ha => by rw [eFB, u2_o ha]; exact o1 a ha
  have bi : ∀ i, i ≠ 14 → FB 97 i = F1 97 i := fun i hi => by rw [eFB, u2_n hi]
  have hm : MT FB (F 99) x1 := ⟨bo 99 (by decide), (bi 3 (by decide)).trans n0.1, ⟨hx.1, by omega⟩, fun t i a b => by rw [bo _ (by omega)]; exact hT t i a b⟩
  have mp : MP FB FB ((0, -1, F 97 6), []) 0 := by
    refine ⟨fun _ _ _ _ => rfl, fun _ _ _ _ _ _ => rfl, ⟨?_, ?_, ?_⟩, ?_, ?_, fun i hi => absurd hi (by show ¬ i < 0; omega)⟩
    · rw [bi 4 (by decide)]; exact s0.2.2.1
    · rw [bi 5 (by decide)]; exact s0.2.2.2.1
    · rw [bi 6 (by decide)]; exact s0.2.2.2.2
    · rw [bi 7 (by decide)]; exact q7
    · rw [eFB, u2_s]; rfl
  have wf := RUL_wf (t := F 99) (n := x1) (R := R) (by omega) 11 ((0, -1, F 97 6), []) [] rfl hR ⟨Int.le_refl 0, hx.1⟩ (fun _ => ⟨Int.le_refl 0, by decide, ⟨fun i hi => absurd hi (by show ¬ i < 0; omega), rfl⟩⟩)
  rw [← eFB]
  refine l_106_45 (FB := FB) (t := F 99) (n := x1) (R := R) (fun b F0 F' b6 h => ⟨_, _, _, rfl, ?_⟩) (fun b F0 F' b6 hr h => ?_) 11 ((0, -1, F 97 6), []) [] FB FB rfl hR ⟨Int.le_refl 0, hx.1⟩ (fun _ => ⟨Int.le_refl 0, by decide⟩) hm ⟨fun _ _ _ _ _ _ => rfl, fun _ _ _ _ _ _ => rfl⟩ (fun i hi => absurd hi (by show ¬ i < 0; omega)) mp
  · obtain ⟨w1, w2, w3⟩ := wf b
    obtain ⟨F2, eF2⟩ : ∃ F2, F2 = u2 (u2 F' 97 8 (-1)) 97 13 (R.2.length : Int) := ⟨_, rfl⟩
    rw [← eF2]
    have g2 : ∀ a, a ≠ 97 → F2 a = F' a := fun a ha => by rw [eF2, u2_o ha, u2_o ha]
    have g2i : ∀ i, i ≠ 8 → i ≠ 13 → F2 97 i = F' 97 i := fun i h1 h2 => by rw [eF2, u2_n h2, u2_n h1]
    refine l_106_235 (F0 := F2) (L := R.2.length) w2 (fun F3 h3 h3r => ?_) R.2.length 0 F2 rfl (fun _ _ _ => rfl) (fun i hi => by omega)
    refine l_106_276 (F0 := F3) (L := R.1.2.length) (by omega) (by rw [h3 97 (by decide) (by decide), g2i 14 (by decide) (by decide)]; exact h.2.2.2.2.1) (fun F4 h4 h4i h4z h4s => ⟨_, _, _, rfl, ?_⟩) R.1.2.length 0 F3 rfl (fun _ _ _ => rfl) (fun i hi => by omega)
    have e13 : F3 97 13 = (R.2.length : Int) := by rw [h3 97 (by decide) (by decide), eF2, u2_s]
    show k (F3 97 13) S F4 G
    rw [e13]
    have i4 : ∀ i, i ≠ 28 → F4 97 i = F2 97 i := fun i hi => by rw [h4i i hi, h3 97 (by decide) (by decide)]
    have inn : ∀ i, i ≠ 28 → i ≠ 8 → i ≠ 13 → i ≠ 4 → i ≠ 5 → i ≠ 6 → i ≠ 7 → i ≠ 14 → F4 97 i = F1 97 i := fun i a1 a2 a3 a4 a5 a6 a7 a8 => by
      rw [i4 i a1, g2i i a2 a3, h.2.1 i a4 a5 a6 a7 a8, b6.2 i a4 a5 a6 a7 a8, bi i a8]
    refine good b ⟨w2, by omega, w3⟩ F4 (fun a a1 a2 => ?_) (fun i i0 hi i13 i14 i28 => ?_) ?_ ?_ ?_ h4z ⟨?_, fun i hi => ⟨?_, ?_⟩, fun i hi => ⟨?_, ?_⟩⟩
    · rw [h4 a a1 (by omega) (by omega), h3 a (by omega) (by omega), g2 a a1, h.1 a a1 (by omega) (by omega), b6.1 a a1 (by omega) (by omega) (by omega) (by omega)]; exact bo a a1
    · rw [inn i i28 (by omega) i13 (by omega) (by omega) (by omega) (by omega) i14]
      exact f1 i i0 (by omega)
    · rw [inn 0 (by decide) (by decide) (by decide) (by decide) (by decide) (by decide) (by decide) (by decide)]; exact f0
    · rw [inn 2 (by decide) (by decide) (by decide) (by decide) (by decide) (by decide) (by decide) (by decide)]; exact f2
    · rw [i4 8 (by decide), eF2, u2_n (by decide), u2_s]
    · show F4 97 13 = _
      rw [i4 13 (by decide), eF2, u2_s]
    · show F4 106 ((i : Int)).toNat = _
      rw [show ((i : Int)).toNat = i by omega, h4 106 (by decide) (by decide) (by decide), (h3r i hi).1, g2 108 (by decide), h.1 108 (by decide) (by decide) (by decide)]
      exact (hr i hi).1
    · show F4 107 ((i : Int) + 1).toNat = _
      rw [show ((i : Int) + 1).toNat = i + 1 by omega, h4 107 (by decide) (by decide) (by decide), (h3r i hi).2, g2 109 (by decide), h.1 109 (by decide) (by decide) (by decide)]
      exact (hr i hi).2
    · show F4 102 ((i : Int)).toNat = _
      rw [show ((i : Int)).toNat = i by omega, (h4s i hi).1, h3 104 (by decide) (by decide), g2 104 (by decide)]
      exact (h.2.2.2.2.2 i hi).1
    · show F4 103 ((i : Int)).toNat = _
      rw [show ((i : Int)).toNat = i by omega, (h4s i hi).2, h3 105 (by decide) (by decide), g2 105 (by decide)]
      exact (h.2.2.2.2.2 i hi).2
  · refine bad b _ (fun a a1 a2 => ?_) ⟨?_, ?_⟩ (fun i i0 hi i14 => ?_) ?_ ?_ u2_s
    · rw [u2_o a1, h.1 a a1 (by omega) (by omega), b6.1 a a1 (by omega) (by omega) (by omega) (by omega)]; exact bo a a1
    · rw [u2_o (by decide), h.1 106 (by decide) (by decide) (by decide), b6.1 106 (by decide) (by decide) (by decide) (by decide) (by decide)]; exact bo 106 (by decide)
    · rw [u2_o (by decide), h.1 107 (by decide) (by decide) (by decide), b6.1 107 (by decide) (by decide) (by decide) (by decide) (by decide)]; exact bo 107 (by decide)
    · rw [u2_n (by omega), h.2.1 i (by omega) (by omega) (by omega) (by omega) i14, b6.2 i (by omega) (by omega) (by omega) (by omega) i14, bi i i14]
      exact f1 i i0 (by omega)
    · rw [u2_n (by decide), h.2.1 0 (by decide) (by decide) (by decide) (by decide) (by decide), b6.2 0 (by decide) (by decide) (by decide) (by decide) (by decide), bi 0 (by decide)]; exact f0
    · rw [u2_n (by decide), h.2.1 2 (by decide) (by decide) (by decide) (by decide) (by decide), b6.2 2 (by decide) (by decide) (by decide) (by decide) (by decide), bi 2 (by decide)]; exact f2
