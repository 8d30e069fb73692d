/-! ===== which moves are lawful ===== -/
theorem sRun_c {ops vs nm nm' : Int → Int} (hn : ∀ j, 0 ≤ j → j ≤ 7 → nm j = nm' j) : ∀ (n : Nat) (f d : Int) (q : Int × (Int → Int)), wfS ops vs n f d → sRun ops vs nm n f q = sRun ops vs nm' n f q := by
  intro n
  induction n with
  | zero => intro f d q _; rfl
  | succ n ih =>
    intro f d q h
    show sRun ops vs nm n (f + 1) (sStp (ops f) (vs f) nm q) = sRun ops vs nm' n (f + 1) (sStp (ops f) (vs f) nm' q)
    have e : sStp (ops f) (vs f) nm q = sStp (ops f) (vs f) nm' q := by
      unfold sStp
      by_cases o : ops f = 1
      · have h' : (0 ≤ ops f ∧ ops f ≤ 1 ∧ 0 ≤ d ∧ d < 64 ∧ 0 ≤ vs f ∧ (ops f = 1 → vs f ≤ 7) ∧ wfS ops vs n (f + 1) (d + 1)) ∨ (ops f = 9 ∧ 1 ≤ d ∧ wfS ops vs n (f + 1) d) ∨ (2 ≤ ops f ∧ ops f ≤ 11 ∧ ops f ≠ 9 ∧ 2 ≤ d ∧ wfS ops vs n (f + 1) (d - 1)) := h
        rcases h' with w | w | w
        · rw [hn (vs f) w.2.2.2.2.1 (w.2.2.2.2.2.1 o)]
        · omega
        · omega
      · simp only [if_neg o]
    rw [e]
    rcases (show (0 ≤ ops f ∧ ops f ≤ 1 ∧ 0 ≤ d ∧ d < 64 ∧ 0 ≤ vs f ∧ (ops f = 1 → vs f ≤ 7) ∧ wfS ops vs n (f + 1) (d + 1)) ∨ (ops f = 9 ∧ 1 ≤ d ∧ wfS ops vs n (f + 1) d) ∨ (2 ≤ ops f ∧ ops f ≤ 11 ∧ ops f ≠ 9 ∧ 2 ≤ d ∧ wfS ops vs n (f + 1) (d - 1)) from h) with w | w | w
    · exact ih _ _ _ w.2.2.2.2.2.2
    · exact ih _ _ _ w.2.2
    · exact ih _ _ _ w.2.2.2.2
/-- a law: how many rules, which ask of going, where they end, steps, their numbers -/
abbrev La : Type := Int × (Int → Int) × (Int → Int) × (Int → Int) × (Int → Int)
def mL (F : FI) : La := (F 97 13, c_I F 106, c_I F 107, c_I F 102, c_I F 103)
def frm (w : La) (k : Int) : Int := if k = 0 then 0 else w.2.2.1 k
def LW (w : La) : Prop := (0 ≤ w.1 ∧ w.1 ≤ 10) ∧ ∀ k, 0 ≤ k → k < w.1 → 0 ≤ frm w k ∧ frm w k ≤ w.2.2.1 (k + 1) ∧ w.2.2.1 (k + 1) ≤ 600 ∧ wfS w.2.2.2.1 w.2.2.2.2 (w.2.2.1 (k + 1) - frm w k).toNat (frm w k) 0
def sHoP (w : La) (nm : Int → Int) (go sk : Int) : Prop := ∀ k, 0 ≤ k → k < w.1 → k ≠ sk → w.2.1 k = go → sRes w.2.2.2.1 w.2.2.2.2 nm (frm w k) (w.2.2.1 (k + 1)) ≠ 0
noncomputable def sHo (w : La) (nm : Int → Int) (go sk : Int) : Int := @ite _ (sHoP w nm go sk) (Classical.propDecidable _) 1 0
theorem sHo_01 (w : La) (nm : Int → Int) (go sk : Int) : sHo w nm go sk = 0 ∨ sHo w nm go sk = 1 := by
  unfold sHo
  split
  · exact Or.inr rfl
  · exact Or.inl rfl
theorem sHo_c {w : La} {nm nm' : Int → Int} {go sk : Int} (hw : LW w) (hn : ∀ j, 0 ≤ j → j ≤ 7 → nm j = nm' j) : sHo w nm go sk = sHo w nm' go sk := by
  have e : sHoP w nm go sk ↔ sHoP w nm' go sk := by
    unfold sHoP sRes
    constructor
    · intro h k a b c d
      rw [← sRun_c hn _ _ 0 _ (hw.2 k a b).2.2.2]
      exact h k a b c d
    · intro h k a b c d
      rw [sRun_c hn _ _ 0 _ (hw.2 k a b).2.2.2]
      exact h k a b c d
  unfold sHo
  by_cases c : sHoP w nm go sk
  · rw [if_pos c, if_pos (e.mp c)]
  · rw [if_neg c, if_neg (fun q => c (e.mpr q))]
theorem l_127 {Q : Rs → Mm → Prop} {x1 x2 : Int} {S : FS} {F F0 : FI} {G : FJ} (hw : LW (mL F0)) (h2 : 0 ≤ x2) (h2' : x2 ≤ F0 97 13) (hF : ∀ a, a ≠ 110 → F a = F0 a)
    (hn : ∀ k, 0 ≤ k → k < x2 → k ≠ F0 97 32 → F0 106 k.toNat = x1 → sRes (c_I F0 102) (c_I F0 103) (c_I F0 111) (frm (mL F0) k) (F0 107 (k + 1).toNat) ≠ 0)
    (hk : ∀ F', (∀ a, a ≠ 110 → F' a = F0 a) → Q (.inl (some (.inl (sHo (mL F0) (c_I F0 111) x1 (F0 97 32))))) (mm S F' G)) : wph 1 127 2 [.inr (.inr (.inl 97)), .inl x1, .inl x2] [] (mm S F G) (0, 0) Q := by
  obtain ⟨⟨hw1, hw2⟩, hw3⟩ := id hw
  have hw1 : 0 ≤ F0 97 13 := hw1
  have hw2 : F0 97 13 ≤ 10 := hw2
  have e97 := hF 97 (by decide)
  have e106 := hF 106 (by decide)
  have e107 := hF 107 (by decide)
  refine sg_127_2 ?_
  rw [e97, e106, e107]
  refine cn_i (fun h => ?_) (fun h => ?_)
  · have nxt : ∀ F', (∀ a, a ≠ 110 → F' a = F0 a) → (x2 ≠ F0 97 32 → F0 106 x2.toNat = x1 → sRes (c_I F0 102) (c_I F0 103) (c_I F0 111) (frm (mL F0) x2) (F0 107 (x2 + 1).toNat) ≠ 0) → wph 1 127 2 [.inr (.inr (.inl 97)), .inl x1, .inl (x2 + 1)] [] (mm S F' G) (0, 0) Q := by
      intro F' hF' hx
      refine l_127 hw (by omega) (by omega) hF' (fun k a b c d => ?_) hk
      by_cases e : k = x2
      · rw [e] at c d ⊢
        exact hx c d
      · exact hn k a (by omega) c d
    have bad : ∀ F' v, (∀ a, a ≠ 110 → F' a = F0 a) → v = sRes (c_I F0 102) (c_I F0 103) (c_I F0 111) (frm (mL F0) x2) (F0 107 (x2 + 1).toNat) → x2 ≠ F0 97 32 → F0 106 x2.toNat = x1 → cnd (decide (v = 0)) (Q (.inl (some (.inl 0))) (mm S F' G)) (wph 1 127 2 [.inr (.inr (.inl 97)), .inl x1, .inl (x2 + 1)] [] (mm S F' G) (0, 0) Q) := by
      intro F' v hF' ev hx hg
      refine cn_i (fun z => ?_) (fun z => ?_)
      · have := hk F' hF'
        have e : sHo (mL F0) (c_I F0 111) x1 (F0 97 32) = 0 := if_neg (fun q => q x2 h2 h hx hg (ev.symm.trans z))
        rw [e] at this
        exact this
      · exact nxt F' hF' (fun _ _ => by rw [← ev]; exact z)
    try simp (disch := omega) only [wr_id]
    refine cn_i (fun g => ?_) (fun g => ?_)
    · exact nxt F hF (fun q => absurd g q)
    · refine ck_i (by (first | exact jb_i (by (first | assumption | omega | (simp (disch := omega) only [wr_id]; omega))) (by (first | assumption | omega | (simp (disch := omega) only [wr_id]; omega))) | exact jo_i (by omega) | exact jz_i (by omega) | rfl | (simp only [*]; first | rfl | exact jb_i (by (first | assumption | omega | (simp (disch := omega) only [wr_id]; omega))) (by (first | assumption | omega | (simp (disch := omega) only [wr_id]; omega)))))) (cn_i (fun o => ?_) (fun o => ?_))
      · have hs := hw3 x2 h2 h
        have hs1 : 0 ≤ frm (mL F0) x2 ∧ frm (mL F0) x2 ≤ F0 107 (x2 + 1).toNat ∧ F0 107 (x2 + 1).toNat ≤ 600 ∧ wfS (c_I F0 102) (c_I F0 103) (F0 107 (x2 + 1).toNat - frm (mL F0) x2).toNat (frm (mL F0) x2) 0 := hs
        have call : ∀ a, a = frm (mL F0) x2 → calI 0 107 [.inr (.inr (.inl 97)), .inl a, .inl (F0 107 (x2 + 1).toNat)] (mm S F G) (fun v2 S2 F2 G2 => cnd (decide (v2 = 0)) (Q (.inl (some (.inl 0))) (mm S2 F2 G2)) (wph 1 127 2 [.inr (.inr (.inl 97)), .inl x1, .inl (x2 + 1)] [] (mm S2 F2 G2) (0, 0) Q)) nof := by
          intro a ea
          rw [ea]
          refine c_107 hs1.1 hs1.2.1 (by omega) (by unfold c_I; rw [hF 102 (by decide), hF 103 (by decide)]; exact hs1.2.2.2) (fun v F' ev hF' => ?_)
          have ev' : v = sRes (c_I F0 102) (c_I F0 103) (c_I F0 111) (frm (mL F0) x2) (F0 107 (x2 + 1).toNat) := by
            rw [ev]
            unfold c_I
            rw [hF 102 (by decide), hF 103 (by decide), hF 111 (by decide)]
          exact bad F' v (fun a ha => (hF' a ha).trans (hF a ha)) ev' g o
        refine cn_i (fun z => ?_) (fun z => ?_)
        · exact ck_i (by (first | exact jb_i (by (first | assumption | omega | (simp (disch := omega) only [wr_id]; omega))) (by (first | assumption | omega | (simp (disch := omega) only [wr_id]; omega))) | exact jo_i (by omega) | exact jz_i (by omega) | rfl | (simp only [*]; first | rfl | exact jb_i (by (first | assumption | omega | (simp (disch := omega) only [wr_id]; omega))) (by (first | assumption | omega | (simp (disch := omega) only [wr_id]; omega)))))) (call 0 (by unfold frm; rw [if_pos z]))
        · exact ck_i (by (first | exact jb_i (by (first | assumption | omega | (simp (disch := omega) only [wr_id]; omega))) (by (first | assumption | omega | (simp (disch := omega) only [wr_id]; omega))) | exact jo_i (by omega) | exact jz_i (by omega) | rfl | (simp only [*]; first | rfl | exact jb_i (by (first | assumption | omega | (simp (disch := omega) only [wr_id]; omega))) (by (first | assumption | omega | (simp (disch := omega) only [wr_id]; omega)))))) (ck_i (by (first | exact jb_i (by (first | assumption | omega | (simp (disch := omega) only [wr_id]; omega))) (by (first | assumption | omega | (simp (disch := omega) only [wr_id]; omega))) | exact jo_i (by omega) | exact jz_i (by omega) | rfl | (simp only [*]; first | rfl | exact jb_i (by (first | assumption | omega | (simp (disch := omega) only [wr_id]; omega))) (by (first | assumption | omega | (simp (disch := omega) only [wr_id]; omega)))))) (call _ (by unfold frm; rw [if_neg z]; rfl)))
      · exact nxt F hF (fun _ q => absurd q o)
  · have := hk F hF
    have e : sHo (mL F0) (c_I F0 111) x1 (F0 97 32) = 1 := if_pos (fun k a b c d => hn k a (Int.lt_of_lt_of_le b (by show F0 97 13 ≤ x2; omega)) c d)
    rw [e] at this
    exact this
termination_by (F0 97 13 - x2).toNat
decreasing_by omega
theorem c_127 {k : Int → FS → FI → FJ → Prop} {x1 : Int} {S : FS} {F : FI} {G : FJ} (hw : LW (mL F)) (hk : ∀ v F', v = sHo (mL F) (c_I F 111) x1 (F 97 32) → (∀ a, a ≠ 110 → F' a = F a) → k v S F' G) :
    calI 1 127 [.inr (.inr (.inl 97)), .inl x1] (mm S F G) k nof := by
  refine sg_127_0 ?_
  exact l_127 hw (by omega) hw.1.1 (fun _ _ => rfl) (fun k a b => by omega) (fun F' hF => ⟨_, _, _, rfl, hk _ _ rfl hF⟩)
/-- the facts that a law may name -/
def sNm (l : Nat → Int) (k h p n to sn j : Int) : Int := if j = 0 then h else if j = 1 then l 3 - h else if j = 2 then n else if j = 3 then (if l (7 + p).toNat = 1 then 1 else 0) else if j = 4 then k else if j = 5 then p else if j = 6 then to else sn
/-- whether a move is granted -/
def sLf (l : Nat → Int) (w : La) (sk k h p n m : Int) : Prop := if m = 0 then sHo w (sNm l k h p n p 0) 0 sk = 1 else sAt l (m - 1) p = 1 ∧ sHo w (sNm l k h p n (sOth l (m - 1) p) (sSn l (m - 1) h)) 1 sk = 1
/-- the number whose bits are told -/
noncomputable def sMk (f : Int → Prop) : Nat → Int
  | 0 => 0
  | m + 1 => sMk f m + @ite _ (f m) (Classical.propDecidable _) (2 ^ m) 0
noncomputable def sRaw (l : Nat → Int) (w : La) (sk k h p n : Int) : Int := sMk (sLf l w sk k h p n) (l 1 + 1).toNat
noncomputable def sMask (l : Nat → Int) (w : La) (sk k h p n : Int) : Int := if sRaw l w sk k h p n = 0 then 1 else sRaw l w sk k h p n
theorem sMk_b (f : Int → Prop) : ∀ n : Nat, 0 ≤ sMk f n ∧ sMk f n < 2 ^ n := by
  intro n
  induction n with
  | zero => exact ⟨by simp [sMk], by simp [sMk]⟩
  | succ m ih =>
    have e : (2 : Int) ^ (m + 1) = 2 ^ m + 2 ^ m := by rw [Int.pow_succ]; omega
    have p : (0 : Int) < 2 ^ m := Int.pow_pos (by decide)
    unfold sMk
    split <;> omega
theorem sMk_bit (f : Int → Prop) : ∀ (n m : Nat), m < n → (bit (sMk f n) m ↔ f m) := by
  intro n
  induction n with
  | zero => intro m h; omega
  | succ j ih =>
    intro m h
    obtain ⟨b1, b2⟩ := sMk_b f j
    unfold bit
    rw [show ((m : Int)).toNat = m by omega]
    show (sMk f j + _) / 2 ^ m % 2 = 1 ↔ f m
    have pm : (0 : Int) < 2 ^ m := Int.pow_pos (by decide)
    by_cases c : m = j
    · rw [c] at pm ⊢
      have q0 : sMk f j / 2 ^ j = 0 := Int.ediv_eq_zero_of_lt b1 b2
      by_cases d : f j
      · rw [if_pos d]
        have : (sMk f j + 2 ^ j) / 2 ^ j = 1 := by
          rw [Int.add_ediv_of_dvd_right (Int.dvd_refl _), q0, Int.ediv_self (by omega)]
          rfl
        rw [this]
        exact ⟨fun _ => d, fun _ => rfl⟩
      · rw [if_neg d, Int.add_zero, q0]
        exact ⟨fun q => absurd q (by decide), fun q => absurd q d⟩
    · have hm : m < j := by omega
      have r := ih m hm
      unfold bit at r
      rw [show ((m : Int)).toNat = m by omega] at r
      by_cases d : f j
      · rw [if_pos d]
        have e : (2 : Int) ^ j = 2 ^ m * (2 * 2 ^ (j - m - 1)) := by
          rw [← Int.mul_assoc, ← Int.pow_succ, ← Int.pow_add]
          congr 1
          omega
        rw [e, Int.add_mul_ediv_left _ _ (by omega), Int.add_mul_emod_self_left]
        exact r
      · rw [if_neg d, Int.add_zero]
        exact r
