/-! ===== the class's law: a rule granted, a move permitted ===== -/
theorem cd_t {c : Prop} {dc : Decidable c} {A B : Prop} (h : c) (k : A) : cnd (@decide c dc) A B := by
  rw [decide_eq_true h]
  exact k
theorem cd_f {c : Prop} {dc : Decidable c} {A B : Prop} (h : ¬ c) (k : B) : cnd (@decide c dc) A B := by
  rw [decide_eq_false h]
  exact k
/-- a step as the class writes it -/
def eN (op v : Int) : Int := if op = 0 then v else if op = 1 then -1 - v else if op = 9 then -20 else if op = 11 then -21 else if op = 10 then -22 else if op = 6 then -23 else if op = 7 then -24 else if op = 8 then -25 else if op = 2 then -26 else if op = 3 then -27 else if op = 4 then -28 else -29
theorem eN_b {op v : Int} (h1 : 2 ≤ op) (h2 : op ≠ 9) : eN op v ≤ -21 := by
  unfold eN
  rw [if_neg (by omega), if_neg (by omega), if_neg h2]
  split
  · omega
  split
  · omega
  split
  · omega
  split
  · omega
  split
  · omega
  split
  · omega
  split
  · omega
  split <;> omega
theorem l_229 {Q : Rs → Mm → Prop} {b : Nat} {x1 x2 x3 T R : Int} {ops vs nm : Int → Int} {q : Int × (Int → Int)} {S : FS} {F F0 : FI} {G : FJ} (hb : oW b) (h1 : 0 ≤ x1) (h1' : x1 ≤ 9) (hT : F0 (b + 2) (x1 + 1).toNat = T) (hT2 : T ≤ 600) (h3 : 0 ≤ x3) (h3' : x3 ≤ T) (hF : ∀ a, a ≠ b + 5 → F a = F0 a)
    (hs : ∀ i, x3 ≤ i → i < T → F0 (b + 3) i.toNat = eN (ops i) (vs i)) (hnm : ∀ j, 0 ≤ j → j ≤ 7 → F0 (b + 4) j.toNat = nm j) (hd : 0 ≤ x2) (hd2 : x2 ≤ 64) (hq : q.1 = x2) (hst : ∀ i, 0 ≤ i → i < x2 → F (b + 5) i.toNat = q.2 i) (hw : wfS ops vs (T - x3).toNat x3 x2) (hR : (sRun ops vs nm (T - x3).toNat x3 q).2 0 = R)
    (hk : ∀ F', (∀ a, a ≠ b + 5 → F' a = F0 a) → Q (.inl (some (.inl (if R = 0 then 0 else 1)))) (mm S F' G)) : wph 0 229 9 [.inr (.inr (.inl b)), .inl x1, .inl x2, .inl x3] [] (mm S F G) (0, 0) Q := by
  have e2 := hF (b + 2) (by omega)
  have e3 := hF (b + 3) (by omega)
  have e4 := hF (b + 4) (by omega)
  refine sg_229_9 ?_
  simp only [wk hb, wk1 hb, wk2 hb, wk3 hb, wk4 hb, wk5 hb, wr0 hb, wr1 hb, wr2 hb, wr3 hb, wr4 hb, e2, e3, e4]
  rw [wr_id (a := x1 + 1) (by omega) (by omega), hT]
  refine ck_i rfl (ck_i rfl (ck_i (jb_i (by omega) (by omega)) ?_))
  refine cn_i (fun h => ?_) (fun h => ?_)
  · obtain ⟨n, hn⟩ : ∃ n : Nat, (T - x3).toNat = n + 1 := ⟨(T - x3).toNat - 1, by omega⟩
    have hn' : (T - (x3 + 1)).toNat = n := by omega
    have hop := hs x3 (by omega) h
    rw [hn] at hw hR
    have hR' : (sRun ops vs nm n (x3 + 1) (sStp (ops x3) (vs x3) nm q)).2 0 = R := hR
    have hw' : (0 ≤ ops x3 ∧ ops x3 ≤ 1 ∧ 0 ≤ x2 ∧ x2 < 64 ∧ 0 ≤ vs x3 ∧ (ops x3 = 1 → vs x3 ≤ 7) ∧ wfS ops vs n (x3 + 1) (x2 + 1)) ∨ (ops x3 = 9 ∧ 1 ≤ x2 ∧ wfS ops vs n (x3 + 1) x2) ∨ (2 ≤ ops x3 ∧ ops x3 ≤ 11 ∧ ops x3 ≠ 9 ∧ 2 ≤ x2 ∧ wfS ops vs n (x3 + 1) (x2 - 1)) := hw
    clear hw hR
    have rcc : ∀ n' j v : Int, sStp (ops x3) (vs x3) nm q = (n', fun i => if i = j then v else q.2 i) → 0 ≤ j → 0 ≤ n' → n' ≤ 64 → (∀ i, 0 ≤ i → i < n' → i ≠ j → i < x2) → wfS ops vs n (x3 + 1) n' →
        wph 0 229 9 [.inr (.inr (.inl b)), .inl x1, .inl n', .inl (x3 + 1)] [] (mm S (u2 F (b + 5) j.toNat v) G) (0, 0) Q := by
      intro n' j v hs1 hj hn0 hn1 hi hw1
      rw [hs1] at hR'
      refine l_229 (q := (n', fun i => if i = j then v else q.2 i)) hb h1 h1' hT hT2 (by omega) (by omega) (off_uI hF) (fun i a c => hs i (by omega) c) hnm hn0 hn1 rfl (fun i a c => ?_) (by rw [hn']; exact hw1) (by rw [hn']; exact hR') hk
      rw [u2_k]
      show _ = if i = j then v else q.2 i
      by_cases c : i = j
      · rw [if_pos (by rw [c]), if_pos c]
      · rw [if_neg (by omega), if_neg c]
        exact hst i a (hi i a (by assumption) c)
    try simp (disch := omega) only [wr_id]
    have z1 : x2 + -1 - 1 = x2 - 2 := by omega
    have z2 : x2 + -1 = x2 - 1 := by omega
    refine ck_i rfl (ck_i rfl (ck_i (jb_i (by omega) (by omega)) ?_))
    rw [hop]
    rcases hw' with w | w | w
    · obtain ⟨w1, w2, w3, w4, w5, w6, w7⟩ := w
      have o : ops x3 = 0 ∨ ops x3 = 1 := by omega
      rcases o with o | o
      · have en : eN (ops x3) (vs x3) = vs x3 := by unfold eN; rw [if_pos o]
        rw [en]
        refine cd_t (by omega) (cd_t (by omega) (ck_i rfl (cd_f (by omega) (ck_i rfl (ck_i (jb_i (by omega) (by omega)) ?_)))))
        refine rcc (x2 + 1) x2 _ ?_ (by omega) (by omega) (by omega) (fun i a c d => by omega) w7
        unfold sStp
        rw [if_pos o, hq]
      · have w6' := w6 o
        have en : eN (ops x3) (vs x3) = -1 - vs x3 := by unfold eN; rw [if_neg (by omega), if_pos o]
        rw [en, wr_id (a := -1 - (-1 - vs x3)) (by omega) (by omega), show -1 - (-1 - vs x3) = vs x3 by omega, hnm (vs x3) w5 w6']
        refine cd_t (by omega) (cd_t (by omega) (ck_i rfl (cd_t (by omega) (ck_i rfl (ck_i rfl (ck_i (jb_i (by omega) (by omega)) (ck_i rfl (ck_i (jb_i (by omega) (by omega)) ?_))))))))
        refine rcc (x2 + 1) x2 _ ?_ (by omega) (by omega) (by omega) (fun i a c d => by omega) w7
        unfold sStp
        rw [if_neg (by omega), if_pos o, hq]
    · obtain ⟨o, w2, w3⟩ := w
      have en : eN (ops x3) (vs x3) = -20 := by unfold eN; rw [if_neg (by omega), if_neg (by omega), if_pos o]
      rw [en]
      refine cd_f (by omega) (cd_t rfl (cd_f (by omega) (cd_t rfl (ck_i rfl (ck_i rfl (ck_i rfl (ck_i (jb_i (by omega) (by omega)) (ck_i rfl (ck_i (jb_i (by omega) (by omega)) ?_)))))))))
      rw [hst (x2 - 1) (by omega) (by omega)]
      refine rcc x2 (x2 - 1) _ ?_ (by omega) (by omega) (by omega) (fun i a c d => c) w3
      unfold sStp
      rw [if_neg (by omega), if_neg (by omega), if_pos o, hq]
    · obtain ⟨w1, w2, w3, w4, w5⟩ := w
      have f1 := hst (x2 - 2) (by omega) (by omega)
      have f2 := hst (x2 - 1) (by omega) (by omega)
      have recB : ∀ v, v = sBin (ops x3) (q.2 (x2 - 2)) (q.2 (x2 - 1)) → wph 0 229 9 [.inr (.inr (.inl b)), .inl x1, .inl (x2 - 1), .inl (x3 + 1)] [] (mm S (u2 F (b + 5) (x2 - 2).toNat v) G) (0, 0) Q := by
        intro v e
        refine rcc (x2 - 1) (x2 - 2) v ?_ (by omega) (by omega) (by omega) (fun i a c d => by omega) w5
        unfold sStp
        rw [if_neg (by omega), if_neg (by omega), if_neg w3, hq, e]
      have z3 : x2 - 1 - 1 = x2 - 2 := by omega
      simp only [z1, z2, z3, f1, f2]
      have hle := eN_b (v := vs x3) w1 w3
      refine cd_f (by omega) (cd_f (by omega) (cd_f (by omega) (cd_f (by omega) (ck_i rfl (ck_i rfl (ck_i (jb_i (by omega) (by omega)) (ck_i rfl (ck_i rfl (ck_i (jb_i (by omega) (by omega)) ?_)))))))))
      have o : ops x3 = 2 ∨ ops x3 = 3 ∨ ops x3 = 4 ∨ ops x3 = 5 ∨ ops x3 = 6 ∨ ops x3 = 7 ∨ ops x3 = 8 ∨ ops x3 = 10 ∨ ops x3 = 11 := by omega
      clear hle hop
      rcases o with o | o | o | o | o | o | o | o | o
      · rw [show eN (ops x3) (vs x3) = -26 by rw [o]; rfl]
        refine cd_f (by decide) (cd_f (by decide) (cd_t rfl (?_)))
        exact ck_i rfl (ck_i rfl (ck_i (jb_i (by omega) (by omega)) (recB _ (by rw [o]; rfl))))
      · rw [show eN (ops x3) (vs x3) = -27 by rw [o]; rfl]
        refine cd_f (by decide) (cd_t rfl (?_))
        exact ck_i rfl (ck_i rfl (ck_i (jb_i (by omega) (by omega)) (recB _ (by rw [o]; rfl))))
      · rw [show eN (ops x3) (vs x3) = -28 by rw [o]; rfl]
        refine cd_t rfl (?_)
        exact ck_i rfl (ck_i rfl (ck_i (jb_i (by omega) (by omega)) (recB _ (by rw [o]; rfl))))
      · rw [show eN (ops x3) (vs x3) = -29 by rw [o]; rfl]
        refine cd_f (by decide) (cd_f (by decide) (cd_f (by decide) (cd_f (by decide) (cd_f (by decide) (cd_f (by decide) (cd_f (by decide) (cd_f (by decide) (?_))))))))
        refine ck_i rfl (cn_i (fun y0 => ?_) (fun y0 => ?_))
        · exact ck_i rfl (ck_i (jb_i (by omega) (by omega)) (recB _ (by rw [o, y0]; rfl)))
        · refine ck_i (jz_i y0) (ck_i rfl (ck_i (jb_i (by omega) (by omega)) (recB _ ?_)))
          rw [o]
          show _ = if q.2 (x2 - 1) = 0 then _ else if q.2 (x2 - 1) = -1 then _ else _
          rw [if_neg y0]
          by_cases y1 : q.2 (x2 - 1) = -1
          · rw [if_pos y1, y1, Int.tdiv_neg, Int.tdiv_one]
          · rw [if_neg y1]
      · rw [show eN (ops x3) (vs x3) = -23 by rw [o]; rfl]
        refine cd_f (by decide) (cd_f (by decide) (cd_f (by decide) (cd_f (by decide) (cd_f (by decide) (cd_t rfl (?_))))))
        refine ck_i rfl (cn_i (fun y0 => ?_) (fun y0 => ?_))
        · exact ck_i rfl (ck_i (jb_i (by omega) (by omega)) (recB _ (by rw [o]; exact (if_pos y0).symm)))
        · exact ck_i rfl (ck_i (jb_i (by omega) (by omega)) (recB _ (by rw [o]; exact (if_neg y0).symm)))
      · rw [show eN (ops x3) (vs x3) = -24 by rw [o]; rfl]
        refine cd_f (by decide) (cd_f (by decide) (cd_f (by decide) (cd_f (by decide) (cd_t rfl (?_)))))
        refine ck_i rfl (cn_i (fun y0 => ?_) (fun y0 => ?_))
        · exact ck_i rfl (ck_i (jb_i (by omega) (by omega)) (recB _ (by rw [o]; exact (if_pos y0).symm)))
        · exact ck_i rfl (ck_i (jb_i (by omega) (by omega)) (recB _ (by rw [o]; exact (if_neg y0).symm)))
      · rw [show eN (ops x3) (vs x3) = -25 by rw [o]; rfl]
        refine cd_f (by decide) (cd_f (by decide) (cd_f (by decide) (cd_t rfl (?_))))
        refine ck_i rfl (cn_i (fun y0 => ?_) (fun y0 => ?_))
        · exact ck_i rfl (ck_i (jb_i (by omega) (by omega)) (recB _ (by rw [o]; exact (if_pos y0).symm)))
        · exact ck_i rfl (ck_i (jb_i (by omega) (by omega)) (recB _ (by rw [o]; exact (if_neg y0).symm)))
      · rw [show eN (ops x3) (vs x3) = -22 by rw [o]; rfl]
        refine cd_f (by decide) (cd_f (by decide) (cd_f (by decide) (cd_f (by decide) (cd_f (by decide) (cd_f (by decide) (cd_t rfl (?_)))))))
        exact ck_i rfl (ck_i rfl (ck_i (jb_i (by omega) (by omega)) (recB _ (by rw [o]; rfl))))
      · rw [show eN (ops x3) (vs x3) = -21 by rw [o]; rfl]
        refine cd_f (by decide) (cd_f (by decide) (cd_f (by decide) (cd_f (by decide) (cd_f (by decide) (cd_f (by decide) (cd_f (by decide) (cd_t rfl (?_))))))))
        exact ck_i rfl (ck_i rfl (ck_i (jb_i (by omega) (by omega)) (recB _ (by rw [o]; rfl))))
  · have e : x3 = T := by omega
    rw [show (T - x3).toNat = 0 by omega] at hw hR
    have hw1 : x2 = 1 := hw
    have h0 : F (b + 5) 0 = q.2 0 := hst 0 (by omega) (by omega)
    have hR1 : q.2 0 = R := hR
    have hkk := hk F hF
    refine cd_t (by omega) ?_
    refine ck_i rfl (ck_i rfl (ck_i rfl ?_))
    refine cn_i (fun g => ?_) (fun g => ?_)
    · have g' : R = 0 := by rw [← hR1, ← h0]; exact g
      rw [if_pos g'] at hkk
      exact hkk
    · have g' : R ≠ 0 := by rw [← hR1, ← h0]; exact g
      rw [if_neg g'] at hkk
      exact hkk
termination_by (T - x3).toNat
decreasing_by omega
/-- a law as the class keeps it in the cells from b on -/
def WR (F : FI) (b : Nat) (w : La) : Prop := F b 5 = w.1 ∧ (∀ k, 0 ≤ k → k < w.1 → F (b + 1) k.toNat = w.2.1 k ∧ F (b + 2) k.toNat = frm w k ∧ F (b + 2) (k + 1).toNat = w.2.2.1 (k + 1) ∧ ∀ i, frm w k ≤ i → i < w.2.2.1 (k + 1) → F (b + 3) i.toNat = eN (w.2.2.2.1 i) (w.2.2.2.2 i))
theorem WR_c {F F' : FI} {b : Nat} {w : La} (h : WR F b w) (hF : ∀ i, i < 4 → F' (b + i) = F (b + i)) : WR F' b w := by
  have h0 := hF 0 (by decide)
  rw [Nat.add_zero] at h0
  unfold WR at h ⊢
  rw [h0, hF 1 (by decide), hF 2 (by decide), hF 3 (by decide)]
  exact h
theorem c_229 {k : Int → FS → FI → FJ → Prop} {b : Nat} {w : La} {x1 : Int} {nm : Int → Int} {S : FS} {F : FI} {G : FJ} (hb : oW b) (hw : LW w) (hr : WR F b w) (h0 : 0 ≤ x1) (h1 : x1 < w.1) (hnm : ∀ j, 0 ≤ j → j ≤ 7 → F (b + 4) j.toNat = nm j)
    (hk : ∀ v F', v = (if sRes w.2.2.2.1 w.2.2.2.2 nm (frm w x1) (w.2.2.1 (x1 + 1)) = 0 then 0 else 1) → (∀ a, a ≠ b + 5 → F' a = F a) → k v S F' G) : calI 0 229 [.inr (.inr (.inl b)), .inl x1] (mm S F G) k nof := by
  obtain ⟨r1, r2, r3, r4⟩ := hr.2 x1 h0 h1
  obtain ⟨w1, w2, w3, w4⟩ := hw.2 x1 h0 h1
  have w0 := hw.1.2
  refine sg_229_0 ?_
  simp only [wk hb, wk1 hb, wk2 hb, wk3 hb, wk4 hb, wk5 hb, wr0 hb, wr1 hb, wr2 hb, wr3 hb, wr4 hb, r2]
  refine ck_i rfl (ck_i rfl (ck_i (jb_i (by omega) (by omega)) ?_))
  exact l_229 (q := (0, fun _ => 0)) hb h0 (by omega) r3 w3 w1 w2 (fun _ _ => rfl) r4 hnm (by omega) (by omega) rfl (fun i a c => by omega) w4 rfl (fun F' hF => ⟨_, _, _, rfl, hk _ _ rfl hF⟩)
theorem l_228 {Q : Rs → Mm → Prop} {b : Nat} {w : La} {x1 x2 x3 : Int} {nm : Int → Int} {S : FS} {F F0 : FI} {G : FJ} (hb : oW b) (hw : LW w) (hr : WR F0 b w) (hF : ∀ a, a ≠ b + 5 → F a = F0 a) (hnm : ∀ j, 0 ≤ j → j ≤ 7 → F0 (b + 4) j.toNat = nm j) (h3 : 0 ≤ x3) (h3' : x3 ≤ w.1)
    (hn : ∀ k, 0 ≤ k → k < x3 → k ≠ x2 → w.2.1 k = x1 → sRes w.2.2.2.1 w.2.2.2.2 nm (frm w k) (w.2.2.1 (k + 1)) ≠ 0)
    (hk : ∀ F', (∀ a, a ≠ b + 5 → F' a = F0 a) → Q (.inl (some (.inl (sHo w nm x1 x2)))) (mm S F' G)) : wph 1 228 2 [.inr (.inr (.inl b)), .inl x1, .inl x2, .inl x3] [] (mm S F G) (0, 0) Q := by
  obtain ⟨⟨hw1, hw2⟩, hw3⟩ := id hw
  have hr1 : WR F b w := WR_c hr (fun i hi => hF _ (by omega))
  have e0 := hr1.1
  refine sg_228_2 ?_
  simp only [wk hb, wk1 hb, wk2 hb, wk3 hb, wk4 hb, wk5 hb, wr0 hb, wr1 hb, wr2 hb, wr3 hb, wr4 hb, e0]
  refine ck_i rfl (cn_i (fun h => ?_) (fun h => ?_))
  · have nxt : ∀ F', (∀ a, a ≠ b + 5 → F' a = F0 a) → (x3 ≠ x2 → w.2.1 x3 = x1 → sRes w.2.2.2.1 w.2.2.2.2 nm (frm w x3) (w.2.2.1 (x3 + 1)) ≠ 0) → wph 1 228 2 [.inr (.inr (.inl b)), .inl x1, .inl x2, .inl (x3 + 1)] [] (mm S F' G) (0, 0) Q := by
      intro F' hF' hx
      refine l_228 hb hw hr hF' hnm (by omega) (by omega) (fun k a c d e => ?_) hk
      by_cases q : k = x3
      · rw [q] at d e ⊢
        exact hx d e
      · exact hn k a (by omega) d e
    have g1 := (hr1.2 x3 h3 h).1
    try simp (disch := omega) only [wr_id]
    rw [g1]
    refine ck_i rfl (ck_i rfl (ck_i (jb_i (by omega) (by omega)) (cn_i (fun g => ?_) (fun g => ?_))))
    · refine cn_i (fun o => ?_) (fun o => ?_)
      · exact nxt F hF (fun q => absurd o q)
      · refine ck_i rfl (c_229 hb hw hr1 h3 h (nm := nm) (fun j a c => by rw [hF (b + 4) (by omega)]; exact hnm j a c) (fun v F' ev hF' => ?_))
        have hF2 : ∀ a, a ≠ b + 5 → F' a = F0 a := fun a ha => (hF' a ha).trans (hF a ha)
        refine cn_i (fun z => ?_) (fun z => ?_)
        · have := hk F' hF2
          have e : sHo w nm x1 x2 = 0 := if_neg (fun q => q x3 h3 h o g (by
            apply Classical.byContradiction
            intro y
            rw [if_neg y] at ev
            omega))
          rw [e] at this
          exact this
        · refine nxt F' hF2 (fun _ _ y => ?_)
          rw [if_pos y] at ev
          exact z ev
    · exact nxt F hF (fun _ q => absurd q g)
  · have := hk F hF
    have e : sHo w nm x1 x2 = 1 := if_pos (fun k a c d e => hn k a (by omega) d e)
    rw [e] at this
    exact this
termination_by (w.1 - x3).toNat
decreasing_by omega
theorem c_228 {k : Int → FS → FI → FJ → Prop} {b : Nat} {w : La} {x1 x2 : Int} {nm : Int → Int} {S : FS} {F : FI} {G : FJ} (hb : oW b) (hw : LW w) (hr : WR F b w) (hnm : ∀ j, 0 ≤ j → j ≤ 7 → F (b + 4) j.toNat = nm j)
    (hk : ∀ v F', v = sHo w nm x1 x2 → (∀ a, a ≠ b + 5 → F' a = F a) → k v S F' G) : calI 1 228 [.inr (.inr (.inl b)), .inl x1, .inl x2] (mm S F G) k nof := by
  refine sg_228_0 ?_
  exact l_228 hb hw hr (fun _ _ => rfl) hnm (by omega) hw.1.1 (fun k a c => by omega) (fun F' hF => ⟨_, _, _, rfl, hk _ _ rfl hF⟩)
