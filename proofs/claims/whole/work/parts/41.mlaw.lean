/-! ===== a law's conditions, worked on a pile ===== -/
def sBin (op x y : Int) : Int := if op = 2 then wr (x + y) else if op = 3 then wr (x - y) else if op = 4 then wr (x * y) else if op = 5 then (if y = 0 then 0 else if y = -1 then wr (-x) else wr (Int.tdiv x y))
  else if op = 6 then (if x < y then 1 else 0) else if op = 7 then (if y < x then 1 else 0) else if op = 8 then (if x = y then 1 else 0) else if op = 10 then an x y else orr x y
def sStp (op v : Int) (nm : Int → Int) (q : Int × (Int → Int)) : Int × (Int → Int) :=
  if op = 0 then (q.1 + 1, fun i => if i = q.1 then v else q.2 i)
  else if op = 1 then (q.1 + 1, fun i => if i = q.1 then nm v else q.2 i)
  else if op = 9 then (q.1, fun i => if i = q.1 - 1 then wr (1 - q.2 (q.1 - 1)) else q.2 i)
  else (q.1 - 1, fun i => if i = q.1 - 2 then sBin op (q.2 (q.1 - 2)) (q.2 (q.1 - 1)) else q.2 i)
def sRun (ops vs nm : Int → Int) : Nat → Int → Int × (Int → Int) → Int × (Int → Int)
  | 0, _, q => q
  | n + 1, f, q => sRun ops vs nm n (f + 1) (sStp (ops f) (vs f) nm q)
def sRes (ops vs nm : Int → Int) (f t : Int) : Int := (sRun ops vs nm (t - f).toNat f (0, fun _ => 0)).2 0
/-- steps that never want what isn't there, and leave one number -/
def wfS (ops vs : Int → Int) : Nat → Int → Int → Prop
  | 0, _, d => d = 1
  | n + 1, f, d => (0 ≤ ops f ∧ ops f ≤ 1 ∧ 0 ≤ d ∧ d < 64 ∧ 0 ≤ vs f ∧ (ops f = 1 → vs f ≤ 7) ∧ wfS ops vs n (f + 1) (d + 1)) ∨ (ops f = 9 ∧ 1 ≤ d ∧ wfS ops vs n (f + 1) d) ∨ (2 ≤ ops f ∧ ops f ≤ 11 ∧ ops f ≠ 9 ∧ 2 ≤ d ∧ wfS ops vs n (f + 1) (d - 1))
theorem wfS_b {ops vs : Int → Int} : ∀ {n : Nat} {f d : Int}, wfS ops vs n f d → 0 ≤ d → d ≤ 64 → True := fun _ _ _ => trivial
abbrev c_I (F : FI) (a : Nat) : Int → Int := fun i => F a i.toNat
theorem l_107 {Q : Rs → Mm → Prop} {x2 x3 x4 R : Int} {q : Int × (Int → Int)} {S : FS} {F F0 : FI} {G : FJ} (h4 : 0 ≤ x4) (h4' : x4 ≤ x2) (h2 : x2 ≤ 620) (hF : ∀ a, a ≠ 110 → F a = F0 a) (hd : 0 ≤ x3) (hd2 : x3 ≤ 64) (hq : q.1 = x3) (hst : ∀ i, 0 ≤ i → i < x3 → F 110 i.toNat = q.2 i)
    (hw : wfS (c_I F0 102) (c_I F0 103) (x2 - x4).toNat x4 x3) (hR : (sRun (c_I F0 102) (c_I F0 103) (c_I F0 111) (x2 - x4).toNat x4 q).2 0 = R)
    (hk : ∀ F', (∀ a, a ≠ 110 → F' a = F0 a) → Q (.inl (some (.inl R))) (mm S F' G)) : wph 0 107 5 [.inr (.inr (.inl 97)), jk, .inl x2, .inl x3, .inl x4] [] (mm S F G) (0, 0) Q := by
  have e102 := hF 102 (by decide)
  have e103 := hF 103 (by decide)
  have e111 := hF 111 (by decide)
  refine sg_107_5 ?_
  rw [e102, e103, e111]
  refine cn_i (fun h => ?_) (fun h => ?_)
  · obtain ⟨n, hn⟩ : ∃ n : Nat, (x2 - x4).toNat = n + 1 := ⟨(x2 - x4).toNat - 1, by omega⟩
    have hn' : (x2 - (x4 + 1)).toNat = n := by omega
    rw [hn] at hw hR
    have hR' : (sRun (c_I F0 102) (c_I F0 103) (c_I F0 111) n (x4 + 1) (sStp (F0 102 x4.toNat) (F0 103 x4.toNat) (c_I F0 111) q)).2 0 = R := hR
    have hw' : (0 ≤ F0 102 x4.toNat ∧ F0 102 x4.toNat ≤ 1 ∧ 0 ≤ x3 ∧ x3 < 64 ∧ 0 ≤ F0 103 x4.toNat ∧ (F0 102 x4.toNat = 1 → F0 103 x4.toNat ≤ 7) ∧ wfS (c_I F0 102) (c_I F0 103) n (x4 + 1) (x3 + 1)) ∨ (F0 102 x4.toNat = 9 ∧ 1 ≤ x3 ∧ wfS (c_I F0 102) (c_I F0 103) n (x4 + 1) x3) ∨ (2 ≤ F0 102 x4.toNat ∧ F0 102 x4.toNat ≤ 11 ∧ F0 102 x4.toNat ≠ 9 ∧ 2 ≤ x3 ∧ wfS (c_I F0 102) (c_I F0 103) n (x4 + 1) (x3 - 1)) := hw
    have rcc : ∀ n' j v : Int, sStp (F0 102 x4.toNat) (F0 103 x4.toNat) (c_I F0 111) q = (n', fun i => if i = j then v else q.2 i) → 0 ≤ j → 0 ≤ n' → n' ≤ 64 → (∀ i, 0 ≤ i → i < n' → i ≠ j → i < x3) → wfS (c_I F0 102) (c_I F0 103) n (x4 + 1) n' →
        wph 0 107 5 [.inr (.inr (.inl 97)), jk, .inl x2, .inl n', .inl (x4 + 1)] [] (mm S (u2 F 110 j.toNat v) G) (0, 0) Q := by
      intro n' j v hs hj hn0 hn1 hi hw1
      rw [hs] at hR'
      refine l_107 (q := (n', fun i => if i = j then v else q.2 i)) (by omega) (by omega) h2 (off_uI hF) hn0 hn1 rfl (fun i a b => ?_) (by rw [hn']; exact hw1) (by rw [hn']; exact hR') hk
      rw [u2_k]
      show _ = if i = j then v else q.2 i
      by_cases c : i = j
      · rw [if_pos (by rw [c]), if_pos c]
      · rw [if_neg (by omega), if_neg c]
        exact hst i a (hi i a b c)
    try simp (disch := omega) only [wr_id]
    refine ck_i (by (first | exact jb_i (by (first | assumption | omega | (simp (disch := omega) only [wr_id]; omega))) (by (first | assumption | omega | (simp (disch := omega) only [wr_id]; omega))) | exact jo_i (by omega) | exact jz_i (by omega) | rfl | (simp only [*]; first | rfl | exact jb_i (by (first | assumption | omega | (simp (disch := omega) only [wr_id]; omega))) (by (first | assumption | omega | (simp (disch := omega) only [wr_id]; omega)))))) (cn_i (fun g => ?_) (fun g => ?_))
    · have z1 : x3 + -1 - 1 = x3 - 2 := by omega
      have z2 : x3 + -1 = x3 - 1 := by omega
      have z3 : x3 - 1 - 1 = x3 - 2 := by omega
      simp only [z1, z2]
      refine cn_i (fun g9 => ?_) (fun g9 => ?_)
      · have hx3 : 1 ≤ x3 := by omega
        have hw9 : wfS (c_I F0 102) (c_I F0 103) n (x4 + 1) x3 := by
          rcases hw' with w | w | w
          · omega
          · exact w.2.2
          · omega
        try simp (disch := omega) only [wr_id]
        refine ck_i (by (first | exact jb_i (by (first | assumption | omega | (simp (disch := omega) only [wr_id]; omega))) (by (first | assumption | omega | (simp (disch := omega) only [wr_id]; omega))) | exact jo_i (by omega) | exact jz_i (by omega) | rfl | (simp only [*]; first | rfl | exact jb_i (by (first | assumption | omega | (simp (disch := omega) only [wr_id]; omega))) (by (first | assumption | omega | (simp (disch := omega) only [wr_id]; omega)))))) (ck_i (by (first | exact jb_i (by (first | assumption | omega | (simp (disch := omega) only [wr_id]; omega))) (by (first | assumption | omega | (simp (disch := omega) only [wr_id]; omega))) | exact jo_i (by omega) | exact jz_i (by omega) | rfl | (simp only [*]; first | rfl | exact jb_i (by (first | assumption | omega | (simp (disch := omega) only [wr_id]; omega))) (by (first | assumption | omega | (simp (disch := omega) only [wr_id]; omega)))))) ?_)
        rw [hst (x3 - 1) (by omega) (by omega)]
        refine rcc x3 (x3 - 1) _ ?_ (by omega) (by omega) (by omega) (fun i a b c => b) hw9
        unfold sStp
        rw [if_neg (by omega), if_neg (by omega), if_pos g9, hq]
      · have w : 2 ≤ F0 102 x4.toNat ∧ F0 102 x4.toNat ≤ 11 ∧ F0 102 x4.toNat ≠ 9 ∧ 2 ≤ x3 ∧ wfS (c_I F0 102) (c_I F0 103) n (x4 + 1) (x3 - 1) := by
          rcases hw' with w | w | w
          · omega
          · omega
          · exact w
        obtain ⟨w1, w2, w3, w4, w5⟩ := w
        have f1 := hst (x3 - 2) (by omega) (by omega)
        have f2 := hst (x3 - 1) (by omega) (by omega)
        have recB : ∀ v, v = sBin (F0 102 x4.toNat) (q.2 (x3 - 2)) (q.2 (x3 - 1)) → wph 0 107 5 [.inr (.inr (.inl 97)), jk, .inl x2, .inl (x3 - 1), .inl (x4 + 1)] [] (mm S (u2 F 110 (x3 - 2).toNat v) G) (0, 0) Q := by
          intro v e
          refine rcc (x3 - 1) (x3 - 2) v ?_ (by omega) (by omega) (by omega) (fun i a b c => by omega) w5
          unfold sStp
          rw [if_neg (by omega), if_neg (by omega), if_neg w3, hq, e]
        try simp (disch := omega) only [wr_id]
        simp only [z1, z2, z3, f1, f2]
        refine ck_i (by (first | exact jb_i (by (first | assumption | omega | (simp (disch := omega) only [wr_id]; omega))) (by (first | assumption | omega | (simp (disch := omega) only [wr_id]; omega))) | exact jo_i (by omega) | exact jz_i (by omega) | rfl | (simp only [*]; first | rfl | exact jb_i (by (first | assumption | omega | (simp (disch := omega) only [wr_id]; omega))) (by (first | assumption | omega | (simp (disch := omega) only [wr_id]; omega)))))) (ck_i (by (first | exact jb_i (by (first | assumption | omega | (simp (disch := omega) only [wr_id]; omega))) (by (first | assumption | omega | (simp (disch := omega) only [wr_id]; omega))) | exact jo_i (by omega) | exact jz_i (by omega) | rfl | (simp only [*]; first | rfl | exact jb_i (by (first | assumption | omega | (simp (disch := omega) only [wr_id]; omega))) (by (first | assumption | omega | (simp (disch := omega) only [wr_id]; omega)))))) ?_)
        refine cn_i (fun o => ?_) (fun o2 => cn_i (fun o => ?_) (fun o3 => cn_i (fun o => ?_) (fun o4 => cn_i (fun o => ?_) (fun o5 => cn_i (fun o => ?_) (fun o6 => cn_i (fun o => ?_) (fun o7 => cn_i (fun o => ?_) (fun o8 => cn_i (fun o => ?_) (fun _ => cn_i (fun o => ?_) (fun o10 => ?_)))))))))
        · exact ck_i (by (first | exact jb_i (by (first | assumption | omega | (simp (disch := omega) only [wr_id]; omega))) (by (first | assumption | omega | (simp (disch := omega) only [wr_id]; omega))) | exact jo_i (by omega) | exact jz_i (by omega) | rfl | (simp only [*]; first | rfl | exact jb_i (by (first | assumption | omega | (simp (disch := omega) only [wr_id]; omega))) (by (first | assumption | omega | (simp (disch := omega) only [wr_id]; omega)))))) (recB _ (by rw [o]; rfl))
        · exact ck_i (by (first | exact jb_i (by (first | assumption | omega | (simp (disch := omega) only [wr_id]; omega))) (by (first | assumption | omega | (simp (disch := omega) only [wr_id]; omega))) | exact jo_i (by omega) | exact jz_i (by omega) | rfl | (simp only [*]; first | rfl | exact jb_i (by (first | assumption | omega | (simp (disch := omega) only [wr_id]; omega))) (by (first | assumption | omega | (simp (disch := omega) only [wr_id]; omega)))))) (recB _ (by rw [o]; rfl))
        · exact ck_i (by (first | exact jb_i (by (first | assumption | omega | (simp (disch := omega) only [wr_id]; omega))) (by (first | assumption | omega | (simp (disch := omega) only [wr_id]; omega))) | exact jo_i (by omega) | exact jz_i (by omega) | rfl | (simp only [*]; first | rfl | exact jb_i (by (first | assumption | omega | (simp (disch := omega) only [wr_id]; omega))) (by (first | assumption | omega | (simp (disch := omega) only [wr_id]; omega)))))) (recB _ (by rw [o]; rfl))
        · refine cn_i (fun y0 => ?_) (fun y0 => cn_i (fun y1 => ?_) (fun y1 => ?_))
          · exact ck_i (by (first | exact jb_i (by (first | assumption | omega | (simp (disch := omega) only [wr_id]; omega))) (by (first | assumption | omega | (simp (disch := omega) only [wr_id]; omega))) | exact jo_i (by omega) | exact jz_i (by omega) | rfl | (simp only [*]; first | rfl | exact jb_i (by (first | assumption | omega | (simp (disch := omega) only [wr_id]; omega))) (by (first | assumption | omega | (simp (disch := omega) only [wr_id]; omega)))))) (recB _ (by rw [o, y0]; rfl))
          · exact ck_i (by (first | exact jb_i (by (first | assumption | omega | (simp (disch := omega) only [wr_id]; omega))) (by (first | assumption | omega | (simp (disch := omega) only [wr_id]; omega))) | exact jo_i (by omega) | exact jz_i (by omega) | rfl | (simp only [*]; first | rfl | exact jb_i (by (first | assumption | omega | (simp (disch := omega) only [wr_id]; omega))) (by (first | assumption | omega | (simp (disch := omega) only [wr_id]; omega)))))) (recB _ (by rw [o, y1]; rfl))
          · refine ck_i (jz_i y0) (ck_i (by (first | exact jb_i (by (first | assumption | omega | (simp (disch := omega) only [wr_id]; omega))) (by (first | assumption | omega | (simp (disch := omega) only [wr_id]; omega))) | exact jo_i (by omega) | exact jz_i (by omega) | rfl | (simp only [*]; first | rfl | exact jb_i (by (first | assumption | omega | (simp (disch := omega) only [wr_id]; omega))) (by (first | assumption | omega | (simp (disch := omega) only [wr_id]; omega)))))) (recB _ ?_))
            rw [o]
            show _ = if q.2 (x3 - 1) = 0 then _ else if q.2 (x3 - 1) = -1 then _ else _
            rw [if_neg y0, if_neg y1]
        · refine cn_i (fun y0 => ?_) (fun y0 => ?_)
          · exact ck_i (by (first | exact jb_i (by (first | assumption | omega | (simp (disch := omega) only [wr_id]; omega))) (by (first | assumption | omega | (simp (disch := omega) only [wr_id]; omega))) | exact jo_i (by omega) | exact jz_i (by omega) | rfl | (simp only [*]; first | rfl | exact jb_i (by (first | assumption | omega | (simp (disch := omega) only [wr_id]; omega))) (by (first | assumption | omega | (simp (disch := omega) only [wr_id]; omega)))))) (recB _ (by rw [o]; exact (if_pos y0).symm))
          · exact ck_i (by (first | exact jb_i (by (first | assumption | omega | (simp (disch := omega) only [wr_id]; omega))) (by (first | assumption | omega | (simp (disch := omega) only [wr_id]; omega))) | exact jo_i (by omega) | exact jz_i (by omega) | rfl | (simp only [*]; first | rfl | exact jb_i (by (first | assumption | omega | (simp (disch := omega) only [wr_id]; omega))) (by (first | assumption | omega | (simp (disch := omega) only [wr_id]; omega)))))) (recB _ (by rw [o]; exact (if_neg y0).symm))
        · refine cn_i (fun y0 => ?_) (fun y0 => ?_)
          · exact ck_i (by (first | exact jb_i (by (first | assumption | omega | (simp (disch := omega) only [wr_id]; omega))) (by (first | assumption | omega | (simp (disch := omega) only [wr_id]; omega))) | exact jo_i (by omega) | exact jz_i (by omega) | rfl | (simp only [*]; first | rfl | exact jb_i (by (first | assumption | omega | (simp (disch := omega) only [wr_id]; omega))) (by (first | assumption | omega | (simp (disch := omega) only [wr_id]; omega)))))) (recB _ (by rw [o]; exact (if_pos y0).symm))
          · exact ck_i (by (first | exact jb_i (by (first | assumption | omega | (simp (disch := omega) only [wr_id]; omega))) (by (first | assumption | omega | (simp (disch := omega) only [wr_id]; omega))) | exact jo_i (by omega) | exact jz_i (by omega) | rfl | (simp only [*]; first | rfl | exact jb_i (by (first | assumption | omega | (simp (disch := omega) only [wr_id]; omega))) (by (first | assumption | omega | (simp (disch := omega) only [wr_id]; omega)))))) (recB _ (by rw [o]; exact (if_neg y0).symm))
        · refine cn_i (fun y0 => ?_) (fun y0 => ?_)
          · exact ck_i (by (first | exact jb_i (by (first | assumption | omega | (simp (disch := omega) only [wr_id]; omega))) (by (first | assumption | omega | (simp (disch := omega) only [wr_id]; omega))) | exact jo_i (by omega) | exact jz_i (by omega) | rfl | (simp only [*]; first | rfl | exact jb_i (by (first | assumption | omega | (simp (disch := omega) only [wr_id]; omega))) (by (first | assumption | omega | (simp (disch := omega) only [wr_id]; omega)))))) (recB _ (by rw [o]; exact (if_pos y0).symm))
          · exact ck_i (by (first | exact jb_i (by (first | assumption | omega | (simp (disch := omega) only [wr_id]; omega))) (by (first | assumption | omega | (simp (disch := omega) only [wr_id]; omega))) | exact jo_i (by omega) | exact jz_i (by omega) | rfl | (simp only [*]; first | rfl | exact jb_i (by (first | assumption | omega | (simp (disch := omega) only [wr_id]; omega))) (by (first | assumption | omega | (simp (disch := omega) only [wr_id]; omega)))))) (recB _ (by rw [o]; exact (if_neg y0).symm))
        · exact absurd o g9
        · exact ck_i (by (first | exact jb_i (by (first | assumption | omega | (simp (disch := omega) only [wr_id]; omega))) (by (first | assumption | omega | (simp (disch := omega) only [wr_id]; omega))) | exact jo_i (by omega) | exact jz_i (by omega) | rfl | (simp only [*]; first | rfl | exact jb_i (by (first | assumption | omega | (simp (disch := omega) only [wr_id]; omega))) (by (first | assumption | omega | (simp (disch := omega) only [wr_id]; omega)))))) (recB _ (by rw [o]; rfl))
        · have o : F0 102 x4.toNat = 11 := by omega
          exact ck_i (by (first | exact jb_i (by (first | assumption | omega | (simp (disch := omega) only [wr_id]; omega))) (by (first | assumption | omega | (simp (disch := omega) only [wr_id]; omega))) | exact jo_i (by omega) | exact jz_i (by omega) | rfl | (simp only [*]; first | rfl | exact jb_i (by (first | assumption | omega | (simp (disch := omega) only [wr_id]; omega))) (by (first | assumption | omega | (simp (disch := omega) only [wr_id]; omega)))))) (recB _ (by rw [o]; rfl))
    · have w : 0 ≤ F0 102 x4.toNat ∧ F0 102 x4.toNat ≤ 1 ∧ 0 ≤ x3 ∧ x3 < 64 ∧ 0 ≤ F0 103 x4.toNat ∧ (F0 102 x4.toNat = 1 → F0 103 x4.toNat ≤ 7) ∧ wfS (c_I F0 102) (c_I F0 103) n (x4 + 1) (x3 + 1) := by
        rcases hw' with w | w | w
        · exact w
        · omega
        · omega
      obtain ⟨w1, w2, w3, w4, w5, w6, w7⟩ := w
      try simp (disch := omega) only [wr_id]
      refine cn_i (fun o => ?_) (fun o => ?_)
      · refine ck_i (by (first | exact jb_i (by (first | assumption | omega | (simp (disch := omega) only [wr_id]; omega))) (by (first | assumption | omega | (simp (disch := omega) only [wr_id]; omega))) | exact jo_i (by omega) | exact jz_i (by omega) | rfl | (simp only [*]; first | rfl | exact jb_i (by (first | assumption | omega | (simp (disch := omega) only [wr_id]; omega))) (by (first | assumption | omega | (simp (disch := omega) only [wr_id]; omega)))))) (ck_i (by (first | exact jb_i (by (first | assumption | omega | (simp (disch := omega) only [wr_id]; omega))) (by (first | assumption | omega | (simp (disch := omega) only [wr_id]; omega))) | exact jo_i (by omega) | exact jz_i (by omega) | rfl | (simp only [*]; first | rfl | exact jb_i (by (first | assumption | omega | (simp (disch := omega) only [wr_id]; omega))) (by (first | assumption | omega | (simp (disch := omega) only [wr_id]; omega)))))) ?_)
        refine rcc (x3 + 1) x3 _ ?_ (by omega) (by omega) (by omega) (fun i a b c => by omega) w7
        unfold sStp
        rw [if_pos o, hq]
      · have o1 : F0 102 x4.toNat = 1 := by omega
        have w6' := w6 o1
        refine ck_i (by (first | exact jb_i (by (first | assumption | omega | (simp (disch := omega) only [wr_id]; omega))) (by (first | assumption | omega | (simp (disch := omega) only [wr_id]; omega))) | exact jo_i (by omega) | exact jz_i (by omega) | rfl | (simp only [*]; first | rfl | exact jb_i (by (first | assumption | omega | (simp (disch := omega) only [wr_id]; omega))) (by (first | assumption | omega | (simp (disch := omega) only [wr_id]; omega)))))) (ck_i (by (first | exact jb_i (by (first | assumption | omega | (simp (disch := omega) only [wr_id]; omega))) (by (first | assumption | omega | (simp (disch := omega) only [wr_id]; omega))) | exact jo_i (by omega) | exact jz_i (by omega) | rfl | (simp only [*]; first | rfl | exact jb_i (by (first | assumption | omega | (simp (disch := omega) only [wr_id]; omega))) (by (first | assumption | omega | (simp (disch := omega) only [wr_id]; omega)))))) (ck_i (by (first | exact jb_i (by (first | assumption | omega | (simp (disch := omega) only [wr_id]; omega))) (by (first | assumption | omega | (simp (disch := omega) only [wr_id]; omega))) | exact jo_i (by omega) | exact jz_i (by omega) | rfl | (simp only [*]; first | rfl | exact jb_i (by (first | assumption | omega | (simp (disch := omega) only [wr_id]; omega))) (by (first | assumption | omega | (simp (disch := omega) only [wr_id]; omega)))))) ?_))
        refine rcc (x3 + 1) x3 _ ?_ (by omega) (by omega) (by omega) (fun i a b c => by omega) w7
        unfold sStp
        rw [if_neg o, if_pos o1, hq]
  · have e : x4 = x2 := by omega
    rw [show (x2 - x4).toNat = 0 by omega] at hw hR
    have hw1 : x3 = 1 := hw
    have h0 := hst 0 (by omega) (by omega)
    have hR1 : q.2 0 = R := hR
    rw [show F 110 0 = R by rw [← hR1]; exact h0]
    exact hk F hF
termination_by (x2 - x4).toNat
decreasing_by omega
theorem c_107 {k : Int → FS → FI → FJ → Prop} {x1 x2 : Int} {S : FS} {F : FI} {G : FJ} (h4 : 0 ≤ x1) (h4' : x1 ≤ x2) (h2 : x2 ≤ 620) (hw : wfS (c_I F 102) (c_I F 103) (x2 - x1).toNat x1 0)
    (hk : ∀ v F', v = sRes (c_I F 102) (c_I F 103) (c_I F 111) x1 x2 → (∀ a, a ≠ 110 → F' a = F a) → k v S F' G) : calI 0 107 [.inr (.inr (.inl 97)), .inl x1, .inl x2] (mm S F G) k nof := by
  refine sg_107_0 ?_
  exact l_107 (q := (0, fun _ => 0)) h4 h4' h2 (fun _ _ => rfl) (by omega) (by omega) rfl (fun i a b => by omega) hw rfl (fun F' hF => ⟨_, _, _, rfl, hk _ _ rfl hF⟩)
