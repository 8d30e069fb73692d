/-! ===== the law's loop: round by round ===== -/
theorem lqt {a b c d : Nat} (h1 : a ≤ b) (h2 : c ≤ d) : (lq a b c d && true) = true := by
  rw [Bool.and_true]
  unfold lq
  rw [nb h1, nb h2]
  rfl
theorem lc_z {a : Int} : lc a a = 0 := by
  unfold lc
  simp
set_option maxRecDepth 100000 in
theorem law_run {Q : Rs → Mm → Prop} {sc : Nat → Int} {n0 : Nat} (hn : n0 ≤ 3072) (hq : ∀ S F G, Q (.inl (some (.inl 1))) (mm S F G)) : ∀ (K : Nat) (x4 : Int) (c1 c2 : Nat) (S : FS) (F : FI) (G : FJ), (n0 : Int) - x4 < 6 * K + 6 → 0 ≤ x4 → x4 ≤ 4000 → c1 + 4 * K ≤ 600000 → c2 + 24 * K ≤ 7000000 → BI sc n0 S F G → wph 2000 341 23 [.inr (.inr (.inl 1000000)), .inr (.inr (.inl 1)), .inr (.inr (.inl 97)), .inr (.inr (.inl 128)), .inl x4] [] (mm S F G) (c1, c2) Q := by
  intro K
  induction K with
  | zero =>
    intro x4 c1 c2 S F G hK h0 h4 hc1 hc2 hB
    have hs : S 1000000 0 = n0 := by
      obtain ⟨a, a', b, b', h⟩ := hB
      exact h.2.2.1.2
    refine sg_law (cd_t ?_ (hq S F G))
    rw [hs, wr_id (by omega) (by omega)]
    omega
  | succ K ih =>
    intro x4 c1 c2 S F G hK h0 h4 hc1 hc2 hB
    have hs : F 1000000 = sc ∧ S 1000000 0 = n0 := by
      obtain ⟨a, a', b, b', h⟩ := id hB
      exact h.2.2.1
    refine sg_law ?_
    rw [hs.1, hs.2, wr_id (a := (n0 : Int) - 6) (by omega) (by omega)]
    refine cn_i (fun _ => hq S F G) (fun le => ck_i (jb_i h0 (by omega)) ?_)
    have nxt : ∀ (a b : Nat) (S2 : FS) (F2 : FI) (G2 : FJ), a ≤ c1 + 4 → b ≤ c2 + 24 → BI sc n0 S2 F2 G2 → wph 2000 341 23 [.inr (.inr (.inl 1000000)), .inr (.inr (.inl 1)), .inr (.inr (.inl 97)), .inr (.inr (.inl 128)), .inl (wr (x4 + 6))] [] (mm S2 F2 G2) (a, b) Q := by
      intro a b S2 F2 G2 ha hb b2
      rw [wr_id (by omega) (by omega)]
      exact ih (x4 + 6) a b S2 F2 G2 (by omega) (by omega) (by omega) (by omega) (by omega) b2
    have tail : ∀ (a b : Nat) (v v16 : Int) (S2 : FS) (F2 : FI) (G2 : FJ), a ≤ c1 + 4 → b ≤ c2 + 24 → BI sc n0 S2 F2 G2 → F2 97 0 = v → (v = 0 → G2 128 0 = v16) → calI 0 68 [.inr (.inr (.inl 97))] (mm S2 F2 G2) (fun v17 S17 F17 G17 => cnd (decide (v17 = v)) (cnd (decide (v = 0)) (cnd (decide (lc (G17 128 0) v16 = 0)) (wph 2000 341 23 [.inr (.inr (.inl 1000000)), .inr (.inr (.inl 1)), .inr (.inr (.inl 97)), .inr (.inr (.inl 128)), .inl (wr (x4 + 6))] [] (mm S17 F17 G17) (a, b) Q) (Q (.inl (some (.inl 0))) (mm S17 F17 G17))) (wph 2000 341 23 [.inr (.inr (.inl 1000000)), .inr (.inr (.inl 1)), .inr (.inr (.inl 97)), .inr (.inr (.inl 128)), .inl (wr (x4 + 6))] [] (mm S17 F17 G17) (a, b) Q)) (Q (.inl (some (.inl 0))) (mm S17 F17 G17))) nof := by
      intro a b v v16 S2 F2 G2 ha hb b2 e0 eo
      refine q_68 (cd_t e0 (cn_i (fun z => cd_t ?_ (nxt a b S2 F2 G2 ha hb b2)) (fun _ => nxt a b S2 F2 G2 ha hb b2)))
      rw [eo z]
      exact lc_z
    have w1 : wr (x4 + 1) = x4 + 1 := wr_id (by omega) (by omega)
    have w2 : wr (x4 + 2) = x4 + 2 := wr_id (by omega) (by omega)
    have w3 : wr (x4 + 3) = x4 + 3 := wr_id (by omega) (by omega)
    have w4 : wr (x4 + 4) = x4 + 4 := wr_id (by omega) (by omega)
    have w5 : wr (x4 + 5) = x4 + 5 := wr_id (by omega) (by omega)
    rw [w1, w2, w3, w4, w5]
    refine cn_i (fun _ => ?_) (fun _ => ?_)
    · refine ck_i (jb_i (by omega) (by omega)) (ck_i (jb_i (by omega) (by omega)) (ck_i (jb_i (by omega) (by omega)) (ck_i (jb_i (by omega) (by omega)) (ck_i (jb_i (by omega) (by omega)) (ck_i (lqt (by omega) (by omega)) (law_0 hB (fun v S1 F1 G1 rd => ?_)))))))
      rw [rd.1, rd.2.1.1]
      exact ck_i (jb_i (by omega) (by omega)) (ck_i (jb_i (by omega) (by omega)) (ck_i (jb_i (by omega) (by omega)) (ck_i (jb_i (by omega) (by omega)) (ck_i (jb_i (by omega) (by omega)) (ck_i (lqt (by omega) (by omega)) (rd.2.2 _ (fun v16 S2 F2 G2 b2 ev => cd_t ev.symm (nxt _ _ S2 F2 G2 (by omega) (by omega) b2))))))))
    refine cn_i (fun _ => ?_) (fun _ => ?_)
    · refine ck_i (jb_i (by omega) (by omega)) (ck_i (lqt (by omega) (by omega)) (law_1 hB (fun v S1 F1 G1 rd => ?_)))
      rw [rd.1, rd.2.1.1]
      exact ck_i (jb_i (by omega) (by omega)) (ck_i (lqt (by omega) (by omega)) (rd.2.2 _ (fun v16 S2 F2 G2 b2 e0 eo => ck_i (lqt (by omega) (by omega)) (tail _ _ v v16 S2 F2 G2 (by omega) (by omega) b2 e0 eo))))
    refine cn_i (fun _ => ?_) (fun _ => ?_)
    · refine ck_i (jb_i (by omega) (by omega)) (ck_i (lqt (by omega) (by omega)) (law_2 hB (fun v S1 F1 G1 rd => ?_)))
      rw [rd.1, rd.2.1.1]
      exact ck_i (jb_i (by omega) (by omega)) (ck_i (lqt (by omega) (by omega)) (rd.2.2 _ (fun v16 S2 F2 G2 b2 e0 eo => ck_i (lqt (by omega) (by omega)) (tail _ _ v v16 S2 F2 G2 (by omega) (by omega) b2 e0 eo))))
    refine cn_i (fun _ => ?_) (fun _ => ?_)
    · refine ck_i (lqt (by omega) (by omega)) (law_3 hB (fun v S1 F1 G1 rd => ?_))
      exact ck_i (lqt (by omega) (by omega)) (rd.2.2 _ (fun v16 S2 F2 G2 b2 ev => cd_t ev.symm (nxt _ _ S2 F2 G2 (by omega) (by omega) b2)))
    refine cn_i (fun _ => ?_) (fun _ => ?_)
    · refine ck_i (jb_i (by omega) (by omega)) (ck_i (lqt (by omega) (by omega)) (law_4 hB (fun v S1 F1 G1 rd => ?_)))
      rw [rd.1, rd.2.1.1]
      exact ck_i (jb_i (by omega) (by omega)) (ck_i (lqt (by omega) (by omega)) (rd.2.2 _ (fun v16 S2 F2 G2 b2 e0 eo => ck_i (lqt (by omega) (by omega)) (tail _ _ v v16 S2 F2 G2 (by omega) (by omega) b2 e0 eo))))
    refine cn_i (fun _ => ?_) (fun _ => ?_)
    · refine ck_i (jb_i (by omega) (by omega)) (ck_i (jb_i (by omega) (by omega)) (ck_i (lqt (by omega) (by omega)) (law_5 hB (fun v S1 F1 G1 rd => ?_))))
      rw [rd.1, rd.2.1.1]
      exact ck_i (jb_i (by omega) (by omega)) (ck_i (jb_i (by omega) (by omega)) (ck_i (lqt (by omega) (by omega)) (rd.2.2 _ (fun v16 S2 F2 G2 b2 e0 eo => ck_i (lqt (by omega) (by omega)) (tail _ _ v v16 S2 F2 G2 (by omega) (by omega) b2 e0 eo)))))
    refine cn_i (fun _ => ?_) (fun _ => ?_)
    · refine ck_i (jb_i (by omega) (by omega)) (ck_i (jb_i (by omega) (by omega)) (ck_i (lqt (by omega) (by omega)) (law_6 hB (fun v S1 F1 G1 rd => ?_))))
      rw [rd.1, rd.2.1.1]
      exact ck_i (jb_i (by omega) (by omega)) (ck_i (jb_i (by omega) (by omega)) (ck_i (lqt (by omega) (by omega)) (rd.2.2 _ (fun v16 S2 F2 G2 b2 e0 eo => ck_i (lqt (by omega) (by omega)) (tail _ _ v v16 S2 F2 G2 (by omega) (by omega) b2 e0 eo)))))
    refine cn_i (fun _ => ?_) (fun _ => ?_)
    · refine ck_i (jb_i (by omega) (by omega)) (ck_i (jb_i (by omega) (by omega)) (ck_i (lqt (by omega) (by omega)) (law_7 hB (fun v S1 F1 G1 rd => ?_))))
      rw [rd.1, rd.2.1.1]
      exact ck_i (jb_i (by omega) (by omega)) (ck_i (jb_i (by omega) (by omega)) (ck_i (lqt (by omega) (by omega)) (rd.2.2 _ (fun v16 S2 F2 G2 b2 e0 eo => ck_i (lqt (by omega) (by omega)) (tail _ _ v v16 S2 F2 G2 (by omega) (by omega) b2 e0 eo)))))
    refine cn_i (fun _ => ?_) (fun _ => ?_)
    · refine ck_i (jb_i (by omega) (by omega)) (ck_i (jb_i (by omega) (by omega)) (ck_i (lqt (by omega) (by omega)) (law_8 hB (fun v S1 F1 G1 rd => ?_))))
      rw [rd.1, rd.2.1.1]
      exact ck_i (jb_i (by omega) (by omega)) (ck_i (jb_i (by omega) (by omega)) (ck_i (lqt (by omega) (by omega)) (rd.2.2 _ (fun v16 S2 F2 G2 b2 e0 eo => ck_i (lqt (by omega) (by omega)) (tail _ _ v v16 S2 F2 G2 (by omega) (by omega) b2 e0 eo)))))
    refine cn_i (fun _ => ?_) (fun _ => ?_)
    · refine ck_i (jb_i (by omega) (by omega)) (ck_i (jb_i (by omega) (by omega)) (ck_i (lqt (by omega) (by omega)) (law_9 hB (fun v S1 F1 G1 rd => ?_))))
      rw [rd.1, rd.2.1.1]
      exact ck_i (jb_i (by omega) (by omega)) (ck_i (jb_i (by omega) (by omega)) (ck_i (lqt (by omega) (by omega)) (rd.2.2 _ (fun v16 S2 F2 G2 b2 e0 eo => ck_i (lqt (by omega) (by omega)) (tail _ _ v v16 S2 F2 G2 (by omega) (by omega) b2 e0 eo)))))
    refine cn_i (fun _ => ?_) (fun _ => ?_)
    · refine ck_i (jb_i (by omega) (by omega)) (ck_i (lqt (by omega) (by omega)) (law_10 hB (fun v S1 F1 G1 rd => ?_)))
      rw [rd.1, rd.2.1.1]
      exact ck_i (jb_i (by omega) (by omega)) (ck_i (lqt (by omega) (by omega)) (rd.2.2 _ (fun v16 S2 F2 G2 b2 e0 eo => ck_i (lqt (by omega) (by omega)) (tail _ _ v v16 S2 F2 G2 (by omega) (by omega) b2 e0 eo))))
    refine cn_i (fun _ => ?_) (fun _ => ?_)
    · refine ck_i (jb_i (by omega) (by omega)) (ck_i (lqt (by omega) (by omega)) (law_11 hB (fun v S1 F1 G1 rd => ?_)))
      rw [rd.1, rd.2.1.1]
      exact ck_i (jb_i (by omega) (by omega)) (ck_i (lqt (by omega) (by omega)) (rd.2.2 _ (fun v16 S2 F2 G2 b2 e0 eo => ck_i (lqt (by omega) (by omega)) (tail _ _ v v16 S2 F2 G2 (by omega) (by omega) b2 e0 eo))))
    refine cn_i (fun _ => ?_) (fun _ => ?_)
    · refine ck_i (jb_i (by omega) (by omega)) (ck_i (jb_i (by omega) (by omega)) (ck_i (jb_i (by omega) (by omega)) (ck_i (lqt (by omega) (by omega)) (law_12 hB (fun v S1 F1 G1 rd => ?_)))))
      rw [rd.1, rd.2.1.1]
      exact ck_i (jb_i (by omega) (by omega)) (ck_i (jb_i (by omega) (by omega)) (ck_i (jb_i (by omega) (by omega)) (ck_i (lqt (by omega) (by omega)) (rd.2.2 _ (fun v16 S2 F2 G2 b2 e0 eo => ck_i (lqt (by omega) (by omega)) (tail _ _ v v16 S2 F2 G2 (by omega) (by omega) b2 e0 eo))))))
    refine cn_i (fun _ => ?_) (fun _ => ?_)
    · refine ck_i (jb_i (by omega) (by omega)) (ck_i (jb_i (by omega) (by omega)) (ck_i (jb_i (by omega) (by omega)) (ck_i (lqt (by omega) (by omega)) (law_13 hB (fun v S1 F1 G1 rd => ?_)))))
      rw [rd.1, rd.2.1.1]
      exact ck_i (jb_i (by omega) (by omega)) (ck_i (jb_i (by omega) (by omega)) (ck_i (jb_i (by omega) (by omega)) (ck_i (lqt (by omega) (by omega)) (rd.2.2 _ (fun v16 S2 F2 G2 b2 e0 eo => ck_i (lqt (by omega) (by omega)) (tail _ _ v v16 S2 F2 G2 (by omega) (by omega) b2 e0 eo))))))
    refine cn_i (fun _ => ?_) (fun _ => ?_)
    · refine ck_i (jb_i (by omega) (by omega)) (ck_i (jb_i (by omega) (by omega)) (ck_i (jb_i (by omega) (by omega)) (ck_i (jb_i (by omega) (by omega)) (ck_i (lqt (by omega) (by omega)) (law_14 hB (fun v S1 F1 G1 rd => ?_))))))
      rw [rd.1, rd.2.1.1]
      exact ck_i (jb_i (by omega) (by omega)) (ck_i (jb_i (by omega) (by omega)) (ck_i (jb_i (by omega) (by omega)) (ck_i (jb_i (by omega) (by omega)) (ck_i (lqt (by omega) (by omega)) (rd.2.2 _ (fun v16 S2 F2 G2 b2 e0 eo => ck_i (lqt (by omega) (by omega)) (tail _ _ v v16 S2 F2 G2 (by omega) (by omega) b2 e0 eo)))))))
    refine cn_i (fun _ => ?_) (fun _ => ?_)
    · refine ck_i (jb_i (by omega) (by omega)) (ck_i (lqt (by omega) (by omega)) (law_15 hB (fun v S1 F1 G1 rd => ?_)))
      rw [rd.1, rd.2.1.1]
      exact ck_i (jb_i (by omega) (by omega)) (ck_i (lqt (by omega) (by omega)) (rd.2.2 _ (fun v16 S2 F2 G2 b2 e0 eo => ck_i (lqt (by omega) (by omega)) (tail _ _ v v16 S2 F2 G2 (by omega) (by omega) b2 e0 eo))))
    refine cn_i (fun _ => ?_) (fun _ => ?_)
    · refine ck_i (lqt (by omega) (by omega)) (law_16 hB (fun v S1 F1 G1 rd => ?_))
      exact ck_i (lqt (by omega) (by omega)) (rd.2.2 _ (fun v16 S2 F2 G2 b2 e0 eo => ck_i (lqt (by omega) (by omega)) (tail _ _ v v16 S2 F2 G2 (by omega) (by omega) b2 e0 eo)))
    refine cn_i (fun _ => ?_) (fun _ => ?_)
    · refine ck_i (jb_i (by omega) (by omega)) (ck_i (lqt (by omega) (by omega)) (law_17 hB (fun v S1 F1 G1 rd => ?_)))
      rw [rd.1, rd.2.1.1]
      exact ck_i (jb_i (by omega) (by omega)) (ck_i (lqt (by omega) (by omega)) (rd.2.2 _ (fun v16 S2 F2 G2 b2 e0 eo => ck_i (lqt (by omega) (by omega)) (tail _ _ v v16 S2 F2 G2 (by omega) (by omega) b2 e0 eo))))
    refine cn_i (fun _ => ?_) (fun _ => ?_)
    · refine ck_i (jb_i (by omega) (by omega)) (ck_i (lqt (by omega) (by omega)) (law_18 hB (fun v S1 F1 G1 rd => ?_)))
      rw [rd.1, rd.2.1.1]
      exact ck_i (jb_i (by omega) (by omega)) (ck_i (lqt (by omega) (by omega)) (rd.2.2 _ (fun v16 S2 F2 G2 b2 e0 eo => ck_i (lqt (by omega) (by omega)) (tail _ _ v v16 S2 F2 G2 (by omega) (by omega) b2 e0 eo))))
    refine cn_i (fun _ => ?_) (fun _ => ?_)
    · refine ck_i (jb_i (by omega) (by omega)) (ck_i (jb_i (by omega) (by omega)) (ck_i (lqt (by omega) (by omega)) (law_19 hB (fun v S1 F1 G1 rd => ?_))))
      rw [rd.1, rd.2.1.1]
      exact ck_i (jb_i (by omega) (by omega)) (ck_i (jb_i (by omega) (by omega)) (ck_i (lqt (by omega) (by omega)) (rd.2.2 _ (fun v16 S2 F2 G2 b2 e0 eo => ck_i (lqt (by omega) (by omega)) (tail _ _ v v16 S2 F2 G2 (by omega) (by omega) b2 e0 eo)))))
    refine cn_i (fun _ => ?_) (fun _ => ?_)
    · refine ck_i (lqt (by omega) (by omega)) (law_20 hB (fun v S1 F1 G1 rd => ?_))
      exact ck_i (lqt (by omega) (by omega)) (rd.2.2 _ (fun v16 S2 F2 G2 b2 ev => cd_t ev.symm (nxt _ _ S2 F2 G2 (by omega) (by omega) b2)))
    refine cn_i (fun _ => ?_) (fun _ => ?_)
    · refine ck_i (jb_i (by omega) (by omega)) (ck_i (lqt (by omega) (by omega)) (law_21 hB (fun v S1 F1 G1 rd => ?_)))
      rw [rd.1, rd.2.1.1]
      exact ck_i (jb_i (by omega) (by omega)) (ck_i (lqt (by omega) (by omega)) (rd.2.2 _ (fun v16 S2 F2 G2 b2 e0 eo => ck_i (lqt (by omega) (by omega)) (tail _ _ v v16 S2 F2 G2 (by omega) (by omega) b2 e0 eo))))
    refine cn_i (fun _ => ?_) (fun _ => ?_)
    · refine ck_i (lqt (by omega) (by omega)) (law_22 hB (fun v S1 F1 G1 rd => ?_))
      exact ck_i (lqt (by omega) (by omega)) (rd.2.2 _ (fun v16 S2 F2 G2 b2 ev => cd_t ev.symm (nxt _ _ S2 F2 G2 (by omega) (by omega) b2)))
    refine cn_i (fun _ => ?_) (fun _ => ?_)
    · refine ck_i (lqt (by omega) (by omega)) (law_23 hB (fun v S1 F1 G1 rd => ?_))
      exact ck_i (lqt (by omega) (by omega)) (rd.2.2 _ (fun v16 S2 F2 G2 b2 e0 eo => ck_i (lqt (by omega) (by omega)) (tail _ _ v v16 S2 F2 G2 (by omega) (by omega) b2 e0 eo)))
    refine cn_i (fun _ => ?_) (fun _ => ?_)
    · refine ck_i (jb_i (by omega) (by omega)) (ck_i (lqt (by omega) (by omega)) (law_24 hB (fun v S1 F1 G1 rd => ?_)))
      rw [rd.1, rd.2.1.1]
      exact ck_i (jb_i (by omega) (by omega)) (ck_i (lqt (by omega) (by omega)) (rd.2.2 _ (fun v16 S2 F2 G2 b2 e0 eo => ck_i (lqt (by omega) (by omega)) (tail _ _ v v16 S2 F2 G2 (by omega) (by omega) b2 e0 eo))))
    refine cn_i (fun _ => ?_) (fun _ => ?_)
    · refine ck_i (jb_i (by omega) (by omega)) (ck_i (jb_i (by omega) (by omega)) (ck_i (lqt (by omega) (by omega)) (law_25 hB (fun v S1 F1 G1 rd => ?_))))
      rw [rd.1, rd.2.1.1]
      exact ck_i (jb_i (by omega) (by omega)) (ck_i (jb_i (by omega) (by omega)) (ck_i (lqt (by omega) (by omega)) (rd.2.2 _ (fun v16 S2 F2 G2 b2 e0 eo => ck_i (lqt (by omega) (by omega)) (tail _ _ v v16 S2 F2 G2 (by omega) (by omega) b2 e0 eo)))))
    refine cn_i (fun _ => ?_) (fun _ => ?_)
    · refine ck_i (lqt (by omega) (by omega)) (law_26 hB (fun v S1 F1 G1 rd => ?_))
      exact ck_i (lqt (by omega) (by omega)) (rd.2.2 _ (fun v16 S2 F2 G2 b2 e0 eo => ck_i (lqt (by omega) (by omega)) (tail _ _ v v16 S2 F2 G2 (by omega) (by omega) b2 e0 eo)))
    refine cn_i (fun _ => ?_) (fun _ => ?_)
    · refine ck_i (jb_i (by omega) (by omega)) (ck_i (jb_i (by omega) (by omega)) (ck_i (lqt (by omega) (by omega)) (law_27 hB (fun v S1 F1 G1 rd => ?_))))
      rw [rd.1, rd.2.1.1]
      exact ck_i (jb_i (by omega) (by omega)) (ck_i (jb_i (by omega) (by omega)) (ck_i (lqt (by omega) (by omega)) (rd.2.2 _ (fun v16 S2 F2 G2 b2 e0 eo => ck_i (lqt (by omega) (by omega)) (tail _ _ v v16 S2 F2 G2 (by omega) (by omega) b2 e0 eo)))))
    refine cn_i (fun _ => ?_) (fun _ => ?_)
    · refine ck_i (jb_i (by omega) (by omega)) (ck_i (lqt (by omega) (by omega)) (law_28 hB (fun v S1 F1 G1 rd => ?_)))
      rw [rd.1, rd.2.1.1]
      exact ck_i (jb_i (by omega) (by omega)) (ck_i (lqt (by omega) (by omega)) (rd.2.2 _ (fun v16 S2 F2 G2 b2 e0 eo => ck_i (lqt (by omega) (by omega)) (tail _ _ v v16 S2 F2 G2 (by omega) (by omega) b2 e0 eo))))
    refine cn_i (fun _ => ?_) (fun _ => ?_)
    · refine ck_i (jb_i (by omega) (by omega)) (ck_i (lqt (by omega) (by omega)) (law_29 hB (fun v S1 F1 G1 rd => ?_)))
      rw [rd.1, rd.2.1.1]
      exact ck_i (jb_i (by omega) (by omega)) (ck_i (lqt (by omega) (by omega)) (rd.2.2 _ (fun v16 S2 F2 G2 b2 e0 eo => ck_i (lqt (by omega) (by omega)) (tail _ _ v v16 S2 F2 G2 (by omega) (by omega) b2 e0 eo))))
    refine cn_i (fun _ => ?_) (fun _ => ?_)
    · refine ck_i (jb_i (by omega) (by omega)) (ck_i (jb_i (by omega) (by omega)) (ck_i (jb_i (by omega) (by omega)) (ck_i (lqt (by omega) (by omega)) (law_30 hB (fun v S1 F1 G1 rd => ?_)))))
      rw [rd.1, rd.2.1.1]
      exact ck_i (jb_i (by omega) (by omega)) (ck_i (jb_i (by omega) (by omega)) (ck_i (jb_i (by omega) (by omega)) (ck_i (lqt (by omega) (by omega)) (rd.2.2 _ (fun v16 S2 F2 G2 b2 e0 eo => ck_i (lqt (by omega) (by omega)) (tail _ _ v v16 S2 F2 G2 (by omega) (by omega) b2 e0 eo))))))
    refine cn_i (fun _ => ?_) (fun _ => ?_)
    · refine ck_i (jb_i (by omega) (by omega)) (ck_i (jb_i (by omega) (by omega)) (ck_i (jb_i (by omega) (by omega)) (ck_i (lqt (by omega) (by omega)) (law_31 hB (fun v S1 F1 G1 rd => ?_)))))
      rw [rd.1, rd.2.1.1]
      exact ck_i (jb_i (by omega) (by omega)) (ck_i (jb_i (by omega) (by omega)) (ck_i (jb_i (by omega) (by omega)) (ck_i (lqt (by omega) (by omega)) (rd.2.2 _ (fun v16 S2 F2 G2 b2 e0 eo => ck_i (lqt (by omega) (by omega)) (tail _ _ v v16 S2 F2 G2 (by omega) (by omega) b2 e0 eo))))))
    refine cn_i (fun _ => ?_) (fun _ => ?_)
    · refine ck_i (jb_i (by omega) (by omega)) (ck_i (jb_i (by omega) (by omega)) (ck_i (jb_i (by omega) (by omega)) (ck_i (lqt (by omega) (by omega)) (law_32 hB (fun v S1 F1 G1 rd => ?_)))))
      rw [rd.1, rd.2.1.1]
      exact ck_i (jb_i (by omega) (by omega)) (ck_i (jb_i (by omega) (by omega)) (ck_i (jb_i (by omega) (by omega)) (ck_i (lqt (by omega) (by omega)) (rd.2.2 _ (fun v16 S2 F2 G2 b2 e0 eo => ck_i (lqt (by omega) (by omega)) (tail _ _ v v16 S2 F2 G2 (by omega) (by omega) b2 e0 eo))))))
    refine cn_i (fun _ => ?_) (fun _ => ?_)
    · refine ck_i (jb_i (by omega) (by omega)) (ck_i (lqt (by omega) (by omega)) (law_33 hB (fun v S1 F1 G1 rd => ?_)))
      rw [rd.1, rd.2.1.1]
      exact ck_i (jb_i (by omega) (by omega)) (ck_i (lqt (by omega) (by omega)) (rd.2.2 _ (fun v16 S2 F2 G2 b2 e0 eo => ck_i (lqt (by omega) (by omega)) (tail _ _ v v16 S2 F2 G2 (by omega) (by omega) b2 e0 eo))))
    refine cn_i (fun _ => ?_) (fun _ => ?_)
    · refine ck_i (jb_i (by omega) (by omega)) (ck_i (lqt (by omega) (by omega)) (law_34 hB (fun v S1 F1 G1 rd => ?_)))
      rw [rd.1, rd.2.1.1]
      exact ck_i (jb_i (by omega) (by omega)) (ck_i (lqt (by omega) (by omega)) (rd.2.2 _ (fun v16 S2 F2 G2 b2 e0 eo => ck_i (lqt (by omega) (by omega)) (tail _ _ v v16 S2 F2 G2 (by omega) (by omega) b2 e0 eo))))
    refine cn_i (fun _ => ?_) (fun _ => ?_)
    · refine ck_i (jb_i (by omega) (by omega)) (ck_i (lqt (by omega) (by omega)) (law_35 hB (fun v S1 F1 G1 rd => ?_)))
      rw [rd.1, rd.2.1.1]
      exact ck_i (jb_i (by omega) (by omega)) (ck_i (lqt (by omega) (by omega)) (rd.2.2 _ (fun v16 S2 F2 G2 b2 e0 eo => ck_i (lqt (by omega) (by omega)) (tail _ _ v v16 S2 F2 G2 (by omega) (by omega) b2 e0 eo))))
    refine cn_i (fun _ => ?_) (fun _ => ?_)
    · refine ck_i (jb_i (by omega) (by omega)) (ck_i (lqt (by omega) (by omega)) (law_36 hB (fun v S1 F1 G1 rd => ?_)))
      rw [rd.1, rd.2.1.1]
      exact ck_i (jb_i (by omega) (by omega)) (ck_i (lqt (by omega) (by omega)) (rd.2.2 _ (fun v16 S2 F2 G2 b2 e0 eo => ck_i (lqt (by omega) (by omega)) (tail _ _ v v16 S2 F2 G2 (by omega) (by omega) b2 e0 eo))))
    refine cn_i (fun _ => ?_) (fun _ => ?_)
    · refine ck_i (jb_i (by omega) (by omega)) (ck_i (jb_i (by omega) (by omega)) (ck_i (jb_i (by omega) (by omega)) (ck_i (lqt (by omega) (by omega)) (law_37 hB (fun v S1 F1 G1 rd => ?_)))))
      rw [rd.1, rd.2.1.1]
      exact ck_i (jb_i (by omega) (by omega)) (ck_i (jb_i (by omega) (by omega)) (ck_i (jb_i (by omega) (by omega)) (ck_i (lqt (by omega) (by omega)) (rd.2.2 _ (fun v16 S2 F2 G2 b2 e0 eo => ck_i (lqt (by omega) (by omega)) (tail _ _ v v16 S2 F2 G2 (by omega) (by omega) b2 e0 eo))))))
    refine cn_i (fun _ => ?_) (fun _ => ?_)
    · refine ck_i (lqt (by omega) (by omega)) (law_38 hB (fun v S1 F1 G1 rd => ?_))
      exact ck_i (lqt (by omega) (by omega)) (rd.2.2 _ (fun v16 S2 F2 G2 b2 e0 eo => ck_i (lqt (by omega) (by omega)) (tail _ _ v v16 S2 F2 G2 (by omega) (by omega) b2 e0 eo)))
    refine cn_i (fun _ => ?_) (fun _ => ?_)
    · refine ck_i (lqt (by omega) (by omega)) (law_39 hB (fun v S1 F1 G1 rd => ?_))
      exact ck_i (lqt (by omega) (by omega)) (rd.2.2 _ (fun v16 S2 F2 G2 b2 e0 eo => ck_i (lqt (by omega) (by omega)) (tail _ _ v v16 S2 F2 G2 (by omega) (by omega) b2 e0 eo)))
    refine cn_i (fun _ => ?_) (fun _ => ?_)
    · refine ck_i (jb_i (by omega) (by omega)) (ck_i (jb_i (by omega) (by omega)) (ck_i (lqt (by omega) (by omega)) (law_40 hB (fun v S1 F1 G1 rd => ?_))))
      rw [rd.1, rd.2.1.1]
      exact ck_i (jb_i (by omega) (by omega)) (ck_i (jb_i (by omega) (by omega)) (ck_i (lqt (by omega) (by omega)) (rd.2.2 _ (fun v16 S2 F2 G2 b2 e0 eo => ck_i (lqt (by omega) (by omega)) (tail _ _ v v16 S2 F2 G2 (by omega) (by omega) b2 e0 eo)))))
    refine cn_i (fun _ => ?_) (fun _ => ?_)
    · refine ck_i (jb_i (by omega) (by omega)) (ck_i (lqt (by omega) (by omega)) (law_41 hB (fun v S1 F1 G1 rd => ?_)))
      rw [rd.1, rd.2.1.1]
      exact ck_i (jb_i (by omega) (by omega)) (ck_i (lqt (by omega) (by omega)) (rd.2.2 _ (fun v16 S2 F2 G2 b2 e0 eo => ck_i (lqt (by omega) (by omega)) (tail _ _ v v16 S2 F2 G2 (by omega) (by omega) b2 e0 eo))))
    refine cn_i (fun _ => ?_) (fun _ => ?_)
    · refine ck_i (jb_i (by omega) (by omega)) (ck_i (jb_i (by omega) (by omega)) (ck_i (lqt (by omega) (by omega)) (law_42 hB (fun v S1 F1 G1 rd => ?_))))
      rw [rd.1, rd.2.1.1]
      exact ck_i (jb_i (by omega) (by omega)) (ck_i (jb_i (by omega) (by omega)) (ck_i (lqt (by omega) (by omega)) (rd.2.2 _ (fun v16 S2 F2 G2 b2 e0 eo => ck_i (lqt (by omega) (by omega)) (tail _ _ v v16 S2 F2 G2 (by omega) (by omega) b2 e0 eo)))))
    refine cn_i (fun _ => ?_) (fun _ => ?_)
    · refine ck_i (jb_i (by omega) (by omega)) (ck_i (jb_i (by omega) (by omega)) (ck_i (lqt (by omega) (by omega)) (law_43 hB (fun v S1 F1 G1 rd => ?_))))
      rw [rd.1, rd.2.1.1]
      exact ck_i (jb_i (by omega) (by omega)) (ck_i (jb_i (by omega) (by omega)) (ck_i (lqt (by omega) (by omega)) (rd.2.2 _ (fun v16 S2 F2 G2 b2 e0 eo => ck_i (lqt (by omega) (by omega)) (tail _ _ v v16 S2 F2 G2 (by omega) (by omega) b2 e0 eo)))))
    refine cn_i (fun _ => ?_) (fun _ => ?_)
    · refine ck_i (lqt (by omega) (by omega)) (law_44 hB (fun v S1 F1 G1 rd => ?_))
      exact ck_i (lqt (by omega) (by omega)) (rd.2.2 _ (fun v16 S2 F2 G2 b2 e0 eo => ck_i (lqt (by omega) (by omega)) (tail _ _ v v16 S2 F2 G2 (by omega) (by omega) b2 e0 eo)))
    refine cn_i (fun _ => ?_) (fun _ => ?_)
    · refine ck_i (lqt (by omega) (by omega)) (law_45 hB (fun v S1 F1 G1 rd => ?_))
      exact ck_i (lqt (by omega) (by omega)) (rd.2.2 _ (fun v16 S2 F2 G2 b2 e0 eo => ck_i (lqt (by omega) (by omega)) (tail _ _ v v16 S2 F2 G2 (by omega) (by omega) b2 e0 eo)))
    refine cn_i (fun _ => ?_) (fun _ => ?_)
    · refine ck_i (lqt (by omega) (by omega)) (law_46 hB (fun v S1 F1 G1 rd => ?_))
      exact ck_i (lqt (by omega) (by omega)) (rd.2.2 _ (fun v16 S2 F2 G2 b2 ev => cd_t ev.symm (nxt _ _ S2 F2 G2 (by omega) (by omega) b2)))
    refine cn_i (fun _ => ?_) (fun _ => ?_)
    · refine ck_i (lqt (by omega) (by omega)) (law_47 hB (fun v S1 F1 G1 rd => ?_))
      exact ck_i (lqt (by omega) (by omega)) (rd.2.2 _ (fun v16 S2 F2 G2 b2 ev => cd_t ev.symm (nxt _ _ S2 F2 G2 (by omega) (by omega) b2)))
    refine cn_i (fun _ => ?_) (fun _ => ?_)
    · refine ck_i (jb_i (by omega) (by omega)) (ck_i (lqt (by omega) (by omega)) (law_48 hB (fun v S1 F1 G1 rd => ?_)))
      rw [rd.1, rd.2.1.1]
      exact ck_i (jb_i (by omega) (by omega)) (ck_i (lqt (by omega) (by omega)) (rd.2.2 _ (fun v16 S2 F2 G2 b2 ev => cd_t ev.symm (nxt _ _ S2 F2 G2 (by omega) (by omega) b2))))
    refine cn_i (fun _ => ?_) (fun _ => ?_)
    · refine ck_i (jb_i (by omega) (by omega)) (ck_i (lqt (by omega) (by omega)) (law_49 hB (fun v S1 F1 G1 rd => ?_)))
      rw [rd.1, rd.2.1.1]
      exact ck_i (jb_i (by omega) (by omega)) (ck_i (lqt (by omega) (by omega)) (rd.2.2 _ (fun v16 S2 F2 G2 b2 ev => cd_t ev.symm (nxt _ _ S2 F2 G2 (by omega) (by omega) b2))))
    exact nxt _ _ S F G (by omega) (by omega) hB
