/-! ===== the law's loop: round by round ===== -/
theorem lqt {a b c d : Nat} (h1 : a ≤ b) (h2 : c ≤ d) : (lq a b c d && true) = true := by
  rw [Bool.and_true]
  unfold lq
  rw [nb h1, nb h2]
  rfl
def Rd2 (sc : Nat → Int) (n0 : Nat) (v : Int) (S1 : FS) (F1 : FI) (G1 : FJ) (cr : (Int → FS → FI → FJ → Prop) → Prop) : Prop := F1 1000000 = sc ∧ (S1 1000000 0 = n0 ∧ G1 = G1) ∧ ∀ K2 : Int → FS → FI → FJ → Prop, (∀ v16 S2 F2 G2, BI sc n0 S2 F2 G2 → F2 97 0 = v → (v = 0 → G2 128 0 = v16 ∧ (v16 = 0 ∨ v16 = 1)) → K2 v16 S2 F2 G2) → cr K2
theorem rd_rf2 {sc : Nat → Int} {n0 : Nat} {S : FS} {F : FI} {G : FJ} {a a' b b' i : Nat} {c : Int} {cr : (Int → FS → FI → FJ → Prop) → Prop} (h : BIa sc n0 S F G a a' b b') (hc : c ≠ 0) (run : ∀ K2 : Int → FS → FI → FJ → Prop, (∀ v, K2 v S (rfs (zF (rfc F i)) c i) G) → cr K2) : Rd2 sc n0 c S (rfc F i) G cr := by
  refine ⟨?_, ⟨h.2.2.1.2, rfl⟩, fun K2 hk => run K2 (fun v => hk v _ _ _ ⟨a, a', b, b', (BI_rf h i c).1⟩ (BI_rf h i c).2 (fun q => absurd q hc))⟩
  rw [rfc_h (G := G).1 1000000 (by decide)]
  exact h.2.2.1.1
theorem rd_ok2 {sc : Nat → Int} {n0 : Nat} {S S1 : FS} {F F1 : FI} {G G1 : FJ} {a a' b b' : Nat} {v : Int} {cr : (Int → FS → FI → FJ → Prop) → Prop} (hv : v = 0 ∨ v = 1) (h : BIa sc n0 S F G a a' b b') (hn : F 97 12 ≠ 0) (y : YK S1 F1 G1 a b (F 100) (F 112) (mL F)) (q : QC S S1 F F1 G G1) (run : Hi F F1 G G1 → MV F1 (u2 G1 128 0 v) → F1 97 12 ≠ 0 → ∀ K2 : Int → FS → FI → FJ → Prop, (∀ F2 G2 v2, QP F1 F2 (u2 G1 128 0 v) G2 → v2 = v → K2 v2 S1 F2 G2) → cr K2) : Rd2 sc n0 0 S1 F1 (u2 G1 128 0 v) cr := by
  obtain ⟨h1, hi⟩ := BI_cls h hn y q
  have h2 := BI_out v h1
  have n1 : F1 97 12 ≠ 0 := by rw [hi.1 97 (by decide)]; exact hn
  refine ⟨h2.2.2.1.1, ⟨h2.2.2.1.2, rfl⟩, fun K2 hk => run hi (BI_MV h2 n1) n1 K2 (fun F2 G2 v2 qp ev => ?_)⟩
  obtain ⟨b1, b2, b3⟩ := BI_ref h2 n1 qp
  exact hk v2 _ _ _ ⟨a, a', b, b', b1⟩ b2 (fun _ => ⟨by rw [b3, u2_s, ev], by rw [ev]; exact hv⟩)
set_option maxRecDepth 100000 in
theorem law_30b {K : Int → FS → FI → FJ → Prop} {sc : Nat → Int} {n0 : Nat} {x1 x2 x3 : Int} {S : FS} {F : FI} {G : FJ} (hB : BI sc n0 S F G) (hk : ∀ v S1 F1 G1, Rd2 sc n0 v S1 F1 G1 (fun K2 => calI 7 176 [.inr (.inr (.inl 97)), .inl x1, .inl x2, .inl x3] (mm S1 F1 G1) K2 nof) → K v S1 F1 G1) : calI 6 325 [.inr (.inr (.inl 1)), .inl x1, .inl x2, .inl x3, .inr (.inr (.inl 128))] (mm S F G) K nof := by
  obtain ⟨a, a', b, b', h⟩ := hB
  have nine := BI_9 h
  have hM := BI_MV h
  refine sg_325_0 (p_31 (l := F 100) (s := F 112) (w := mL F) (F0 := F) ⟨rfl, rfl, rfl⟩ ⟨h.1.1.1, h.1.2.2.1⟩ (fun q => (nine.2 q).2) (fun q => ex_3 ⟨_, _, _, rfl, hk 2 _ _ _ (rd_rf2 h (by decide) (fun K2 hK => ?_))⟩) (fun q n => ex_2 ⟨_, _, _, rfl, hk 1 _ _ _ (rd_rf2 h (by decide) (fun K2 hK => ?_))⟩) (fun q A S1 F1 G1 v y qc ev => ?_))
  · have hi : Hi F (rfc F 3) G G := rfc_h
    have e97 := hi.1 97 (by decide)
    have z := nine.1.mp q
    exact q_176 (fun q => by rw [e97] at q; exact Hi_MV hi (hM q)) (fun _ => hK _) (fun n => absurd (by rw [e97]; exact z) n) (fun n => absurd (by rw [e97]; exact z) n)
  · have hi : Hi F (rfc F 2) G G := rfc_h
    have e97 := hi.1 97 (by decide)
    have e100 := hi.1 100 (by decide)
    have z := (nine.2 q).1
    exact q_176 (fun q => by rw [e97] at q; exact Hi_MV hi (hM q)) (fun n => absurd (by rw [e97] at n; exact n) z) (fun _ _ => hK _) (fun _ A => absurd (by rw [e100] at A; exact A) n)
  · have fin : ∀ v', ((v' = 1 ∧ sTrp F x2 x1 x3) ∨ (v' = 0 ∧ ¬ sTrp F x2 x1 x3)) → Rd2 sc n0 0 S1 F1 (u2 G1 128 0 v') (fun K2 => calI 7 176 [.inr (.inr (.inl 97)), .inl x1, .inl x2, .inl x3] (mm S1 F1 (u2 G1 128 0 v')) K2 nof) := by
      intro v' ev
      refine rd_ok2 (ev.elim (fun q => Or.inr q.1) (fun q => Or.inl q.1)) h (nine.2 q).1 y qc (fun hi mv n1 K2 hK => ?_)
      have e100 := hi.1 100 (by decide)
      have hz : piF (zF F1) = piF F := (pi_e ⟨z_n (by decide), z_n (by decide), z_f (by decide), z_n (by decide), z_n (by decide), z_n (by decide), z_n (by decide)⟩).trans (Hi_pi hi)
      have et : sTrp (zF F1) = sTrp F := by rw [← pi_Trp (zF F1), hz, pi_Trp]
      refine q_176 (fun _ => mv) (fun n => absurd n n1) (fun _ n => absurd A (by rw [e100] at n; exact n)) (fun _ _ F2 G2 v2 qp ev2 => hK F2 G2 v2 qp ?_)
      rw [et] at ev2
      rcases ev with ⟨e1, e2⟩ | ⟨e1, e2⟩ <;> rcases ev2 with ⟨e3, e4⟩ | ⟨e3, e4⟩
      · rw [e1, e3]
      · exact absurd e2 e4
      · exact absurd e4 e2
      · rw [e1, e3]
    rcases ev with ⟨e1, e2⟩ | ⟨e1, e2⟩ <;> subst e1
    · exact cd_f (by decide) ⟨_, _, _, rfl, hk 0 _ _ _ (fin 1 (Or.inl ⟨rfl, e2⟩))⟩
    · exact cd_t rfl ⟨_, _, _, rfl, hk 0 _ _ _ (fin 0 (Or.inr ⟨rfl, e2⟩))⟩
set_option maxRecDepth 100000 in
theorem law_run {Q : Rs → Mm → Prop} {sc : Nat → Int} {n0 : Nat} (hn : n0 ≤ 3072) (hq : ∀ S F G, Q (.inl (some (.inl 1))) (mm S F G)) : ∀ (K : Nat) (x4 : Int) (c1 c2 : Nat) (S : FS) (F : FI) (G : FJ), (n0 : Int) - x4 < 6 * K + 6 → 0 ≤ x4 → x4 ≤ 4000 → c1 + 4 * K ≤ 600000 → c2 + 24 * K ≤ 7000000 → BI sc n0 S F G → wph 2000 341 23 [.inr (.inr (.inl 1000000)), .inr (.inr (.inl 1)), .inr (.inr (.inl 97)), .inr (.inr (.inl 128)), .inl x4] [] (mm S F G) (c1, c2) Q := by
  intro K
  induction K with
  | zero =>
    intro x4 c1 c2 S F G hK h0 h4 hc1 hc2 hB
    have hs : S 1000000 0 = n0 := by
      obtain ⟨a, a', b, b', h⟩ := hB
      exact h.2.2.1.2
    refine sg_law (cd_t ?_ (hq S F G))
    rw [hs, wr_id (by omega) (by omega)]
    omega
  | succ K ih =>
    intro x4 c1 c2 S F G hK h0 h4 hc1 hc2 hB
    have hs : F 1000000 = sc ∧ S 1000000 0 = n0 := by
      obtain ⟨a, a', b, b', h⟩ := id hB
      exact h.2.2.1
    refine sg_law ?_
    rw [hs.1, hs.2, wr_id (a := (n0 : Int) - 6) (by omega) (by omega)]
    refine cn_i (fun _ => hq S F G) (fun le => ck_i (jb_i h0 (by omega)) ?_)
    have nxt : ∀ (a b : Nat) (S2 : FS) (F2 : FI) (G2 : FJ), a ≤ c1 + 4 → b ≤ c2 + 24 → BI sc n0 S2 F2 G2 → wph 2000 341 23 [.inr (.inr (.inl 1000000)), .inr (.inr (.inl 1)), .inr (.inr (.inl 97)), .inr (.inr (.inl 128)), .inl (wr (x4 + 6))] [] (mm S2 F2 G2) (a, b) Q := by
      intro a b S2 F2 G2 ha hb b2
      rw [wr_id (by omega) (by omega)]
      exact ih (x4 + 6) a b S2 F2 G2 (by omega) (by omega) (by omega) (by omega) (by omega) b2
    have tail : ∀ (a b : Nat) (v v16 : Int) (S2 : FS) (F2 : FI) (G2 : FJ), a ≤ c1 + 4 → b ≤ c2 + 24 → BI sc n0 S2 F2 G2 → F2 97 0 = v → (v = 0 → G2 128 0 = v16) → calI 0 68 [.inr (.inr (.inl 97))] (mm S2 F2 G2) (fun v17 S17 F17 G17 => cnd (decide (v17 = v)) (cnd (decide (v = 0)) (cnd (decide (lc (G17 128 0) v16 = 0)) (wph 2000 341 23 [.inr (.inr (.inl 1000000)), .inr (.inr (.inl 1)), .inr (.inr (.inl 97)), .inr (.inr (.inl 128)), .inl (wr (x4 + 6))] [] (mm S17 F17 G17) (a, b) Q) (Q (.inl (some (.inl 0))) (mm S17 F17 G17))) (wph 2000 341 23 [.inr (.inr (.inl 1000000)), .inr (.inr (.inl 1)), .inr (.inr (.inl 97)), .inr (.inr (.inl 128)), .inl (wr (x4 + 6))] [] (mm S17 F17 G17) (a, b) Q)) (Q (.inl (some (.inl 0))) (mm S17 F17 G17))) nof := by
      intro a b v v16 S2 F2 G2 ha hb b2 e0 eo
      refine q_68 (cd_t e0 (cn_i (fun z => cd_t ?_ (nxt a b S2 F2 G2 ha hb b2)) (fun _ => nxt a b S2 F2 G2 ha hb b2)))
      rw [eo z]
      exact lc_z.mpr rfl
    have tail30 : ∀ (a b : Nat) (v v16 : Int) (S2 : FS) (F2 : FI) (G2 : FJ), a ≤ c1 + 4 → b ≤ c2 + 24 → BI sc n0 S2 F2 G2 → F2 97 0 = v → (v = 0 → G2 128 0 = v16 ∧ (v16 = 0 ∨ v16 = 1)) → calI 0 68 [.inr (.inr (.inl 97))] (mm S2 F2 G2) (fun v17 S17 F17 G17 => cnd (decide (v17 = v)) (cnd (decide (v = 0)) (cnd (decide (v16 = 0)) (cnd (decide ((lc (G17 128 0) 0) = 0)) (wph 2000 341 23 [.inr (.inr (.inl 1000000)), .inr (.inr (.inl 1)), .inr (.inr (.inl 97)), .inr (.inr (.inl 128)), .inl (wr (x4 + 6))] [] (mm S17 F17 G17) (a, b) Q) (Q (.inl (some (.inl 0))) (mm S17 F17 G17))) (cnd (decide ((lc (G17 128 0) 1) = 0)) (wph 2000 341 23 [.inr (.inr (.inl 1000000)), .inr (.inr (.inl 1)), .inr (.inr (.inl 97)), .inr (.inr (.inl 128)), .inl (wr (x4 + 6))] [] (mm S17 F17 G17) (a, b) Q) (Q (.inl (some (.inl 0))) (mm S17 F17 G17)))) (wph 2000 341 23 [.inr (.inr (.inl 1000000)), .inr (.inr (.inl 1)), .inr (.inr (.inl 97)), .inr (.inr (.inl 128)), .inl (wr (x4 + 6))] [] (mm S17 F17 G17) (a, b) Q)) (Q (.inl (some (.inl 0))) (mm S17 F17 G17))) nof := by
      intro a b v v16 S2 F2 G2 ha hb b2 e0 eo
      refine q_68 (cd_t e0 (cn_i (fun z => ?_) (fun _ => nxt a b S2 F2 G2 ha hb b2)))
      obtain ⟨e1, e2⟩ := eo z
      refine cn_i (fun z1 => cd_t (lc_z.mpr ?_) (nxt a b S2 F2 G2 ha hb b2)) (fun z1 => cd_t (lc_z.mpr ?_) (nxt a b S2 F2 G2 ha hb b2)) <;> omega
    have w1 : wr (x4 + 1) = x4 + 1 := wr_id (by omega) (by omega)
    have w2 : wr (x4 + 2) = x4 + 2 := wr_id (by omega) (by omega)
    have w3 : wr (x4 + 3) = x4 + 3 := wr_id (by omega) (by omega)
    have w4 : wr (x4 + 4) = x4 + 4 := wr_id (by omega) (by omega)
    have w5 : wr (x4 + 5) = x4 + 5 := wr_id (by omega) (by omega)
    rw [w1, w2, w3, w4, w5]
    refine cn_i (fun _ => ?_) (fun _ => ?_)
    · refine ck_i (jb_i (by omega) (by omega)) (ck_i (jb_i (by omega) (by omega)) (ck_i (jb_i (by omega) (by omega)) (ck_i (jb_i (by omega) (by omega)) (ck_i (jb_i (by omega) (by omega)) (ck_i (lqt (by omega) (by omega)) (law_0 hB (fun v S1 F1 G1 rd => ?_)))))))
      rw [rd.1, rd.2.1.1]
      exact ck_i (jb_i (by omega) (by omega)) (ck_i (jb_i (by omega) (by omega)) (ck_i (jb_i (by omega) (by omega)) (ck_i (jb_i (by omega) (by omega)) (ck_i (jb_i (by omega) (by omega)) (ck_i (lqt (by omega) (by omega)) (rd.2.2 _ (fun v16 S2 F2 G2 b2 ev => cd_t ev.symm (nxt _ _ S2 F2 G2 (by omega) (by omega) b2))))))))
    refine cn_i (fun _ => ?_) (fun _ => ?_)
    · refine ck_i (jb_i (by omega) (by omega)) (ck_i (lqt (by omega) (by omega)) (law_1 hB (fun v S1 F1 G1 rd => ?_)))
      rw [rd.1, rd.2.1.1]
      exact ck_i (jb_i (by omega) (by omega)) (ck_i (lqt (by omega) (by omega)) (rd.2.2 _ (fun v16 S2 F2 G2 b2 e0 eo => ck_i (lqt (by omega) (by omega)) (tail _ _ v v16 S2 F2 G2 (by omega) (by omega) b2 e0 eo))))
    refine cn_i (fun _ => ?_) (fun _ => ?_)
    · refine ck_i (jb_i (by omega) (by omega)) (ck_i (lqt (by omega) (by omega)) (law_2 hB (fun v S1 F1 G1 rd => ?_)))
      rw [rd.1, rd.2.1.1]
      exact ck_i (jb_i (by omega) (by omega)) (ck_i (lqt (by omega) (by omega)) (rd.2.2 _ (fun v16 S2 F2 G2 b2 e0 eo => ck_i (lqt (by omega) (by omega)) (tail _ _ v v16 S2 F2 G2 (by omega) (by omega) b2 e0 eo))))
    refine cn_i (fun _ => ?_) (fun _ => ?_)
    · refine ck_i (lqt (by omega) (by omega)) (law_3 hB (fun v S1 F1 G1 rd => ?_))
      exact ck_i (lqt (by omega) (by omega)) (rd.2.2 _ (fun v16 S2 F2 G2 b2 ev => cd_t ev.symm (nxt _ _ S2 F2 G2 (by omega) (by omega) b2)))
    refine cn_i (fun _ => ?_) (fun _ => ?_)
    · refine ck_i (jb_i (by omega) (by omega)) (ck_i (lqt (by omega) (by omega)) (law_4 hB (fun v S1 F1 G1 rd => ?_)))
      rw [rd.1, rd.2.1.1]
      exact ck_i (jb_i (by omega) (by omega)) (ck_i (lqt (by omega) (by omega)) (rd.2.2 _ (fun v16 S2 F2 G2 b2 e0 eo => ck_i (lqt (by omega) (by omega)) (tail _ _ v v16 S2 F2 G2 (by omega) (by omega) b2 e0 eo))))
    refine cn_i (fun _ => ?_) (fun _ => ?_)
    · refine ck_i (jb_i (by omega) (by omega)) (ck_i (jb_i (by omega) (by omega)) (ck_i (lqt (by omega) (by omega)) (law_5 hB (fun v S1 F1 G1 rd => ?_))))
      rw [rd.1, rd.2.1.1]
      exact ck_i (jb_i (by omega) (by omega)) (ck_i (jb_i (by omega) (by omega)) (ck_i (lqt (by omega) (by omega)) (rd.2.2 _ (fun v16 S2 F2 G2 b2 e0 eo => ck_i (lqt (by omega) (by omega)) (tail _ _ v v16 S2 F2 G2 (by omega) (by omega) b2 e0 eo)))))
    refine cn_i (fun _ => ?_) (fun _ => ?_)
    · refine ck_i (jb_i (by omega) (by omega)) (ck_i (jb_i (by omega) (by omega)) (ck_i (lqt (by omega) (by omega)) (law_6 hB (fun v S1 F1 G1 rd => ?_))))
      rw [rd.1, rd.2.1.1]
      exact ck_i (jb_i (by omega) (by omega)) (ck_i (jb_i (by omega) (by omega)) (ck_i (lqt (by omega) (by omega)) (rd.2.2 _ (fun v16 S2 F2 G2 b2 e0 eo => ck_i (lqt (by omega) (by omega)) (tail _ _ v v16 S2 F2 G2 (by omega) (by omega) b2 e0 eo)))))
    refine cn_i (fun _ => ?_) (fun _ => ?_)
    · refine ck_i (jb_i (by omega) (by omega)) (ck_i (jb_i (by omega) (by omega)) (ck_i (lqt (by omega) (by omega)) (law_7 hB (fun v S1 F1 G1 rd => ?_))))
      rw [rd.1, rd.2.1.1]
      exact ck_i (jb_i (by omega) (by omega)) (ck_i (jb_i (by omega) (by omega)) (ck_i (lqt (by omega) (by omega)) (rd.2.2 _ (fun v16 S2 F2 G2 b2 e0 eo => ck_i (lqt (by omega) (by omega)) (tail _ _ v v16 S2 F2 G2 (by omega) (by omega) b2 e0 eo)))))
    refine cn_i (fun _ => ?_) (fun _ => ?_)
    · refine ck_i (jb_i (by omega) (by omega)) (ck_i (jb_i (by omega) (by omega)) (ck_i (lqt (by omega) (by omega)) (law_8 hB (fun v S1 F1 G1 rd => ?_))))
      rw [rd.1, rd.2.1.1]
      exact ck_i (jb_i (by omega) (by omega)) (ck_i (jb_i (by omega) (by omega)) (ck_i (lqt (by omega) (by omega)) (rd.2.2 _ (fun v16 S2 F2 G2 b2 e0 eo => ck_i (lqt (by omega) (by omega)) (tail _ _ v v16 S2 F2 G2 (by omega) (by omega) b2 e0 eo)))))
    refine cn_i (fun _ => ?_) (fun _ => ?_)
    · refine ck_i (jb_i (by omega) (by omega)) (ck_i (jb_i (by omega) (by omega)) (ck_i (lqt (by omega) (by omega)) (law_9 hB (fun v S1 F1 G1 rd => ?_))))
      rw [rd.1, rd.2.1.1]
      exact ck_i (jb_i (by omega) (by omega)) (ck_i (jb_i (by omega) (by omega)) (ck_i (lqt (by omega) (by omega)) (rd.2.2 _ (fun v16 S2 F2 G2 b2 e0 eo => ck_i (lqt (by omega) (by omega)) (tail _ _ v v16 S2 F2 G2 (by omega) (by omega) b2 e0 eo)))))
    refine cn_i (fun _ => ?_) (fun _ => ?_)
    · refine ck_i (jb_i (by omega) (by omega)) (ck_i (lqt (by omega) (by omega)) (law_10 hB (fun v S1 F1 G1 rd => ?_)))
      rw [rd.1, rd.2.1.1]
      exact ck_i (jb_i (by omega) (by omega)) (ck_i (lqt (by omega) (by omega)) (rd.2.2 _ (fun v16 S2 F2 G2 b2 e0 eo => ck_i (lqt (by omega) (by omega)) (tail _ _ v v16 S2 F2 G2 (by omega) (by omega) b2 e0 eo))))
    refine cn_i (fun _ => ?_) (fun _ => ?_)
    · refine ck_i (jb_i (by omega) (by omega)) (ck_i (lqt (by omega) (by omega)) (law_11 hB (fun v S1 F1 G1 rd => ?_)))
      rw [rd.1, rd.2.1.1]
      exact ck_i (jb_i (by omega) (by omega)) (ck_i (lqt (by omega) (by omega)) (rd.2.2 _ (fun v16 S2 F2 G2 b2 e0 eo => ck_i (lqt (by omega) (by omega)) (tail _ _ v v16 S2 F2 G2 (by omega) (by omega) b2 e0 eo))))
    refine cn_i (fun _ => ?_) (fun _ => ?_)
    · refine ck_i (jb_i (by omega) (by omega)) (ck_i (jb_i (by omega) (by omega)) (ck_i (jb_i (by omega) (by omega)) (ck_i (lqt (by omega) (by omega)) (law_12 hB (fun v S1 F1 G1 rd => ?_)))))
      rw [rd.1, rd.2.1.1]
      exact ck_i (jb_i (by omega) (by omega)) (ck_i (jb_i (by omega) (by omega)) (ck_i (jb_i (by omega) (by omega)) (ck_i (lqt (by omega) (by omega)) (rd.2.2 _ (fun v16 S2 F2 G2 b2 e0 eo => ck_i (lqt (by omega) (by omega)) (tail _ _ v v16 S2 F2 G2 (by omega) (by omega) b2 e0 eo))))))
    refine cn_i (fun _ => ?_) (fun _ => ?_)
    · refine ck_i (jb_i (by omega) (by omega)) (ck_i (jb_i (by omega) (by omega)) (ck_i (jb_i (by omega) (by omega)) (ck_i (lqt (by omega) (by omega)) (law_13 hB (fun v S1 F1 G1 rd => ?_)))))
      rw [rd.1, rd.2.1.1]
      exact ck_i (jb_i (by omega) (by omega)) (ck_i (jb_i (by omega) (by omega)) (ck_i (jb_i (by omega) (by omega)) (ck_i (lqt (by omega) (by omega)) (rd.2.2 _ (fun v16 S2 F2 G2 b2 e0 eo => ck_i (lqt (by omega) (by omega)) (tail _ _ v v16 S2 F2 G2 (by omega) (by omega) b2 e0 eo))))))
    refine cn_i (fun _ => ?_) (fun _ => ?_)
    · refine ck_i (jb_i (by omega) (by omega)) (ck_i (jb_i (by omega) (by omega)) (ck_i (jb_i (by omega) (by omega)) (ck_i (jb_i (by omega) (by omega)) (ck_i (lqt (by omega) (by omega)) (law_14 hB (fun v S1 F1 G1 rd => ?_))))))
      rw [rd.1, rd.2.1.1]
      exact ck_i (jb_i (by omega) (by omega)) (ck_i (jb_i (by omega) (by omega)) (ck_i (jb_i (by omega) (by omega)) (ck_i (jb_i (by omega) (by omega)) (ck_i (lqt (by omega) (by omega)) (rd.2.2 _ (fun v16 S2 F2 G2 b2 e0 eo => ck_i (lqt (by omega) (by omega)) (tail _ _ v v16 S2 F2 G2 (by omega) (by omega) b2 e0 eo)))))))
    refine cn_i (fun _ => ?_) (fun _ => ?_)
    · refine ck_i (jb_i (by omega) (by omega)) (ck_i (lqt (by omega) (by omega)) (law_15 hB (fun v S1 F1 G1 rd => ?_)))
      rw [rd.1, rd.2.1.1]
      exact ck_i (jb_i (by omega) (by omega)) (ck_i (lqt (by omega) (by omega)) (rd.2.2 _ (fun v16 S2 F2 G2 b2 e0 eo => ck_i (lqt (by omega) (by omega)) (tail _ _ v v16 S2 F2 G2 (by omega) (by omega) b2 e0 eo))))
    refine cn_i (fun _ => ?_) (fun _ => ?_)
    · refine ck_i (lqt (by omega) (by omega)) (law_16 hB (fun v S1 F1 G1 rd => ?_))
      exact ck_i (lqt (by omega) (by omega)) (rd.2.2 _ (fun v16 S2 F2 G2 b2 e0 eo => ck_i (lqt (by omega) (by omega)) (tail _ _ v v16 S2 F2 G2 (by omega) (by omega) b2 e0 eo)))
    refine cn_i (fun _ => ?_) (fun _ => ?_)
    · refine ck_i (jb_i (by omega) (by omega)) (ck_i (lqt (by omega) (by omega)) (law_17 hB (fun v S1 F1 G1 rd => ?_)))
      rw [rd.1, rd.2.1.1]
      exact ck_i (jb_i (by omega) (by omega)) (ck_i (lqt (by omega) (by omega)) (rd.2.2 _ (fun v16 S2 F2 G2 b2 e0 eo => ck_i (lqt (by omega) (by omega)) (tail _ _ v v16 S2 F2 G2 (by omega) (by omega) b2 e0 eo))))
    refine cn_i (fun _ => ?_) (fun _ => ?_)
    · refine ck_i (jb_i (by omega) (by omega)) (ck_i (lqt (by omega) (by omega)) (law_18 hB (fun v S1 F1 G1 rd => ?_)))
      rw [rd.1, rd.2.1.1]
      exact ck_i (jb_i (by omega) (by omega)) (ck_i (lqt (by omega) (by omega)) (rd.2.2 _ (fun v16 S2 F2 G2 b2 e0 eo => ck_i (lqt (by omega) (by omega)) (tail _ _ v v16 S2 F2 G2 (by omega) (by omega) b2 e0 eo))))
    refine cn_i (fun _ => ?_) (fun _ => ?_)
    · refine ck_i (jb_i (by omega) (by omega)) (ck_i (jb_i (by omega) (by omega)) (ck_i (lqt (by omega) (by omega)) (law_19 hB (fun v S1 F1 G1 rd => ?_))))
      rw [rd.1, rd.2.1.1]
      exact ck_i (jb_i (by omega) (by omega)) (ck_i (jb_i (by omega) (by omega)) (ck_i (lqt (by omega) (by omega)) (rd.2.2 _ (fun v16 S2 F2 G2 b2 e0 eo => ck_i (lqt (by omega) (by omega)) (tail _ _ v v16 S2 F2 G2 (by omega) (by omega) b2 e0 eo)))))
    refine cn_i (fun _ => ?_) (fun _ => ?_)
    · refine ck_i (lqt (by omega) (by omega)) (law_20 hB (fun v S1 F1 G1 rd => ?_))
      exact ck_i (lqt (by omega) (by omega)) (rd.2.2 _ (fun v16 S2 F2 G2 b2 ev => cd_t ev.symm (nxt _ _ S2 F2 G2 (by omega) (by omega) b2)))
    refine cn_i (fun _ => ?_) (fun _ => ?_)
    · refine ck_i (jb_i (by omega) (by omega)) (ck_i (lqt (by omega) (by omega)) (law_21 hB (fun v S1 F1 G1 rd => ?_)))
      rw [rd.1, rd.2.1.1]
      exact ck_i (jb_i (by omega) (by omega)) (ck_i (lqt (by omega) (by omega)) (rd.2.2 _ (fun v16 S2 F2 G2 b2 e0 eo => ck_i (lqt (by omega) (by omega)) (tail _ _ v v16 S2 F2 G2 (by omega) (by omega) b2 e0 eo))))
    refine cn_i (fun _ => ?_) (fun _ => ?_)
    · refine ck_i (lqt (by omega) (by omega)) (law_22 hB (fun v S1 F1 G1 rd => ?_))
      exact ck_i (lqt (by omega) (by omega)) (rd.2.2 _ (fun v16 S2 F2 G2 b2 ev => cd_t ev.symm (nxt _ _ S2 F2 G2 (by omega) (by omega) b2)))
    refine cn_i (fun _ => ?_) (fun _ => ?_)
    · refine ck_i (lqt (by omega) (by omega)) (law_23 hB (fun v S1 F1 G1 rd => ?_))
      exact ck_i (lqt (by omega) (by omega)) (rd.2.2 _ (fun v16 S2 F2 G2 b2 e0 eo => ck_i (lqt (by omega) (by omega)) (tail _ _ v v16 S2 F2 G2 (by omega) (by omega) b2 e0 eo)))
    refine cn_i (fun _ => ?_) (fun _ => ?_)
    · refine ck_i (jb_i (by omega) (by omega)) (ck_i (lqt (by omega) (by omega)) (law_24 hB (fun v S1 F1 G1 rd => ?_)))
      rw [rd.1, rd.2.1.1]
      exact ck_i (jb_i (by omega) (by omega)) (ck_i (lqt (by omega) (by omega)) (rd.2.2 _ (fun v16 S2 F2 G2 b2 e0 eo => ck_i (lqt (by omega) (by omega)) (tail _ _ v v16 S2 F2 G2 (by omega) (by omega) b2 e0 eo))))
    refine cn_i (fun _ => ?_) (fun _ => ?_)
    · refine ck_i (jb_i (by omega) (by omega)) (ck_i (jb_i (by omega) (by omega)) (ck_i (lqt (by omega) (by omega)) (law_25 hB (fun v S1 F1 G1 rd => ?_))))
      rw [rd.1, rd.2.1.1]
      exact ck_i (jb_i (by omega) (by omega)) (ck_i (jb_i (by omega) (by omega)) (ck_i (lqt (by omega) (by omega)) (rd.2.2 _ (fun v16 S2 F2 G2 b2 e0 eo => ck_i (lqt (by omega) (by omega)) (tail _ _ v v16 S2 F2 G2 (by omega) (by omega) b2 e0 eo)))))
    refine cn_i (fun _ => ?_) (fun _ => ?_)
    · refine ck_i (lqt (by omega) (by omega)) (law_26 hB (fun v S1 F1 G1 rd => ?_))
      exact ck_i (lqt (by omega) (by omega)) (rd.2.2 _ (fun v16 S2 F2 G2 b2 e0 eo => ck_i (lqt (by omega) (by omega)) (tail _ _ v v16 S2 F2 G2 (by omega) (by omega) b2 e0 eo)))
    refine cn_i (fun _ => ?_) (fun _ => ?_)
    · refine ck_i (jb_i (by omega) (by omega)) (ck_i (jb_i (by omega) (by omega)) (ck_i (lqt (by omega) (by omega)) (law_27 hB (fun v S1 F1 G1 rd => ?_))))
      rw [rd.1, rd.2.1.1]
      exact ck_i (jb_i (by omega) (by omega)) (ck_i (jb_i (by omega) (by omega)) (ck_i (lqt (by omega) (by omega)) (rd.2.2 _ (fun v16 S2 F2 G2 b2 e0 eo => ck_i (lqt (by omega) (by omega)) (tail _ _ v v16 S2 F2 G2 (by omega) (by omega) b2 e0 eo)))))
    refine cn_i (fun _ => ?_) (fun _ => ?_)
    · refine ck_i (jb_i (by omega) (by omega)) (ck_i (lqt (by omega) (by omega)) (law_28 hB (fun v S1 F1 G1 rd => ?_)))
      rw [rd.1, rd.2.1.1]
      exact ck_i (jb_i (by omega) (by omega)) (ck_i (lqt (by omega) (by omega)) (rd.2.2 _ (fun v16 S2 F2 G2 b2 e0 eo => ck_i (lqt (by omega) (by omega)) (tail _ _ v v16 S2 F2 G2 (by omega) (by omega) b2 e0 eo))))
    refine cn_i (fun _ => ?_) (fun _ => ?_)
    · refine ck_i (jb_i (by omega) (by omega)) (ck_i (lqt (by omega) (by omega)) (law_29 hB (fun v S1 F1 G1 rd => ?_)))
      rw [rd.1, rd.2.1.1]
      exact ck_i (jb_i (by omega) (by omega)) (ck_i (lqt (by omega) (by omega)) (rd.2.2 _ (fun v16 S2 F2 G2 b2 e0 eo => ck_i (lqt (by omega) (by omega)) (tail _ _ v v16 S2 F2 G2 (by omega) (by omega) b2 e0 eo))))
    refine cn_i (fun _ => ?_) (fun _ => ?_)
    · refine ck_i (jb_i (by omega) (by omega)) (ck_i (jb_i (by omega) (by omega)) (ck_i (jb_i (by omega) (by omega)) (ck_i (lqt (by omega) (by omega)) (law_30b hB (fun v S1 F1 G1 rd => ?_)))))
      rw [rd.1, rd.2.1.1]
      exact ck_i (jb_i (by omega) (by omega)) (ck_i (jb_i (by omega) (by omega)) (ck_i (jb_i (by omega) (by omega)) (ck_i (lqt (by omega) (by omega)) (rd.2.2 _ (fun v16 S2 F2 G2 b2 e0 eo => ck_i (lqt (by omega) (by omega)) (tail30 _ _ v v16 S2 F2 G2 (by omega) (by omega) b2 e0 eo))))))
    refine cn_i (fun _ => ?_) (fun _ => ?_)
    · refine ck_i (jb_i (by omega) (by omega)) (ck_i (jb_i (by omega) (by omega)) (ck_i (jb_i (by omega) (by omega)) (ck_i (lqt (by omega) (by omega)) (law_31 hB (fun v S1 F1 G1 rd => ?_)))))
      rw [rd.1, rd.2.1.1]
      exact ck_i (jb_i (by omega) (by omega)) (ck_i (jb_i (by omega) (by omega)) (ck_i (jb_i (by omega) (by omega)) (ck_i (lqt (by omega) (by omega)) (rd.2.2 _ (fun v16 S2 F2 G2 b2 e0 eo => ck_i (lqt (by omega) (by omega)) (tail _ _ v v16 S2 F2 G2 (by omega) (by omega) b2 e0 eo))))))
    refine cn_i (fun _ => ?_) (fun _ => ?_)
    · refine ck_i (jb_i (by omega) (by omega)) (ck_i (jb_i (by omega) (by omega)) (ck_i (jb_i (by omega) (by omega)) (ck_i (lqt (by omega) (by omega)) (law_32 hB (fun v S1 F1 G1 rd => ?_)))))
      rw [rd.1, rd.2.1.1]
      exact ck_i (jb_i (by omega) (by omega)) (ck_i (jb_i (by omega) (by omega)) (ck_i (jb_i (by omega) (by omega)) (ck_i (lqt (by omega) (by omega)) (rd.2.2 _ (fun v16 S2 F2 G2 b2 e0 eo => ck_i (lqt (by omega) (by omega)) (tail _ _ v v16 S2 F2 G2 (by omega) (by omega) b2 e0 eo))))))
    refine cn_i (fun _ => ?_) (fun _ => ?_)
    · refine ck_i (jb_i (by omega) (by omega)) (ck_i (lqt (by omega) (by omega)) (law_33 hB (fun v S1 F1 G1 rd => ?_)))
      rw [rd.1, rd.2.1.1]
      exact ck_i (jb_i (by omega) (by omega)) (ck_i (lqt (by omega) (by omega)) (rd.2.2 _ (fun v16 S2 F2 G2 b2 e0 eo => ck_i (lqt (by omega) (by omega)) (tail _ _ v v16 S2 F2 G2 (by omega) (by omega) b2 e0 eo))))
    refine cn_i (fun _ => ?_) (fun _ => ?_)
    · refine ck_i (jb_i (by omega) (by omega)) (ck_i (lqt (by omega) (by omega)) (law_34 hB (fun v S1 F1 G1 rd => ?_)))
      rw [rd.1, rd.2.1.1]
      exact ck_i (jb_i (by omega) (by omega)) (ck_i (lqt (by omega) (by omega)) (rd.2.2 _ (fun v16 S2 F2 G2 b2 e0 eo => ck_i (lqt (by omega) (by omega)) (tail _ _ v v16 S2 F2 G2 (by omega) (by omega) b2 e0 eo))))
    refine cn_i (fun _ => ?_) (fun _ => ?_)
    · refine ck_i (jb_i (by omega) (by omega)) (ck_i (lqt (by omega) (by omega)) (law_35 hB (fun v S1 F1 G1 rd => ?_)))
      rw [rd.1, rd.2.1.1]
      exact ck_i (jb_i (by omega) (by omega)) (ck_i (lqt (by omega) (by omega)) (rd.2.2 _ (fun v16 S2 F2 G2 b2 e0 eo => ck_i (lqt (by omega) (by omega)) (tail _ _ v v16 S2 F2 G2 (by omega) (by omega) b2 e0 eo))))
    refine cn_i (fun _ => ?_) (fun _ => ?_)
    · refine ck_i (jb_i (by omega) (by omega)) (ck_i (lqt (by omega) (by omega)) (law_36 hB (fun v S1 F1 G1 rd => ?_)))
      rw [rd.1, rd.2.1.1]
      exact ck_i (jb_i (by omega) (by omega)) (ck_i (lqt (by omega) (by omega)) (rd.2.2 _ (fun v16 S2 F2 G2 b2 e0 eo => ck_i (lqt (by omega) (by omega)) (tail _ _ v v16 S2 F2 G2 (by omega) (by omega) b2 e0 eo))))
    refine cn_i (fun _ => ?_) (fun _ => ?_)
    · refine ck_i (jb_i (by omega) (by omega)) (ck_i (jb_i (by omega) (by omega)) (ck_i (jb_i (by omega) (by omega)) (ck_i (lqt (by omega) (by omega)) (law_37 hB (fun v S1 F1 G1 rd => ?_)))))
      rw [rd.1, rd.2.1.1]
      exact ck_i (jb_i (by omega) (by omega)) (ck_i (jb_i (by omega) (by omega)) (ck_i (jb_i (by omega) (by omega)) (ck_i (lqt (by omega) (by omega)) (rd.2.2 _ (fun v16 S2 F2 G2 b2 e0 eo => ck_i (lqt (by omega) (by omega)) (tail _ _ v v16 S2 F2 G2 (by omega) (by omega) b2 e0 eo))))))
    refine cn_i (fun _ => ?_) (fun _ => ?_)
    · refine ck_i (lqt (by omega) (by omega)) (law_38 hB (fun v S1 F1 G1 rd => ?_))
      exact ck_i (lqt (by omega) (by omega)) (rd.2.2 _ (fun v16 S2 F2 G2 b2 e0 eo => ck_i (lqt (by omega) (by omega)) (tail _ _ v v16 S2 F2 G2 (by omega) (by omega) b2 e0 eo)))
    refine cn_i (fun _ => ?_) (fun _ => ?_)
    · refine ck_i (lqt (by omega) (by omega)) (law_39 hB (fun v S1 F1 G1 rd => ?_))
      exact ck_i (lqt (by omega) (by omega)) (rd.2.2 _ (fun v16 S2 F2 G2 b2 e0 eo => ck_i (lqt (by omega) (by omega)) (tail _ _ v v16 S2 F2 G2 (by omega) (by omega) b2 e0 eo)))
    refine cn_i (fun _ => ?_) (fun _ => ?_)
    · refine ck_i (jb_i (by omega) (by omega)) (ck_i (jb_i (by omega) (by omega)) (ck_i (lqt (by omega) (by omega)) (law_40 hB (fun v S1 F1 G1 rd => ?_))))
      rw [rd.1, rd.2.1.1]
      exact ck_i (jb_i (by omega) (by omega)) (ck_i (jb_i (by omega) (by omega)) (ck_i (lqt (by omega) (by omega)) (rd.2.2 _ (fun v16 S2 F2 G2 b2 e0 eo => ck_i (lqt (by omega) (by omega)) (tail _ _ v v16 S2 F2 G2 (by omega) (by omega) b2 e0 eo)))))
    refine cn_i (fun _ => ?_) (fun _ => ?_)
    · refine ck_i (jb_i (by omega) (by omega)) (ck_i (lqt (by omega) (by omega)) (law_41 hB (fun v S1 F1 G1 rd => ?_)))
      rw [rd.1, rd.2.1.1]
      exact ck_i (jb_i (by omega) (by omega)) (ck_i (lqt (by omega) (by omega)) (rd.2.2 _ (fun v16 S2 F2 G2 b2 e0 eo => ck_i (lqt (by omega) (by omega)) (tail _ _ v v16 S2 F2 G2 (by omega) (by omega) b2 e0 eo))))
    refine cn_i (fun _ => ?_) (fun _ => ?_)
    · refine ck_i (jb_i (by omega) (by omega)) (ck_i (jb_i (by omega) (by omega)) (ck_i (lqt (by omega) (by omega)) (law_42 hB (fun v S1 F1 G1 rd => ?_))))
      rw [rd.1, rd.2.1.1]
      exact ck_i (jb_i (by omega) (by omega)) (ck_i (jb_i (by omega) (by omega)) (ck_i (lqt (by omega) (by omega)) (rd.2.2 _ (fun v16 S2 F2 G2 b2 e0 eo => ck_i (lqt (by omega) (by omega)) (tail _ _ v v16 S2 F2 G2 (by omega) (by omega) b2 e0 eo)))))
    refine cn_i (fun _ => ?_) (fun _ => ?_)
    · refine ck_i (jb_i (by omega) (by omega)) (ck_i (jb_i (by omega) (by omega)) (ck_i (lqt (by omega) (by omega)) (law_43 hB (fun v S1 F1 G1 rd => ?_))))
      rw [rd.1, rd.2.1.1]
      exact ck_i (jb_i (by omega) (by omega)) (ck_i (jb_i (by omega) (by omega)) (ck_i (lqt (by omega) (by omega)) (rd.2.2 _ (fun v16 S2 F2 G2 b2 e0 eo => ck_i (lqt (by omega) (by omega)) (tail _ _ v v16 S2 F2 G2 (by omega) (by omega) b2 e0 eo)))))
    refine cn_i (fun _ => ?_) (fun _ => ?_)
    · refine ck_i (lqt (by omega) (by omega)) (law_44 hB (fun v S1 F1 G1 rd => ?_))
      exact ck_i (lqt (by omega) (by omega)) (rd.2.2 _ (fun v16 S2 F2 G2 b2 e0 eo => ck_i (lqt (by omega) (by omega)) (tail _ _ v v16 S2 F2 G2 (by omega) (by omega) b2 e0 eo)))
    refine cn_i (fun _ => ?_) (fun _ => ?_)
    · refine ck_i (lqt (by omega) (by omega)) (law_45 hB (fun v S1 F1 G1 rd => ?_))
      exact ck_i (lqt (by omega) (by omega)) (rd.2.2 _ (fun v16 S2 F2 G2 b2 e0 eo => ck_i (lqt (by omega) (by omega)) (tail _ _ v v16 S2 F2 G2 (by omega) (by omega) b2 e0 eo)))
    refine cn_i (fun _ => ?_) (fun _ => ?_)
    · refine ck_i (lqt (by omega) (by omega)) (law_46 hB (fun v S1 F1 G1 rd => ?_))
      exact ck_i (lqt (by omega) (by omega)) (rd.2.2 _ (fun v16 S2 F2 G2 b2 ev => cd_t ev.symm (nxt _ _ S2 F2 G2 (by omega) (by omega) b2)))
    refine cn_i (fun _ => ?_) (fun _ => ?_)
    · refine ck_i (lqt (by omega) (by omega)) (law_47 hB (fun v S1 F1 G1 rd => ?_))
      exact ck_i (lqt (by omega) (by omega)) (rd.2.2 _ (fun v16 S2 F2 G2 b2 ev => cd_t ev.symm (nxt _ _ S2 F2 G2 (by omega) (by omega) b2)))
    refine cn_i (fun _ => ?_) (fun _ => ?_)
    · refine ck_i (jb_i (by omega) (by omega)) (ck_i (lqt (by omega) (by omega)) (law_48 hB (fun v S1 F1 G1 rd => ?_)))
      rw [rd.1, rd.2.1.1]
      exact ck_i (jb_i (by omega) (by omega)) (ck_i (lqt (by omega) (by omega)) (rd.2.2 _ (fun v16 S2 F2 G2 b2 ev => cd_t ev.symm (nxt _ _ S2 F2 G2 (by omega) (by omega) b2))))
    refine cn_i (fun _ => ?_) (fun _ => ?_)
    · refine ck_i (jb_i (by omega) (by omega)) (ck_i (lqt (by omega) (by omega)) (law_49 hB (fun v S1 F1 G1 rd => ?_)))
      rw [rd.1, rd.2.1.1]
      exact ck_i (jb_i (by omega) (by omega)) (ck_i (lqt (by omega) (by omega)) (rd.2.2 _ (fun v16 S2 F2 G2 b2 ev => cd_t ev.symm (nxt _ _ S2 F2 G2 (by omega) (by omega) b2))))
    exact nxt _ _ S F G (by omega) (by omega) hB
