/-! ===== the reference answers: the best round ===== -/
def pl (f : Int → Int → List Int) (u d : Int) : Nat → Int → List Int
  | 0, _ => []
  | c + 1, i => (if u / 2 ^ i.toNat % 2 = 1 then [] else f (u + 2 ^ i.toNat) (10 * d + i)) ++ pl f u d c (i + 1)
/-- the rounds of n, in their order, as digits -/
def pf (n : Nat) : Nat → Int → Int → List Int
  | 0, _, d => [d]
  | r + 1, u, d => pl (pf n r) u d n 0
/-- the best of some -/
noncomputable def ob (val : Int → Int) : Int → List Int → Int
  | b, [] => b
  | b, d :: t => ob val (if b = -1 ∨ val b < val d then d else b) t
theorem ob_a (val : Int → Int) : ∀ (L M : List Int) (b : Int), ob val b (L ++ M) = ob val (ob val b L) M := by
  intro L
  induction L with
  | nil => intro M b; rfl
  | cons d t ih => intro M b; exact ih M _
def dg (m d j : Int) : Int := d / 10 ^ (m - 1 - j).toNat % 10
theorem dg_s {m d i j : Int} (hm : 0 ≤ m) (hm2 : m < 5) (hj : 0 ≤ j) (hj2 : j < m) (hi : 0 ≤ i) (hi2 : i < 5) : dg (m + 1) (10 * d + i) j = dg m d j := by
  unfold dg
  have e : (m + 1 - 1 - j).toNat = (m - 1 - j).toNat + 1 := by omega
  rw [e]
  have c : (m - 1 - j).toNat = 0 ∨ (m - 1 - j).toNat = 1 ∨ (m - 1 - j).toNat = 2 ∨ (m - 1 - j).toNat = 3 := by omega
  rcases c with q | q | q | q <;> rw [q] <;> simp only [Nat.reduceAdd, Int.reducePow] <;> omega
theorem dg_e {m d i : Int} (hi : 0 ≤ i) (hi2 : i < 5) : dg (m + 1) (10 * d + i) m = i := by
  unfold dg
  rw [show (m + 1 - 1 - m).toNat = 0 by omega]
  simp only [Int.pow_zero]
  omega
theorem or_set : ∀ (u : Fin 32) (i : Fin 5), ¬ ((u.val : Int) / 2 ^ i.val % 2 = 1) → orr (u.val : Int) (shl 1 (i.val : Int)) = (u.val : Int) + 2 ^ i.val ∧ (u.val : Int) + 2 ^ i.val < 32 := by decide +kernel
theorem or_s {u i : Int} (h0 : 0 ≤ u) (h1 : u < 32) (h2 : 0 ≤ i) (h3 : i < 5) (h : ¬ (u / 2 ^ i.toNat % 2 = 1)) : orr u (shl 1 i) = u + 2 ^ i.toNat ∧ u + 2 ^ i.toNat < 32 := by
  have := or_set ⟨u.toNat, by omega⟩ ⟨i.toNat, by omega⟩
  simp only [show ((u.toNat : Nat) : Int) = u by omega, show ((i.toNat : Nat) : Int) = i by omega] at this
  exact this h
def fOr (F : FI) (d : Int) : Int → Int := fun h => dg (F 100 2) d (Int.tmod (Int.tdiv h (F 112 53)) (F 100 2))
noncomputable def sOrV (F : FI) (who d : Int) : Int := sTo (F 100) (cLw F (fOr F d)) (F 100 4) who
theorem RD_v {F F' : FI} {G G' : FJ} {c : Cf} {i : Nat} {v : Int} (hd : RD F F' G G' c) (hi : ¬ kpF i) (h2 : i ≠ 28 ∧ i ≠ 31 ∧ i ≠ 32 ∧ i ≠ 33 ∧ i ≠ 34 ∧ i ≠ 35) : RD F (u2 F' 97 i v) G G' c := by
  obtain ⟨d1, d2, d3, d4, d5, d6, d7⟩ := hd
  obtain ⟨i1, i2, i3, i4, i5, i6⟩ := h2
  refine ⟨PM_v d1 hi, by rw [u2_n (Ne.symm i1)]; exact d2, by rw [u2_n (Ne.symm i3)]; exact d3, by rw [u2_n (Ne.symm i2)]; exact d4, ?_, RDY_c d6 (u2_o (by decide)) (u2_o (by decide)) rfl rfl, d7⟩
  have e : mC (u2 F' 97 i v) (mk0 F) = mC F' (mk0 F) := by
    unfold mC
    rw [u2_o (by decide), u2_o (by decide), u2_o (by decide), u2_n (Ne.symm i4), u2_n (Ne.symm i5), u2_n (Ne.symm i6)]
  rw [e]
  exact d5
theorem RD_g {F F' : FI} {G G' : FJ} {c : Cf} {i : Nat} {v : Int} (hd : RD F F' G G' c) : RD F F' G (u2 G' 97 i v) c := by
  obtain ⟨d1, d2, d3, d4, d5, d6, d7⟩ := hd
  exact ⟨PM_j d1 (Or.inl rfl), d2, d3, d4, d5, RDY_c d6 rfl rfl (u2_o (by decide)) (u2_o (by decide)), ⟨by rw [u2_o (by decide)]; exact d7.1, by rw [u2_o (by decide)]; exact d7.2.1, by rw [u2_o (by decide)]; exact d7.2.2⟩⟩
theorem RD_u {F F' : FI} {G G' : FJ} {c : Cf} {a i : Nat} {v : Int} (hd : RD F F' G G' c) (ha : 117 ≤ a ∧ a ≤ 127 ∧ a ≠ 122) : RD F (u2 F' a i v) G G' c := by
  obtain ⟨d1, d2, d3, d4, d5, d6, d7⟩ := hd
  obtain ⟨a1, a2, a3⟩ := ha
  exact ⟨PM_u d1 (by omega) a2, by rw [u2_o (by omega)]; exact d2, by rw [u2_o (by omega)]; exact d3, by rw [u2_o (by omega)]; exact d4, by rw [mC_u (by omega)]; exact d5, RDY_c d6 (u2_o (by omega)) (u2_o (Ne.symm a3)) rfl rfl, d7⟩
/-- the best so far, as it is kept -/
def OB (val : Int → Int) (F : FI) (G : FJ) (b : Int) : Prop := F 97 49 = b ∧ (b ≠ -1 → G 97 50 = val b)
theorem l_172_17 {Q : Rs → Mm → Prop} {x3 x4 b : Int} {S : FS} {F : FI} {G : FJ} {d : Nat} (hm : MV F G) (hd7 : 7 ≤ d) (h1 : -1 ≤ x4) (h2 : x4 < F 100 2) :
    ∀ (K : Nat) (x6 : Int) (F1 : FI) (G1 : FJ) (c : Cf), K = (F 100 3 - x6).toNat → 0 ≤ x6 → x6 ≤ F 100 3 → RD F F1 G G1 c → c.2 = (cBs F).2 → (∀ h, 0 ≤ h → h < x6 → F1 114 h.toNat = (cLw F (fOr F x3)).1 h) → (∀ j, 0 ≤ j → j < F 100 2 → F1 125 j.toNat = dg (F 100 2) x3 j ∧ 0 ≤ F1 125 j.toNat ∧ F1 125 j.toNat < F 100 2) →
      OB (sOrV F x4) F1 G1 b → (∀ F2 G2 c, RD F F2 G G2 c → c.2 = (cBs F).2 → F2 125 = F1 125 → OB (sOrV F x4) F2 G2 (if b = -1 ∨ sOrV F x4 b < sOrV F x4 x3 then x3 else b) → Q (.inl none) (mm S F2 G2)) →
      wph d 172 17 [.inr (.inr (.inl 97)), jk, jk, .inl x3, .inl x4, .inl (F 100 2), .inl x6] [] (mm S F1 G1) (0, 0) Q := by
  have hv := hm.1
  obtain ⟨⟨hv1, hv2⟩, ⟨hv3, hv4⟩, ⟨hv5, hv6⟩, ⟨hv7, hv8⟩, ⟨hv9, hv10⟩, ⟨hv11, hv12⟩, ⟨hv13, hv14⟩, hvw, hvs, hvk, hvc, hvx⟩ := id hv
  intro K
  induction K with
  | zero =>
    intro x6 F1 G1 c hK a1 a2 hd hc hl hr hb hq
    refine sg_172_17 ?_
    rw [hd.1.1 100 kp100]
    refine cn_i (fun h => by omega) (fun h => ?_)
    have hd' : RD F F1 G G1 (cLw F (fOr F x3)) := RD_eq hd (fun x a b => hl x a (by omega)) hc
    have cv := cLw_v (f := fOr F x3) hm (fun h a b => by
      have dd := div_b (d := F 112 53) a hm.2.1.2.2.2.1.1
      have mm := mod_b (d := F 100 2) dd.1 hv5
      have := hr _ mm.1 mm.2
      unfold fOr
      omega)
    refine ck_i (Nat.ble_eq_true_of_le hd7) ?_
    refine c_play hm hd' cv (fun F2 G2 hd2 ht2 hF hG => ck_i (Nat.ble_eq_true_of_le (by omega)) ?_)
    refine c_148 hv (by omega) (by omega) cv (TN_of hd2 ht2) h1 h2 (fun v e => ?_)
    have e' : v = sOrV F x4 x3 := e
    have f97 : F2 97 = F1 97 := hF 97 (by decide) (by decide)
    have g97 : G2 97 = G1 97 := hG 97 (by decide) (by decide)
    have f125 : F2 125 = F1 125 := hF 125 (by decide) (by decide)
    have put : (b = -1 ∨ sOrV F x4 b < sOrV F x4 x3) → Q (.inl none) (mm S (u2 F2 97 49 x3) (u2 G2 97 50 v)) := by
      intro hh
      refine hq _ _ (cLw F (fOr F x3)) (RD_g (RD_v hd2 (by unfold kpF; omega) (by decide))) rfl (by rw [u2_o (by decide)]; exact f125) ?_
      rw [if_pos hh]
      exact ⟨u2_s, fun _ => by rw [u2_s]; exact e'⟩
    rw [f97, hb.1]
    refine cn_i (fun q => ?_) (fun q => ?_)
    · exact put (Or.inl q)
    · rw [g97, hb.2 q]
      refine cn_i (fun g => ?_) (fun g => ?_)
      · rw [lc_p, e'] at g
        exact put (Or.inr g)
      · rw [lc_p, e'] at g
        refine hq F2 G2 _ hd2 rfl f125 ?_
        rw [if_neg (fun r => r.elim q g)]
        exact ⟨by rw [f97]; exact hb.1, fun w => by rw [g97]; exact hb.2 w⟩
  | succ K ih =>
    intro x6 F1 G1 c hK a1 a2 hd hc hl hr hb hq
    refine sg_172_17 ?_
    rw [hd.1.1 100 kp100, hd.1.1 112 kp112]
    refine cn_i (fun h => ?_) (fun h => by omega)
    have nxt : ∀ v, v = (cLw F (fOr F x3)).1 x6 → wph d 172 17 [.inr (.inr (.inl 97)), jk, jk, .inl x3, .inl x4, .inl (F 100 2), .inl (x6 + 1)] [] (mm S (u2 F1 114 x6.toNat v) G1) (0, 0) Q := by
      intro v ev
      refine ih (x6 + 1) _ G1 (cLed c x6 v) (by omega) (by omega) (by omega) (RD_led hd a1) hc (fun h a b => ?_) (by rw [u2_o (by decide)]; exact hr) ⟨by rw [u2_o (by decide)]; exact hb.1, hb.2⟩ (fun F2 G2 c a b e => hq F2 G2 c a b (by rw [e, u2_o (by decide)]))
      rw [u2_k]
      by_cases q : h = x6
      · rw [q, if_pos rfl, ev]
      · rw [if_neg (by omega)]
        exact hl h a (by omega)
    have dd := div_b (d := F 112 53) a1 hm.2.1.2.2.2.1.1
    have mb := mod_b (d := F 100 2) dd.1 hv5
    try simp (disch := omega) only [wr_id]
    refine ck_i (by (first | exact jb_i (by (first | assumption | omega | (simp (disch := omega) only [wr_id]; omega))) (by (first | assumption | omega | (simp (disch := omega) only [wr_id]; omega))) | exact jo_i (by omega) | exact jz_i (by omega) | rfl | (simp only [*]; first | rfl | exact jb_i (by (first | assumption | omega | (simp (disch := omega) only [wr_id]; omega))) (by (first | assumption | omega | (simp (disch := omega) only [wr_id]; omega)))))) (cn_i (fun g => ?_) (fun g => ?_))
    · have := hm.2.1.2.2.2.1.1
      refine ck_i (jz_i (by omega)) (ck_i (jz_i (by omega)) (ck_i (by (first | exact jb_i (by (first | assumption | omega | (simp (disch := omega) only [wr_id]; omega))) (by (first | assumption | omega | (simp (disch := omega) only [wr_id]; omega))) | exact jo_i (by omega) | exact jz_i (by omega) | rfl | (simp only [*]; first | rfl | exact jb_i (by (first | assumption | omega | (simp (disch := omega) only [wr_id]; omega))) (by (first | assumption | omega | (simp (disch := omega) only [wr_id]; omega)))))) (ck_i (by (first | exact jb_i (by (first | assumption | omega | (simp (disch := omega) only [wr_id]; omega))) (by (first | assumption | omega | (simp (disch := omega) only [wr_id]; omega))) | exact jo_i (by omega) | exact jz_i (by omega) | rfl | (simp only [*]; first | rfl | exact jb_i (by (first | assumption | omega | (simp (disch := omega) only [wr_id]; omega))) (by (first | assumption | omega | (simp (disch := omega) only [wr_id]; omega)))))) (nxt _ ?_))))
      show _ = if F 112 (29 + x6).toNat = -1 then _ else _
      rw [if_pos g]
      exact (hr _ mb.1 mb.2).1
    · refine ck_i (by (first | exact jb_i (by (first | assumption | omega | (simp (disch := omega) only [wr_id]; omega))) (by (first | assumption | omega | (simp (disch := omega) only [wr_id]; omega))) | exact jo_i (by omega) | exact jz_i (by omega) | rfl | (simp only [*]; first | rfl | exact jb_i (by (first | assumption | omega | (simp (disch := omega) only [wr_id]; omega))) (by (first | assumption | omega | (simp (disch := omega) only [wr_id]; omega)))))) (ck_i (by (first | exact jb_i (by (first | assumption | omega | (simp (disch := omega) only [wr_id]; omega))) (by (first | assumption | omega | (simp (disch := omega) only [wr_id]; omega))) | exact jo_i (by omega) | exact jz_i (by omega) | rfl | (simp only [*]; first | rfl | exact jb_i (by (first | assumption | omega | (simp (disch := omega) only [wr_id]; omega))) (by (first | assumption | omega | (simp (disch := omega) only [wr_id]; omega)))))) (nxt _ ?_))
      show _ = if F 112 (29 + x6).toNat = -1 then _ else _
      rw [if_neg g]
theorem c_172 {S : FS} {F : FI} {G : FJ} {x4 : Int} (hm : MV F G) (h1 : -1 ≤ x4) (h2 : x4 < F 100 2) : ∀ (r : Nat) (d : Nat) (k : FS → FI → FJ → Prop) (x1 x2 x3 b : Int) (F1 : FI) (G1 : FJ) (c : Cf), 7 + r ≤ d → x1 = F 100 2 - (r : Int) → 0 ≤ x1 → 0 ≤ x2 → x2 < 32 → 0 ≤ x3 → x3 < 10 ^ x1.toNat → RD F F1 G G1 c → c.2 = (cBs F).2 →
    (∀ j, 0 ≤ j → j < x1 → F1 125 j.toNat = dg x1 x3 j ∧ 0 ≤ F1 125 j.toNat ∧ F1 125 j.toNat < F 100 2) → OB (sOrV F x4) F1 G1 b →
    (∀ F2 G2 c, RD F F2 G G2 c → c.2 = (cBs F).2 → (∀ j, 0 ≤ j → j < x1 → F2 125 j.toNat = F1 125 j.toNat) → OB (sOrV F x4) F2 G2 (ob (sOrV F x4) b (pf (F 100 2).toNat r x2 x3)) → k S F2 G2) → calV d 172 [.inr (.inr (.inl 97)), .inl x1, .inl x2, .inl x3, .inl x4] (mm S F1 G1) k nof := by
  have hv := hm.1
  obtain ⟨⟨hv1, hv2⟩, ⟨hv3, hv4⟩, ⟨hv5, hv6⟩, ⟨hv7, hv8⟩, ⟨hv9, hv10⟩, ⟨hv11, hv12⟩, ⟨hv13, hv14⟩, hvw, hvs, hvk, hvc, hvx⟩ := id hv
  intro r
  induction r with
  | zero =>
    intro d k x1 x2 x3 b F1 G1 c hd7 e1 a1 u0 u1 t0 t1 hd hc hr hb hk
    refine sg_172_0 ?_
    rw [hd.1.1 100 kp100]
    refine cn_i (fun h => ?_) (fun h => by omega)
    rw [h] at hr
    refine l_172_17 (b := b) hm (by omega) h1 h2 _ 0 F1 G1 c rfl (by omega) (by omega) hd hc (fun h a b => by omega) hr hb (fun F2 G2 c hd2 hc2 e125 hb2 => ⟨_, _, _, rfl, hk F2 G2 c hd2 hc2 (fun j _ _ => by rw [e125]) hb2⟩)
  | succ r ih =>
    intro d k x1 x2 x3 b F1 G1 c hd7 e1 a1 u0 u1 t0 t1 hd hc hr hb hk
    refine sg_172_0 ?_
    rw [hd.1.1 100 kp100]
    refine cn_i (fun h => by omega) (fun h => ?_)
    have p1 : (10 : Int) ^ (x1 + 1).toNat = 10 ^ x1.toNat * 10 := by rw [show (x1 + 1).toNat = x1.toNat + 1 by omega, Int.pow_succ]
    have p2 : (10 : Int) ^ x1.toNat ≤ 100000 := by
      have c : x1.toNat = 0 ∨ x1.toNat = 1 ∨ x1.toNat = 2 ∨ x1.toNat = 3 ∨ x1.toNat = 4 := by omega
      rcases c with q | q | q | q | q <;> rw [q] <;> decide
    have loop : ∀ (C : Nat) (x6 b : Int) (F2 : FI) (G2 : FJ) (c : Cf), (C : Int) = F 100 2 - x6 → 0 ≤ x6 → RD F F2 G G2 c → c.2 = (cBs F).2 → (∀ j, 0 ≤ j → j < x1 → F2 125 j.toNat = F1 125 j.toNat) → OB (sOrV F x4) F2 G2 b →
        (∀ F3 G3 c, RD F F3 G G3 c → c.2 = (cBs F).2 → (∀ j, 0 ≤ j → j < x1 → F3 125 j.toNat = F1 125 j.toNat) → OB (sOrV F x4) F3 G3 (ob (sOrV F x4) b (pl (pf (F 100 2).toNat r) x2 x3 C x6)) → k S F3 G3) →
        wph d 172 132 [.inr (.inr (.inl 97)), .inl x1, .inl x2, .inl x3, .inl x4, .inl (F 100 2), .inl x6] [] (mm S F2 G2) (0, 0) (fun o M' => ∃ S F G, M' = mm S F G ∧ match o with
          | .inl none => k S F G
          | .inr e => nof e S F G
          | _ => False) := by
      intro C
      induction C with
      | zero =>
        intro x6 b F2 G2 c hC a6 hd2 hc2 hj hb2 hk2
        refine sg_172_132 ?_
        refine cn_i (fun h => by omega) (fun h => ?_)
        exact ⟨_, _, _, rfl, hk2 F2 G2 c hd2 hc2 hj hb2⟩
      | succ C ihC =>
        intro x6 b F2 G2 c hC a6 hd2 hc2 hj hb2 hk2
        refine sg_172_132 ?_
        refine cn_i (fun h6 => ?_) (fun h6 => by omega)
        try simp (disch := omega) only [wr_id]
        refine cn_i (fun g => ?_) (fun g => ?_)
        · rw [bit_o u0 (by omega) a6 (by omega)] at g
          unfold bit at g
          refine ihC (x6 + 1) b F2 G2 c (by omega) (by omega) hd2 hc2 hj hb2 (fun F3 G3 c a1 a2 a3 a4 => hk2 F3 G3 c a1 a2 a3 ?_)
          have : pl (pf (F 100 2).toNat r) x2 x3 (C + 1) x6 = pl (pf (F 100 2).toNat r) x2 x3 C (x6 + 1) := by
            show (if _ then _ else _) ++ _ = _
            rw [if_pos g]
            rfl
          rw [this]
          exact a4
        · rw [bit_o u0 (by omega) a6 (by omega)] at g
          unfold bit at g
          have os := or_s u0 u1 a6 (by omega) g
          have pe : pl (pf (F 100 2).toNat r) x2 x3 (C + 1) x6 = pf (F 100 2).toNat r (x2 + 2 ^ x6.toNat) (10 * x3 + x6) ++ pl (pf (F 100 2).toNat r) x2 x3 C (x6 + 1) := by
            show (if _ then _ else _) ++ _ = _
            rw [if_neg g]
          have p3 : (0 : Int) ≤ 2 ^ x6.toNat := Int.le_of_lt (Int.pow_pos (by decide))
          refine ck_i (by (first | exact jb_i (by (first | assumption | omega | (simp (disch := omega) only [wr_id]; omega))) (by (first | assumption | omega | (simp (disch := omega) only [wr_id]; omega))) | exact jo_i (by omega) | exact jz_i (by omega) | rfl | (simp only [*]; first | rfl | exact jb_i (by (first | assumption | omega | (simp (disch := omega) only [wr_id]; omega))) (by (first | assumption | omega | (simp (disch := omega) only [wr_id]; omega)))))) (ck_i (Nat.ble_eq_true_of_le (by omega)) ?_)
          rw [os.1]
          refine ih (d - 1) _ (x1 + 1) (x2 + 2 ^ x6.toNat) (10 * x3 + x6) b (u2 F2 125 x1.toNat x6) G2 c (by omega) (by omega) (by omega) (by omega) os.2 (by omega) (by rw [p1]; omega) (RD_u hd2 (by decide)) hc2 (fun j j0 j1 => ?_) ⟨by rw [u2_o (by decide)]; exact hb2.1, hb2.2⟩ (fun F3 G3 c3 hd3 hc3 hj3 hb3 => ?_)
          · rw [u2_k]
            by_cases q : j = x1
            · rw [q, if_pos rfl, dg_e a6 (by omega)]
              exact ⟨rfl, a6, h6⟩
            · rw [if_neg (by omega), hj j j0 (by omega), dg_s a1 (by omega) j0 (by omega) a6 (by omega)]
              exact hr j j0 (by omega)
          · refine ihC (x6 + 1) _ F3 G3 c3 (by omega) (by omega) hd3 hc3 (fun j j0 j1 => ?_) hb3 (fun F4 G4 c4 a1 a2 a3 a4 => hk2 F4 G4 c4 a1 a2 a3 ?_)
            · rw [hj3 j j0 (by omega), u2_k, if_neg (by omega)]
              exact hj j j0 j1
            · rw [pe, ob_a]
              exact a4
    exact loop (F 100 2).toNat 0 b F1 G1 c (by omega) (by omega) hd hc (fun _ _ _ => rfl) hb (fun F3 G3 c a1 a2 a3 a4 => hk F3 G3 c a1 a2 a3 a4)
theorem q_173 {k : Int → FS → FI → FJ → Prop} {x1 : Int} {S : FS} {F : FI} {G : FJ} (hM : F 97 12 ≠ 0 → MV F G) (noL : F 97 12 = 0 → k 0 S (rfs (zF F) 2 3) G) (noP : F 97 12 ≠ 0 → ¬ (-1 ≤ x1 ∧ x1 < F 100 2) → k 0 S (rfs (zF F) 1 0) G)
    (ok : F 97 12 ≠ 0 → -1 ≤ x1 ∧ x1 < F 100 2 → ∀ F' G', QP F F' G G' → k (ob (sOrV (zF F) x1) (-1) (pf (F 100 2).toNat (F 100 2).toNat 0 0)) S F' G') : calI 21 173 [.inr (.inr (.inl 97)), .inl x1] (mm S F G) k nof := by
  refine sg_173_0 ?_
  rw [show u2 F 97 0 0 = zF F from rfl]
  refine c_109 z_0 (by decide) (fun hl => cn_1 ?_) (fun hl => cn_0 ⟨_, _, _, rfl, noL (here_z hl)⟩)
  have hl := here_n hl
  have hm := hM hl
  have hv := hm.1
  have hz := MV_z hm
  obtain ⟨⟨hv1, hv2⟩, ⟨hv3, hv4⟩, ⟨hv5, hv6⟩, ⟨hv7, hv8⟩, ⟨hv9, hv10⟩, ⟨hv11, hv12⟩, ⟨hv13, hv14⟩, hvw, hvs, hvk, hvc, hvx⟩ := id hv
  have e0 : zF F 100 = F 100 := z_n (by decide)
  refine c_111 z_0 (by decide) (by rw [e0]; omega) (by rw [e0]; omega) (fun p1 p2 => cn_1 ?_) (fun q => cn_0 ⟨_, _, _, rfl, noP hl (by rw [e0] at q; exact q)⟩)
  refine c_143 hz (fun F1 G1 hd => ?_)
  refine c_172 (F := zF F) hz p1 p2 (F 100 2).toNat 20 _ 0 0 0 (-1) _ G1 _ (by omega) (by rw [e0]; omega) (by omega) (by omega) (by omega) (by omega) (by decide) (RD_v hd (by unfold kpF; omega) (by decide)) rfl (fun j a b => by omega) ⟨u2_s, fun q => absurd rfl q⟩ (fun F2 G2 c hd2 hc _ hb => ⟨_, _, _, rfl, ?_⟩)
  rw [e0] at p2 hb
  rw [hb.1]
  exact ok hl ⟨p1, p2⟩ F2 G2 (QP_d hd2 (by rw [hc]; rfl))
