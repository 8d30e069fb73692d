/-! ===== the class: a state stood in, a move aimed at, what it is worth ===== -/
def AM (l : Nat → Int) (p m : Int) : Prop := m = 0 ∨ 1 ≤ m ∧ m ≤ l 1 ∧ sAt l (m - 1) p = 1
/-- only the solver's own words have changed, from the i-th on -/
def KA (i : Nat) (F F0 : FI) : Prop := (∀ c, c ≠ 22 → F c = F0 c) ∧ ∀ j, j < i → F 22 j = F0 22 j
theorem KA_r {i : Nat} {F : FI} : KA i F F := ⟨fun _ _ => rfl, fun _ _ => rfl⟩
theorem KA_t {i : Nat} {F F1 F2 : FI} (h1 : KA i F1 F) (h2 : KA i F2 F1) : KA i F2 F := ⟨fun c h => (h2.1 c h).trans (h1.1 c h), fun j h => (h2.2 j h).trans (h1.2 j h)⟩
theorem KA_m {i k : Nat} {F F0 : FI} (h : KA i F F0) (hk : k ≤ i) : KA k F F0 := ⟨h.1, fun j hj => h.2 j (by omega)⟩
theorem KA_u {i j : Nat} {v : Int} {F F0 : FI} (h : KA i F F0) (hj : i ≤ j) : KA i (u2 F 22 j v) F0 := ⟨fun c hc => by rw [u2_o hc]; exact h.1 c hc, fun k hk => by rw [u2_n (by omega)]; exact h.2 k hk⟩
/-- the state that is stood in -/
def ST (F : FI) (d : Nat) (l : Nat → Int) (st h p n : Int) : Prop := F 22 8 = p ∧ F 22 9 = h ∧ F 22 10 = n ∧ F 22 11 = sSh l h ∧ F 22 12 = sp d (h + 1) p (sAf l st p n)
theorem ST_k {F F0 : FI} {d : Nat} {l : Nat → Int} {st h p n : Int} (hs : ST F0 d l st h p n) (hk : KA 13 F F0) : ST F d l st h p n := by
  unfold ST at hs ⊢
  rw [hk.2 8 (by decide), hk.2 9 (by decide), hk.2 10 (by decide), hk.2 11 (by decide), hk.2 12 (by decide)]
  exact hs
/-- the move that is aimed at -/
def AI (F : FI) (d : Nat) (l : Nat → Int) (st h p n m : Int) : Prop := F 22 12 = sp d (h + 1) p (sAf l st p n) ∧ (0 ≤ F 22 14 ∧ F 22 14 ≤ 16) ∧ (0 ≤ F 22 15 ∧ F 22 15 ≤ 16) ∧
  ∃ q, (q = p ∨ 1 ≤ m ∧ q = sOth l (m - 1) p) ∧ F 22 13 = sp d (h + 1) q (sAf l st q n) ∧ ∀ f : Int → Int → Int, F 22 14 * f p (sAf l st p n) + F 22 15 * f q (sAf l st q n) = sBr l st h p n m f
/-- the class's cells that say how it is: land, law, scene, table -/
def YX (S : FS) (F : FI) (G : FJ) (a b c d : Nat) (l : Nat → Int) (w : La) (st : Int) : Prop := oL a ∧ oW b ∧ oC c ∧ oT d ∧ (S 22 0 = a ∧ S 22 1 = b ∧ S 22 2 = c ∧ S 22 3 = d) ∧ LV l ∧ LW w ∧ LR F G a l ∧ WR F b w ∧ F c 4 = st ∧ F d 0 = tW d ∧ (0 ≤ st ∧ st ≤ 12)
theorem YX_k {S : FS} {F F' : FI} {G G' : FJ} {a b c d : Nat} {l : Nat → Int} {w : La} {st : Int} (h : YX S F G a b c d l w st) (hF : ∀ i, i ≠ 22 → i ≠ 23 → i ≠ 25 → i ≠ b + 4 → i ≠ b + 5 → i ≠ d + 2 → F' i = F i) (hG : ∀ i, i ≠ d + 1 → G' i = G i) : YX S F' G' a b c d l w st := by
  obtain ⟨ha, hb, hc, hd, hs, hv, hw, h1, h2, h3, h4, h5⟩ := h
  exact ⟨ha, hb, hc, hd, hs, hv, hw, LR_c h1 (fun i hi => hF _ (by omega) (by omega) (by omega) (by omega) (by omega) (by omega)) (hG _ (by omega)), WR_c h2 (fun i hi => hF _ (by omega) (by omega) (by omega) (by omega) (by omega) (by omega)), by rw [hF c (by omega) (by omega) (by omega) (by omega) (by omega) (by omega)]; exact h3, by rw [hF d (by omega) (by omega) (by omega) (by omega) (by omega) (by omega)]; exact h4, h5⟩
theorem YX_a {S : FS} {F F' : FI} {G : FJ} {a b c d i : Nat} {l : Nat → Int} {w : La} {st : Int} (h : YX S F G a b c d l w st) (hF : KA i F' F) : YX S F' G a b c d l w st := YX_k h (fun j h1 _ _ _ _ _ => hF.1 j h1) (fun _ _ => rfl)
theorem sSh_b (l : Nat → Int) (h : Int) : sSh l h = 16 ∨ sSh l h = 1 := by
  unfold sSh
  split
  · exact Or.inl rfl
  · exact Or.inr rfl
theorem c_267 {k : FS → FI → FJ → Prop} {a b c d : Nat} {l : Nat → Int} {w : La} {st x1 x2 x3 : Int} {S : FS} {F : FI} {G : FJ} (hx : YX S F G a b c d l w st) (h1 : 0 ≤ x1) (h1' : x1 < l 0) (h2 : 0 ≤ x2) (h2' : x2 < l 3) (h3 : 1 ≤ x3) (h3' : x3 ≤ st)
    (hk : ∀ F', KA 8 F' F → ST F' d l st x2 x1 x3 → k S F' G) : calV 1 267 [.inr (.inr (.inl 22)), .inl x1, .inl x2, .inl x3] (mm S F G) k nof := by
  obtain ⟨ha, hb, hc, hd, ⟨s0, s1, s2, s3⟩, hv, hw, hl, hrw, hst, htw, hs1, hs2⟩ := id hx
  have hv' := hv
  obtain ⟨⟨hv1, hv2⟩, ⟨hv3, hv4⟩, ⟨hv5, hv6⟩, ⟨hv7, hv8⟩, ⟨hv9, hv10⟩, ⟨hv11, hv12⟩, ⟨hv13, hv14⟩, hvw, hvs, hvk, hvc, hvx⟩ := id hv
  have k1 : KA 8 (u2 (u2 (u2 F 22 8 x1) 22 9 x2) 22 10 x3) F := KA_u (KA_u (KA_u KA_r (by omega)) (by omega)) (by omega)
  have x1' := YX_a hx k1
  have af := sAf_b (l := l) (st := st) (q := x1) (n := x3) hs1 hs2 h3 h3'
  refine sg_267_0 ?_
  simp only [s0, s2, s3, lk ha, lk1 ha, lk2 ha, lk3 ha, lk4 ha, lk5 ha, lk6 ha, lk7 ha, lk8 ha, lk9 ha, lr0 ha, lr1 ha, lr2 ha, lr3 ha, lr4 ha, lr5 ha, lr6 ha, lr7 ha, lr8 ha, ck_ hc, ck1 hc, ck2 hc, ck3 hc, ck4 hc, cr0 hc, cr1 hc, cr2 hc, cr3 hc, tk hd, tk1 hd, tk2 hd, tr1 hd, tr2 hd]
  refine ck_i rfl (c_204 ha x1'.2.2.2.2.2.2.2.1 h2 (by omega) (fun v1 e1 => ?_))
  simp only [s0, s2, s3, lk ha, lk1 ha, lk2 ha, lk3 ha, lk4 ha, lk5 ha, lk6 ha, lk7 ha, lk8 ha, lk9 ha, lr0 ha, lr1 ha, lr2 ha, lr3 ha, lr4 ha, lr5 ha, lr6 ha, lr7 ha, lr8 ha, ck_ hc, ck1 hc, ck2 hc, ck3 hc, ck4 hc, cr0 hc, cr1 hc, cr2 hc, cr3 hc, tk hd, tk1 hd, tk2 hd, tr1 hd, tr2 hd]
  refine ck_i rfl (ck_i rfl ?_)
  have k2 : KA 8 (u2 (u2 (u2 (u2 F 22 8 x1) 22 9 x2) 22 10 x3) 22 11 v1) F := KA_u k1 (by omega)
  have x2' := YX_a hx k2
  rw [x2'.2.2.2.2.2.2.2.2.2.1]
  refine c_207 ha x2'.2.2.2.2.2.2.2.1 hv2 h1 h1' (by omega) (by omega) (fun v2 e2 => ?_)
  subst e2
  try simp (disch := omega) only [wr_id]
  refine ck_i rfl ?_
  refine c_271 hd x2'.2.2.2.2.2.2.2.2.2.2.1 h1 (by omega) (by omega) (by omega) (by omega) (by omega) (fun v3 e3 => ⟨_, _, _, rfl, ?_⟩)
  refine hk _ (KA_u k2 (by omega)) ⟨?_, ?_, ?_, ?_, ?_⟩
  · simp (disch := omega) only [u2_n, u2_s]
  · simp (disch := omega) only [u2_n, u2_s]
  · simp (disch := omega) only [u2_n, u2_s]
  · rw [u2_n (by decide), u2_s, e1]
  · rw [u2_s, e3]
theorem c_268 {k : FS → FI → FJ → Prop} {a b c d : Nat} {l : Nat → Int} {w : La} {st h p n x1 : Int} {S : FS} {F : FI} {G : FJ} (hx : YX S F G a b c d l w st) (h1 : 0 ≤ p) (h1' : p < l 0) (h2 : 0 ≤ h) (h2' : h < l 3) (h3 : 1 ≤ n) (h3' : n ≤ st) (hs : ST F d l st h p n) (hm : AM l p x1)
    (hk : ∀ F', KA 13 F' F → AI F' d l st h p n x1 → k S F' G) : calV 1 268 [.inr (.inr (.inl 22)), .inl x1] (mm S F G) k nof := by
  obtain ⟨ha, hb, hc, hd, ⟨s0, s1, s2, s3⟩, hv, hw, hl, hrw, hst, htw, hs1, hs2⟩ := id hx
  have hv' := hv
  obtain ⟨⟨hv1, hv2⟩, ⟨hv3, hv4⟩, ⟨hv5, hv6⟩, ⟨hv7, hv8⟩, ⟨hv9, hv10⟩, ⟨hv11, hv12⟩, ⟨hv13, hv14⟩, hvw, hvs, hvk, hvc, hvx⟩ := id hv
  obtain ⟨t1, t2, t3, t4, t5⟩ := id hs
  have sh := sSh_b l h
  refine sg_268_0 ?_
  simp only [s0, s2, s3, lk ha, lk1 ha, lk2 ha, lk3 ha, lk4 ha, lk5 ha, lk6 ha, lk7 ha, lk8 ha, lk9 ha, lr0 ha, lr1 ha, lr2 ha, lr3 ha, lr4 ha, lr5 ha, lr6 ha, lr7 ha, lr8 ha, ck_ hc, ck1 hc, ck2 hc, ck3 hc, ck4 hc, cr0 hc, cr1 hc, cr2 hc, cr3 hc, tk hd, tk1 hd, tk2 hd, tr1 hd, tr2 hd, t1, t2, t3, t4, t5]
  have k1 : KA 13 (u2 (u2 (u2 F 22 13 (sp d (h + 1) p (sAf l st p n))) 22 14 (sSh l h)) 22 15 0) F := KA_u (KA_u (KA_u KA_r (by omega)) (by omega)) (by omega)
  have x1' := YX_a hx k1
  refine cn_i (fun g => ?_) (fun g => ?_)
  · have m0 : x1 = 0 := by
      unfold AM at hm
      omega
    refine ⟨_, _, _, rfl, hk _ k1 ⟨?_, ?_, ?_, p, Or.inl rfl, ?_, fun f => ?_⟩⟩
    · rw [u2_n (by decide), u2_n (by decide), u2_n (by decide)]
      exact t5
    · rw [u2_n (by decide), u2_s]
      omega
    · rw [u2_s]
      omega
    · rw [u2_n (by decide), u2_n (by decide), u2_s]
    · rw [u2_n (by decide), u2_s, u2_s]
      unfold sBr sSh
      rw [if_pos m0]
      split <;> omega
  · have m1 : 1 ≤ x1 ∧ x1 ≤ l 1 ∧ sAt l (x1 - 1) p = 1 := by
      unfold AM at hm
      omega
    obtain ⟨m1, m2, m3⟩ := m1
    have ac := x1'.2.2.2.2.2.2.2.1.2.2.2.2.2.2.2 p (x1 - 1) h1 h1' (by omega) (by omega)
    rw [if_pos m3] at ac
    have ob := sOth_b (p := p) hv (w := x1 - 1) (by omega) (by omega)
    have a2 := sAf_b (l := l) (st := st) (q := sOth l (x1 - 1) p) (n := n) hs1 hs2 h3 h3'
    have z : wr (wr (wr (p * 24) + x1) - 1) = p * 24 + (x1 - 1) := by
      try simp (disch := omega) only [wr_id]
      omega
    rw [z, ac, x1'.2.2.2.2.2.2.2.2.2.1]
    refine ck_i rfl (ck_i rfl (ck_i (jb_i (by omega) (by omega)) (cd_f (by omega) (ck_i rfl (ck_i rfl ?_)))))
    refine c_207 ha x1'.2.2.2.2.2.2.2.1 hv2 ob.1 ob.2 (by omega) (by omega) (fun v2 e2 => ck_i rfl ?_)
    subst e2
    try simp (disch := omega) only [wr_id]
    refine c_271 hd x1'.2.2.2.2.2.2.2.2.2.2.1 ob.1 (by omega) (by omega) (by omega) (by omega) (by omega) (fun v3 e3 => ck_i (by rw [s0, lk ha]; rfl) ?_)
    rw [s0]
    have t2' : (u2 (u2 (u2 F 22 13 (sp d (h + 1) p (sAf l st p n))) 22 14 (sSh l h)) 22 15 0) 22 9 = h := by
      rw [u2_n (by decide), u2_n (by decide), u2_n (by decide)]
      exact t2
    have t4' : (u2 (u2 (u2 F 22 13 (sp d (h + 1) p (sAf l st p n))) 22 14 (sSh l h)) 22 15 0) 22 11 = sSh l h := by
      rw [u2_n (by decide), u2_n (by decide), u2_n (by decide)]
      exact t4
    rw [t2']
    have k2 := KA_u (j := 13) (v := v3) k1 (by omega)
    refine c_206 ha (YX_a hx k2).2.2.2.2.2.2.2.1 hv4 (by omega) (by omega) h2 (by omega) (fun v4 e4 => ⟨_, _, _, rfl, ?_⟩)
    have hN := hvs (x1 - 1) h (by omega) (by omega) (by omega) (by omega)
    have w11 : (u2 (u2 (u2 (u2 F 22 13 (sp d (h + 1) p (sAf l st p n))) 22 14 (sSh l h)) 22 15 0) 22 13 v3) 22 11 = sSh l h := by
      rw [u2_n (by decide)]
      exact t4'
    rw [w11]
    have sy0 : sSy l h ≠ 1 → sSn l (x1 - 1) h = 0 := by
      intro q
      apply Classical.byContradiction
      intro y
      apply q
      unfold sSy
      exact if_pos ⟨x1 - 1, by omega, by omega, by omega⟩
    have dif : 0 ≤ sSh l h - v4 ∧ sSh l h - v4 ≤ 16 := by
      by_cases q : sSy l h = 1
      · have : sSh l h = 16 := if_pos q
        omega
      · have := sy0 q
        omega
    rw [wr_id (a := sSh l h - v4) (by omega) (by omega)]
    refine hk _ (KA_u (KA_u k2 (by omega)) (by omega)) ⟨?_, ?_, ?_, sOth l (x1 - 1) p, Or.inr ⟨m1, rfl⟩, ?_, fun f => ?_⟩
    · simp (disch := omega) only [u2_n]
      exact t5
    · rw [u2_n (by decide), u2_s]
      omega
    · rw [u2_s]
      exact dif
    · rw [u2_n (by decide), u2_n (by decide), u2_s, e3]
    · rw [u2_n (by decide), u2_s, u2_s, e4]
      unfold sBr sSh
      rw [if_neg (show ¬ x1 = 0 by omega)]
      by_cases q : sSy l h = 1
      · rw [if_pos q, if_pos q]
      · rw [if_neg q, if_neg q, sy0 q]
        omega
theorem sSum_0 {c : Int → Prop} {g : Int → Int} : ∀ {n : Nat}, (∀ k : Int, 0 ≤ k → k < n → ¬ c k) → sSum c g n = 0 := by
  intro n
  induction n with
  | zero => intro _; rfl
  | succ m ih =>
    intro h
    have e := sSum_f (g := g) (i := (m : Int)) (by omega) (h m (by omega) (by omega))
    rw [show ((m : Int) + 1).toNat = m + 1 by omega, show ((m : Int)).toNat = m by omega] at e
    rw [e]
    exact ih (fun k a b => h k a (by omega))
theorem sSum_e {c : Int → Prop} {g : Int → Int} {m : Nat} : ∀ {n : Nat}, m ≤ n → (∀ k : Int, m ≤ k → k < n → ¬ c k) → sSum c g n = sSum c g m := by
  intro n
  induction n with
  | zero => intro h _; rw [Nat.le_zero.mp h]
  | succ j ih =>
    intro h hn
    by_cases q : m = j + 1
    · rw [q]
    · have e := sSum_f (g := g) (i := (j : Int)) (by omega) (hn j (by omega) (by omega))
      rw [show ((j : Int) + 1).toNat = j + 1 by omega, show ((j : Int)).toNat = j by omega] at e
      rw [e]
      exact ih (by omega) (fun k a b => hn k a (by omega))
/-- what stands in a table's columns where the move leads -/
def YL (G : FJ) (d : Nat) (l : Nat → Int) (st h q n : Int) (f : Int → Int → Int → Int) (cs : Int) : Prop := ∀ c : Int, 0 ≤ c → c < 12 → bit cs c → G (d + 1) (sp d (h + 1) q (sAf l st q n) * 12 + c).toNat = f c q (sAf l st q n) ∧ B5 (f c q (sAf l st q n))
theorem l_269 {Q : Rs → Mm → Prop} {a b c d : Nat} {l : Nat → Int} {w : La} {st h p n m x1 y2 x5 : Int} {f : Int → Int → Int → Int} {S : FS} {F : FI} {G : FJ} (hx : YX S F G a b c d l w st) (h1 : 0 ≤ p) (h1' : p < l 0) (h2 : 0 ≤ h) (h2' : h < l 3) (h3 : 1 ≤ n) (h3' : n ≤ st) (ha : AI F d l st h p n m) (hm : m ≤ l 1)
    (hx0 : 0 ≤ x1) (hx1 : x1 < 4096) (hf : ∀ q, (q = p ∨ 1 ≤ m ∧ q = sOth l (m - 1) p) → YL G d l st h q n f x1) (h5 : 0 ≤ x5) (h5' : x5 ≤ 12) (hy : y2 = sSum (bit x1) (fun c => sBr l st h p n m (f c)) x5.toNat) (hyb : -(x5 * 36028797018963968) ≤ y2 ∧ y2 ≤ x5 * 36028797018963968)
    (hq : Q (.inl (some (.inr (.inl (sSum (bit x1) (fun c => sBr l st h p n m (f c)) 12))))) (mm S F G)) : wph 2 269 17 [.inr (.inr (.inl 22)), .inl x1, .inr (.inl y2), jk, jk, .inl x5] [] (mm S F G) (0, 0) Q := by
  obtain ⟨ha', hb, hc, hd, ⟨s0, s1, s2, s3⟩, hv, hw, hl, hrw, hst, htw, hs1, hs2⟩ := id hx
  have hv' := hv
  obtain ⟨⟨hv1, hv2⟩, ⟨hv3, hv4⟩, ⟨hv5, hv6⟩, ⟨hv7, hv8⟩, ⟨hv9, hv10⟩, ⟨hv11, hv12⟩, ⟨hv13, hv14⟩, hvw, hvs, hvk, hvc, hvx⟩ := id hv
  obtain ⟨t1, ⟨t2, t2'⟩, ⟨t3, t3'⟩, q, t4, t5, t6⟩ := id ha
  have hb0 : 0 ≤ q ∧ q < l 0 := by
    rcases t4 with e | ⟨e1, e2⟩
    · omega
    · have := sOth_b (p := p) hv (w := m - 1) (by omega) (by omega)
      omega
  have fp := hf p (Or.inl rfl)
  have fq := hf q t4
  have ap := sAf_b (l := l) (st := st) (q := p) (n := n) hs1 hs2 h3 h3'
  have aq := sAf_b (l := l) (st := st) (q := q) (n := n) hs1 hs2 h3 h3'
  have bp := sp_b (h := h + 1) (p := p) (n := sAf l st p n) hd (by omega) (by omega) h1 (by omega) (by omega) (by omega)
  have bq := sp_b (h := h + 1) (p := q) (n := sAf l st q n) hd (by omega) (by omega) hb0.1 (by omega) (by omega) (by omega)
  have big : ∀ c : Int, 0 ≤ c → c < 12 → bit x1 c → -36028797018963968 ≤ sBr l st h p n m (f c) ∧ sBr l st h p n m (f c) ≤ 36028797018963968 ∧ (-18014398509481984 ≤ F 22 14 * f c p (sAf l st p n) ∧ F 22 14 * f c p (sAf l st p n) ≤ 18014398509481984) ∧ (-18014398509481984 ≤ F 22 15 * f c q (sAf l st q n) ∧ F 22 15 * f c q (sAf l st q n) ≤ 18014398509481984) := by
    intro c c0 c1 cb
    have e1 := (fp c c0 c1 cb).2
    have e2 := (fq c c0 c1 cb).2
    unfold B5 at e1 e2
    have m1 := mul_b (a := f c p (sAf l st p n)) (b := F 22 14) (c := 1125899906842624) e1.1 e1.2 t2
    have m2 := mul_b (a := f c q (sAf l st q n)) (b := F 22 15) (c := 1125899906842624) e2.1 e2.2 t3
    have e3 := t6 (f c)
    rw [Int.mul_comm (F 22 14), Int.mul_comm (F 22 15)] at e3
    rw [Int.mul_comm (F 22 14), Int.mul_comm (F 22 15)]
    omega
  refine sg_269_17 ?_
  simp only [s3, tk hd, tk1 hd, tk2 hd, tr1 hd, tr2 hd, t1, t5]
  try simp (disch := omega) only [wr_id]
  refine cn_i (fun g => ?_) (fun g => ?_)
  · obtain ⟨X, rfl⟩ := Int.eq_ofNat_of_zero_le hx0
    obtain ⟨C, rfl⟩ := Int.eq_ofNat_of_zero_le h5
    refine cn_i (fun z => ?_) (fun z => ?_)
    · rw [sar_n (by omega) (by omega)] at z
      have no : ∀ k : Int, (C : Int) ≤ k → k < (12 : Nat) → ¬ bit (X : Int) k := by
        intro k k1 k2 kb
        obtain ⟨K, rfl⟩ := Int.eq_ofNat_of_zero_le (show 0 ≤ k by omega)
        rw [bit_tb] at kb
        have hp : 2 ^ C ≤ 2 ^ K := Nat.pow_le_pow_right (by decide) (by omega)
        have hl : X < 2 ^ C := by
          have z' : X / 2 ^ C = 0 := by omega
          exact (Nat.div_eq_zero_iff_lt (Nat.two_pow_pos C)).mp z'
        rw [Nat.testBit_lt_two_pow (by omega)] at kb
        exact absurd kb (by decide)
      rw [sSum_e (m := C) (by omega) no] at hq
      rw [hy, show ((C : Int)).toNat = C by omega]
      exact hq
    · refine cn_i (fun y => ?_) (fun y => ?_)
      · rw [bit_z (by omega) (by omega) (by omega) (by omega)] at y
        exact l_269 hx h1 h1' h2 h2' h3 h3' ha hm hx0 hx1 hf (by omega) (by omega) (by rw [sSum_f h5 y]; exact hy) (by omega) hq
      · rw [bit_z (by omega) (by omega) (by omega) (by omega), Classical.not_not] at y
        obtain ⟨b1, b2, ⟨b3, b4⟩, b5, b6⟩ := big _ h5 (by omega) y
        have g1 := (fp _ h5 (by omega) y).1
        have g2 := (fq _ h5 (by omega) y).1
        refine ck_i rfl (ck_i rfl (ck_i (jb_i (by omega) (by omega)) (ck_i rfl (ck_i rfl (ck_i (jb_i (by omega) (by omega)) ?_)))))
        rw [g1, g2, wl_id (a := F 22 14 * _) (by omega) (by omega), wl_id (a := F 22 15 * _) (by omega) (by omega), t6 (f (C : Int)), wl_id (a := sBr _ _ _ _ _ _ _) (by omega) (by omega), wl_id (by omega) (by omega)]
        exact l_269 hx h1 h1' h2 h2' h3 h3' ha hm hx0 hx1 hf (by omega) (by omega) (by rw [sSum_t h5 y, hy]) (by omega) hq
  · have : x5 = 12 := by omega
    subst this
    rw [hy]
    exact hq
termination_by (12 - x5).toNat
decreasing_by all_goals omega
theorem c_342l {k : Int → FS → FI → FJ → Prop} {x : Nat} {S : FS} {F : FI} {G : FJ} (h1 : 1 ≤ x) (hx : x < 268435456) (hk : ∀ j q : Nat, x = 2 ^ j * (2 * q + 1) → k (j : Int) S F G) : calI 0 342 [.inl (wr (an (x : Int) (wr (-(x : Int))) - 1))] (mm S F G) k nof := by
  obtain ⟨j, q, e⟩ := low_f x h1
  have hj : j < 28 := low_k (n := 28) e (by omega)
  have hp : 2 ^ j ≤ 2 ^ 27 := Nat.pow_le_pow_right (by decide) (by omega)
  have hp1 := Nat.two_pow_pos j
  rw [low_i e hx, wr_id (by omega) (by omega), show ((2 ^ j : Nat) : Int) - 1 = ((2 ^ j - 1 : Nat) : Int) by omega]
  exact c_342 (by omega) (fun v hv => by rw [hv, pcn_p j 32 (by omega)]; exact hk j q e)
theorem c_269 {k : Int → FS → FI → FJ → Prop} {a b c d : Nat} {l : Nat → Int} {w : La} {st h p n m x1 : Int} {f : Int → Int → Int → Int} {S : FS} {F : FI} {G : FJ} (hx : YX S F G a b c d l w st) (h1 : 0 ≤ p) (h1' : p < l 0) (h2 : 0 ≤ h) (h2' : h < l 3) (h3 : 1 ≤ n) (h3' : n ≤ st) (ha : AI F d l st h p n m) (hm : m ≤ l 1)
    (hx0 : 1 ≤ x1) (hx1 : x1 < 4096) (hf : ∀ q, (q = p ∨ 1 ≤ m ∧ q = sOth l (m - 1) p) → YL G d l st h q n f x1) (hk : ∀ v, v = sSum (bit x1) (fun c => sBr l st h p n m (f c)) 12 → k v S F G) : calL 2 269 [.inr (.inr (.inl 22)), .inl x1] (mm S F G) k nof := by
  refine sg_269_0 ?_
  obtain ⟨X, rfl⟩ := Int.eq_ofNat_of_zero_le (show 0 ≤ x1 by omega)
  refine c_342l (by omega) (by omega) (fun j q e => ?_)
  have lb := low_b e
  have jl : j < 12 := low_k (n := 12) e (by omega)
  refine l_269 hx h1 h1' h2 h2' h3 h3' ha hm (by omega) hx1 hf (by omega) (by omega) ?_ (by omega) ⟨_, _, _, rfl, hk _ rfl⟩
  rw [show ((j : Int)).toNat = j by omega]
  exact (sSum_0 (fun k a b => by
    obtain ⟨K, rfl⟩ := Int.eq_ofNat_of_zero_le a
    exact lb.2 K (by omega))).symm
