/-! ===== the class answers: the best round of orders ===== -/
theorem lowF_b (r : Int → Int) : ∀ k : Nat, -1 ≤ lowF r k ∧ lowF r k < k := by
  intro k
  induction k with
  | zero =>
    show -1 ≤ (-1 : Int) ∧ (-1 : Int) < ((0 : Nat) : Int)
    omega
  | succ k ih =>
    unfold lowF
    split <;> omega
theorem highF_b (r : Int → Int) (low : Int) : ∀ c : Nat, 0 ≤ highF r low c ∧ highF r low c ≤ c := by
  intro c
  induction c with
  | zero =>
    show 0 ≤ (0 : Int) ∧ (0 : Int) ≤ ((0 : Nat) : Int)
    omega
  | succ c ih =>
    unfold highF
    split <;> omega
def RN (F : FI) (n : Int) (r : Int → Int) : Prop := ∀ j : Int, 0 ≤ j → j < n → F 15 j.toNat = r j
theorem c_252 {k : FS → FI → FJ → Prop} {n i j : Int} {r : Int → Int} {S : FS} {F : FI} {G : FJ} (hn : n ≤ 5) (hr : RN F n r) (i0 : 0 ≤ i) (i1 : i < n) (j0 : 0 ≤ j) (j1 : j < n) (hk : ∀ F', (∀ c, c ≠ 15 → F' c = F c) → RN F' n (swF r i j) → k S F' G) : calV 0 252 [.inr (.inr (.inl 11)), .inl i, .inl j] (mm S F G) k nof := by
  refine sg_252_0 ?_
  simp only [show kk 11 = (0, 5) from rfl, show rr 11 3 = 15 from rfl, show kk 15 = (1, 5) from rfl]
  refine ck_i rfl (ck_i rfl (ck_i (jb_i i0 (by omega)) (ck_i rfl (ck_i rfl (ck_i rfl (ck_i (jb_i j0 (by omega)) (ck_i rfl (ck_i (jb_i i0 (by omega)) (ck_i rfl (ck_i rfl (ck_i (jb_i j0 (by omega)) ⟨_, _, _, rfl, hk _ (fun c hc => ?_) (fun x x0 x1 => ?_)⟩)))))))))))
  · rw [u2_o hc, u2_o hc]
  · unfold swF
    rw [hr i i0 i1, hr j j0 j1, u2_k, u2_k]
    by_cases q : x = j
    · rw [if_pos (by omega), if_pos q]
    · rw [if_neg (by omega), if_neg q]
      by_cases q2 : x = i
      · rw [if_pos (by omega), if_pos q2]
      · rw [if_neg (by omega), if_neg q2]
        exact hr x x0 x1
theorem l_251_83 {Q : Rs → Mm → Prop} {n : Int} {S : FS} {F0 : FI} {G : FJ} (hn : n ≤ 5) : ∀ (f : Nat) (i j : Int) (r : Int → Int) (F : FI), j - i < 2 * f → 0 ≤ i → j < n → i ≤ j + 2 → RN F n r → (∀ c, c ≠ 15 → F c = F0 c) → (∀ F', (∀ c, c ≠ 15 → F' c = F0 c) → RN F' n (revF f r i j) → Q (.inl (some (.inl 1))) (mm S F' G)) →
    wph 1 251 83 [.inr (.inr (.inl 11)), jk, jk, jk, .inl i, .inl j] [] (mm S F G) (0, 0) Q := by
  intro f
  induction f with
  | zero =>
    intro i j r F h1 h2 h3 h4 hr hF hk
    exact sg_251_83 (cd_f (by omega) (hk F hF hr))
  | succ f ih =>
    intro i j r F h1 h2 h3 h4 hr hF hk
    refine sg_251_83 (cn_i (fun z => ?_) (fun z => ?_))
    · refine ck_i rfl (c_252 hn hr h2 (by omega) (by omega) h3 (fun F' f1 f2 => ?_))
      rw [wr_id (a := i + 1) (by omega) (by omega), wr_id (a := j + (-1)) (by omega) (by omega), show j + (-1) = j - 1 by omega]
      refine ih (i + 1) (j - 1) (swF r i j) F' (by omega) (by omega) (by omega) (by omega) f2 (fun c hc => (f1 c hc).trans (hF c hc)) (fun F'' g1 g2 => hk F'' g1 ?_)
      have e : revF (f + 1) r i j = revF f (swF r i j) (i + 1) (j - 1) := if_pos z
      rw [e]
      exact g2
    · have e : revF (f + 1) r i j = r := if_neg z
      rw [e] at hk
      exact hk F hF hr
theorem l_251_41 {Q : Rs → Mm → Prop} {n low : Int} {r : Int → Int} {S : FS} {F : FI} {G : FJ} (hn : n ≤ 5) (hr : RN F n r) (h0 : 0 ≤ low) (h1 : low < n - 1) (hk : ∀ F', (∀ c, c ≠ 15 → F' c = F c) → RN F' n (revF 3 (swF r low (highF r low (n - 1).toNat)) (low + 1) (n - 1)) → Q (.inl (some (.inl 1))) (mm S F' G)) :
    ∀ c : Nat, (c : Int) < n → highF r low c = highF r low (n - 1).toNat → wph 1 251 41 [.inr (.inr (.inl 11)), .inl n, .inl low, .inl (c : Int)] [] (mm S F G) (0, 0) Q := by
  have fin : ∀ c : Int, 0 ≤ c → c < n → c = highF r low (n - 1).toNat → calV 0 252 [.inr (.inr (.inl 11)), .inl low, .inl c] (mm S F G) (fun S1 F1 G1 => wph 1 251 83 [.inr (.inr (.inl 11)), jk, jk, jk, .inl (wr (low + 1)), .inl (wr (n - 1))] [] (mm S1 F1 G1) (0, 0) Q) nof := by
    intro c c0 c1 e
    refine c_252 hn hr h0 (by omega) c0 c1 (fun F' f1 f2 => ?_)
    rw [wr_id (a := low + 1) (by omega) (by omega), wr_id (a := n - 1) (by omega) (by omega)]
    rw [e] at f2
    exact l_251_83 hn 3 _ _ _ F' (by omega) (by omega) (by omega) (by omega) f2 f1 hk
  intro c
  induction c with
  | zero =>
    intro _ e
    refine sg_251_41 (cd_f (by omega) (ck_i rfl (fin 0 (by omega) (by omega) e)))
  | succ c ih =>
    intro hc e
    refine sg_251_41 ?_
    simp only [show kk 11 = (0, 5) from rfl, show rr 11 3 = 15 from rfl, show kk 15 = (1, 5) from rfl]
    refine cn_i (fun z => ?_) (fun z => ?_)
    · rw [hr ((c + 1 : Nat) : Int) (by omega) hc, hr low h0 (by omega)]
      refine ck_i rfl (ck_i rfl (ck_i (jb_i (by omega) (by omega)) (ck_i rfl (ck_i rfl (ck_i (jb_i h0 (by omega)) (cn_i (fun y => ?_) (fun y => ck_i rfl (fin _ (by omega) hc ?_))))))))
      · rw [wr_id (by omega) (by omega), show ((c + 1 : Nat) : Int) + (-1) = (c : Int) by omega]
        refine ih (by omega) ?_
        have e2 : highF r low (c + 1) = highF r low c := if_pos ⟨by omega, by rw [show (c : Int) + 1 = ((c + 1 : Nat) : Int) by omega]; exact y⟩
        rw [← e2]
        exact e
      · have e2 : highF r low (c + 1) = (c : Int) + 1 := if_neg (fun q => y (by have := q.2; rw [show (c : Int) + 1 = ((c + 1 : Nat) : Int) by omega] at this; exact this))
        rw [← e, e2]
        omega
    · refine ck_i rfl (fin _ (by omega) hc ?_)
      have e2 : highF r low (c + 1) = (c : Int) + 1 := if_neg (fun q => z (by have := q.1; omega))
      rw [← e, e2]
      omega
theorem l_251_4 {Q : Rs → Mm → Prop} {n : Int} {r : Int → Int} {S : FS} {F : FI} {G : FJ} (n1 : 1 ≤ n) (hn : n ≤ 5) (hr : RN F n r) (h0 : lowF r (n - 1).toNat < 0 → Q (.inl (some (.inl 0))) (mm S F G)) (h1 : 0 ≤ lowF r (n - 1).toNat → ∀ F', (∀ c, c ≠ 15 → F' c = F c) → RN F' n (revF 3 (swF r (lowF r (n - 1).toNat) (highF r (lowF r (n - 1).toNat) (n - 1).toNat)) (lowF r (n - 1).toNat + 1) (n - 1)) → Q (.inl (some (.inl 1))) (mm S F' G)) :
    ∀ k : Nat, (k : Int) < n → lowF r k = lowF r (n - 1).toNat → wph 1 251 4 [.inr (.inr (.inl 11)), .inl n, .inl ((k : Int) - 1)] [] (mm S F G) (0, 0) Q := by
  intro k
  induction k with
  | zero =>
    intro _ e
    refine sg_251_4 (cd_t (by omega) (cd_t (by omega) (h0 ?_)))
    rw [← e]
    show (-1 : Int) < 0
    decide
  | succ k ih =>
    intro hk e
    refine sg_251_4 (cd_f (by omega) ?_)
    simp only [show kk 11 = (0, 5) from rfl, show rr 11 3 = 15 from rfl, show kk 15 = (1, 5) from rfl]
    rw [wr_id (a := ((k + 1 : Nat) : Int) - 1 + 1) (by omega) (by omega), hr (((k + 1 : Nat) : Int) - 1 + 1) (by omega) (by omega), hr (((k + 1 : Nat) : Int) - 1) (by omega) (by omega), show ((k + 1 : Nat) : Int) - 1 + 1 = (k : Int) + 1 by omega, show ((k + 1 : Nat) : Int) - 1 = (k : Int) by omega]
    refine ck_i rfl (ck_i rfl (ck_i (jb_i (by omega) (by omega)) (ck_i rfl (ck_i rfl (ck_i (jb_i (by omega) (by omega)) (cn_i (fun y => ?_) (fun y => cd_f (by omega) ?_)))))))
    · rw [wr_id (by omega) (by omega), show (k : Int) + (-1) = (k : Int) - 1 by omega]
      refine ih (by omega) ?_
      have e2 : lowF r (k + 1) = lowF r k := if_pos y
      rw [← e2]
      exact e
    · have e2 : lowF r (k + 1) = (k : Int) := if_neg y
      rw [e2] at e
      have h1' := h1 (by omega)
      rw [← e] at h1'
      rw [wr_id (a := n - 1) (by omega) (by omega)]
      have := l_251_41 hn hr (by omega) (by omega) h1' (n - 1).toNat (by omega) rfl
      rw [show (((n - 1).toNat : Nat) : Int) = n - 1 by omega] at this
      exact this
theorem c_251 {k : Int → FS → FI → FJ → Prop} {n : Int} {r : Int → Int} {S : FS} {F : FI} {G : FJ} (n1 : 1 ≤ n) (hn : n ≤ 5) (hr : RN F n r) (h0 : lowF r (n - 1).toNat < 0 → k 0 S F G) (h1 : 0 ≤ lowF r (n - 1).toNat → ∀ F', (∀ c, c ≠ 15 → F' c = F c) → RN F' n (nxR n.toNat r) → k 1 S F' G) : calI 1 251 [.inr (.inr (.inl 11)), .inl n] (mm S F G) k nof := by
  refine sg_251_0 ?_
  rw [wr_id (a := n - 2) (by omega) (by omega)]
  have e1 : n.toNat - 1 = (n - 1).toNat := by omega
  have e2 : ((n.toNat : Nat) : Int) - 1 = n - 1 := by omega
  have := l_251_4 (Q := fun a => (fun M => ∃ S F G, M = mm S F G ∧ (match a with | .inl (some (.inl x)) => k x S F G | .inr e => nof e S F G | _ => False))) (S := S) (F := F) (G := G) n1 hn hr (fun q => ⟨_, _, _, rfl, h0 q⟩) (fun q F' f1 f2 => ⟨_, _, _, rfl, h1 q F' f1 (by unfold nxR; rw [e1, e2]; exact f2)⟩) (n - 1).toNat (by omega) rfl
  rw [show (((n - 1).toNat : Nat) : Int) - 1 = n - 2 by omega] at this
  exact this
theorem dgS_b {r : Int → Int} (h : ∀ j : Int, 0 ≤ j → j < 5 → 0 ≤ r j ∧ r j < 5) : ∀ i : Nat, i ≤ 5 → 0 ≤ dgS r i ∧ dgS r i ≤ 99999 ∧ (i ≤ 4 → dgS r i ≤ 9999) ∧ (i ≤ 3 → dgS r i ≤ 999) ∧ (i ≤ 2 → dgS r i ≤ 99) ∧ (i ≤ 1 → dgS r i ≤ 9) ∧ (i ≤ 0 → dgS r i ≤ 0) := by
  intro i
  induction i with
  | zero => intro _; simp [dgS]
  | succ i ih =>
    intro hi
    have a := ih (by omega)
    have b := h i (by omega) (by omega)
    have e : dgS r (i + 1) = dgS r i * 10 + r i := rfl
    rw [e]
    omega
theorem l_250 {Q : Rs → Mm → Prop} {n : Int} {r : Int → Int} {S : FS} {F : FI} {G : FJ} (hn : n ≤ 5) (hr : RN F n r) (hb : ∀ j : Int, 0 ≤ j → j < n → 0 ≤ r j ∧ r j < 5) (hk : Q (.inl (some (.inl (dgS r n.toNat)))) (mm S F G)) : ∀ (K i : Nat), (K : Int) = n - i → 0 ≤ dgS r i → dgS r i < 10 ^ i → wph 0 250 4 [.inr (.inr (.inl 11)), .inl n, .inl (dgS r i), .inl (i : Int)] [] (mm S F G) (0, 0) Q := by
  intro K
  induction K with
  | zero =>
    intro i hi b0 b1
    refine sg_250_4 (cd_f (by omega) ?_)
    rw [show n.toNat = i by omega] at hk
    exact hk
  | succ K ih =>
    intro i hi b0 b1
    refine sg_250_4 (cd_t (by omega) ?_)
    simp only [show kk 11 = (0, 5) from rfl, show rr 11 3 = 15 from rfl, show kk 15 = (1, 5) from rfl]
    have bi := hb i (by omega) (by omega)
    have pw : (10 : Int) ^ (i + 1) = 10 ^ i * 10 := Int.pow_succ 10 i
    have pm : (10 : Int) ^ i ≤ 10000 := by
      have e : i = 0 ∨ i = 1 ∨ i = 2 ∨ i = 3 ∨ i = 4 := by omega
      rcases e with e | e | e | e | e <;> subst e <;> decide
    rw [hr i (by omega) (by omega), wr_id (a := dgS r i * 10) (by omega) (by omega), wr_id (a := dgS r i * 10 + r i) (by omega) (by omega), wr_id (a := (i : Int) + 1) (by omega) (by omega), show (i : Int) + 1 = ((i + 1 : Nat) : Int) by omega]
    have e : dgS r i * 10 + r i = dgS r (i + 1) := rfl
    rw [e]
    exact ck_i rfl (ck_i rfl (ck_i (jb_i (by omega) (by omega)) (ih (i + 1) (by omega) (by rw [← e]; omega) (by rw [← e, pw]; omega))))
theorem c_250 {k : Int → FS → FI → FJ → Prop} {n : Int} {r : Int → Int} {S : FS} {F : FI} {G : FJ} (n1 : 0 ≤ n) (hn : n ≤ 5) (hr : RN F n r) (hb : ∀ j : Int, 0 ≤ j → j < n → 0 ≤ r j ∧ r j < 5) (hk : k (dgS r n.toNat) S F G) : calI 0 250 [.inr (.inr (.inl 11)), .inl n] (mm S F G) k nof :=
  sg_250_0 (l_250 hn hr hb ⟨_, _, _, rfl, hk⟩ n.toNat 0 (by omega) (show (0 : Int) ≤ 0 by decide) (show (0 : Int) < 10 ^ 0 by decide))
/-- cells of what is tried may change -/
theorem YK_e {S : FS} {F F' : FI} {G : FJ} {a b : Nat} {l s : Nat → Int} {w : La} (h : YK S F G a b l s w) (o1 : ∀ c, ¬ (11 ≤ c ∧ c ≤ 15) → F' c = F c) : YK S F' G a b l s w ∧ QC S S F F' G G := by
  obtain ⟨ha, hb, -, -, -, -, -, -, -, v1, v2, v3, v4, v5, v6⟩ := id h
  have q : QC S S F F' G G := ⟨fun c hc => o1 c (by unfold kpC at hc; omega), fun i _ => by rw [o1 1 (by decide)], fun _ _ => rfl, fun _ _ _ => rfl⟩
  refine ⟨YK_q h q ⟨?_, ?_, ?_, ?_, ?_, fun z => ?_⟩, q⟩
  · rw [o1 23 (by decide)]; exact v1
  · unfold RK
    rw [o1 22 (by decide), o1 24 (by decide)]
    exact v2
  · rw [o1 16 (by decide)]; exact v3
  · rw [o1 19 (by decide)]; exact v4
  · rw [o1 1 (by decide)]; exact v5
  · rw [o1 1 (by decide)] at z
    have := v6 z
    unfold SOL at this ⊢
    rw [o1 7 (by decide), o1 6 (by decide), o1 18 (by decide)]
    exact this
theorem l_29 {Q : Rs → Mm → Prop} {a b : Nat} {F0 : FI} {G0 : FJ} {x1 tot : Int} {S0 : FS} {Fz : FI} {Gz : FJ} (hm : MV F0 G0) (p0 : -1 ≤ x1) (p1 : x1 < F0 100 2) (hk : ∀ S' F' G', YK S' F' G' a b (F0 100) (F0 112) (mL F0) → QC S0 S' Fz F' Gz G' → Q (.inl (some (.inl tot))) (mm S' F' G')) :
    ∀ (t : List Int) (d x2 y3 x6 : Int) (S : FS) (F : FI) (G : FJ), YK S F G a b (F0 100) (F0 112) (mL F0) → QC S0 S Fz F Gz G → F 11 4 = F0 100 4 → SLo F (F0 100) (F0 112) → RN F (F0 100 2) (dg (F0 100 2) d) → chkL (F0 100 2).toNat (d :: t) = true → 0 ≤ x6 → x6 + (d :: t).length ≤ 120 → (x2 ≠ -1 → y3 = sOrV F0 x1 x2) → ob (sOrV F0 x1) x2 (d :: t) = tot →
      wph 7 29 34 [.inr (.inr (.inl 1)), .inl x1, .inl x2, .inr (.inl y3), jk, .inl 1, .inl x6] [] (mm S F G) (2, 12) Q := by
  have hv := hm.1
  obtain ⟨⟨hv1, hv2⟩, ⟨hv3, hv4⟩, ⟨hv5, hv6⟩, ⟨hv7, hv8⟩, ⟨hv9, hv10⟩, ⟨hv11, hv12⟩, ⟨hv13, hv14⟩, hvw, hvs, hvk, hvc, hvx⟩ := id hv
  have nn : (((F0 100 2).toNat : Nat) : Int) = F0 100 2 := by omega
  intro t
  induction t with
  | nil =>
    intro d x2 y3 x6 S F G hk0 hq h4 hsl hr hc h6 hlen e3 hob
    obtain ⟨ha, hb, ⟨k1, k2, k3, k4⟩, -, hs, hlw, hl, hrw, hpr, -⟩ := id hk0
    unfold chkL nbL at hc
    simp only [Bool.and_eq_true, decide_eq_true_eq, nn] at hc
    obtain ⟨⟨c1, c2, c3⟩, c4, -⟩ := hc
    have cb : ∀ j : Int, 0 ≤ j → j < F0 100 2 → 0 ≤ dg (F0 100 2) d j ∧ dg (F0 100 2) d j < F0 100 2 := fun j j0 j1 => by
      have := c1 j.toNat (by omega)
      rw [show ((j.toNat : Nat) : Int) = j by omega] at this
      exact this
    have hs53 := hs.2.2.2.1
    have fb : ∀ h, 0 ≤ h → h < F0 100 3 → 0 ≤ fOr F0 d h ∧ fOr F0 d h < F0 100 2 := fun h h0 h1 => by
      have dd := div_b (d := F0 112 53) h0 hs53.1
      have md := mod_b (d := F0 100 2) dd.1 hv5
      exact cb _ md.1 md.2
    have hob' : (if x2 = -1 ∨ sOrV F0 x1 x2 < sOrV F0 x1 d then d else x2) = tot := hob
    simp only [List.length_cons, List.length_nil] at hlen
    refine tg_29_34 (cd_t (by omega) (cd_f (by decide) ?_))
    rw [k1, hpr.2.2.2.1]
    refine m_led (f := fOr F0 d) hm hk0 h4 hsl hs53.1 hs53.2 p0 p1 (fun h h0 h1 => ?_) fb (fun S' F' G' y1 y2 y3' y4 y5 => ?_)
    · have dd := div_b (d := F0 112 53) h0 hs53.1
      have md := mod_b (d := F0 100 2) dd.1 hv5
      exact (hr _ md.1 md.2).symm
    · have ev : sTo (F0 100) (cLw F0 (fOr F0 d)) (F0 100 4) x1 = sOrV F0 x1 d := rfl
      rw [ev]
      have hl' := y1.2.2.2.2.2.2.1
      have k1' := y1.2.2.1.1
      have hr' : RN F' (F0 100 2) (dg (F0 100 2) d) := fun j j0 j1 => by rw [y5]; exact hr j j0 j1
      have fin : ∀ (b2 y : Int), b2 = tot → chk (kq (kk (S' 1 0)) 0 0) (calI 1 251 [.inr (.inr (.inl 11)), .inl (F' (S' 1 0) 11)] (mm S' F' G') (fun v8 S8 F8 G8 => wph 7 29 34 [.inr (.inr (.inl 1)), .inl x1, .inl b2, .inr (.inl y), jk, .inl v8, .inl (wr (x6 + 1))] [] (mm S8 F8 G8) (2, 12) Q) nof) := by
        intro b2 y hb2
        rw [k1', lk ha, hl'.1.2.2.1, wr_id (a := x6 + 1) (by omega) (by omega)]
        refine ck_i rfl (c_251 hv5 hv6 hr' (fun _ => ?_) (fun q => ?_))
        · refine tg_29_34 (cn_i (fun _ => cd_t rfl ?_) (fun _ => ?_))
          · rw [hb2]; exact hk S' F' G' y1 (QC_t hq y2)
          · rw [hb2]; exact hk S' F' G' y1 (QC_t hq y2)
        · rw [show (F0 100 2).toNat - 1 = (F0 100 2 - 1).toNat by omega] at c4
          omega
      have dig : chk (kq (kk (S' 1 0)) 0 0) (calI 0 250 [.inr (.inr (.inl 11)), .inl (F' (S' 1 0) 11)] (mm S' F' G') (fun v4 S4 F4 G4 => chk (kq (kk (S4 1 0)) 0 0) (calI 1 251 [.inr (.inr (.inl 11)), .inl (F4 (S4 1 0) 11)] (mm S4 F4 G4) (fun v5 S5 F5 G5 => wph 7 29 34 [.inr (.inr (.inl 1)), .inl x1, .inl v4, .inr (.inl (sOrV F0 x1 d)), jk, .inl v5, .inl (wr (x6 + 1))] [] (mm S5 F5 G5) (2, 12) Q) nof)) nof) ∨ ¬ (x2 = -1 ∨ sOrV F0 x1 x2 < sOrV F0 x1 d) := by
        by_cases u : x2 = -1 ∨ sOrV F0 x1 x2 < sOrV F0 x1 d
        · left
          rw [if_pos u] at hob'
          rw [k1', lk ha, hl'.1.2.2.1]
          refine ck_i rfl (c_250 (by omega) hv6 hr' (fun j j0 j1 => by have := cb j j0 j1; omega) ?_)
          rw [c2]
          exact fin d _ hob'
        · exact Or.inr u
      refine cn_i (fun u => ?_) (fun u => cn_i (fun u2 => ?_) (fun u2 => ?_))
      · exact dig.resolve_right (fun q => q (Or.inl u))
      · rw [e3 u] at u2
        exact dig.resolve_right (fun q => q (Or.inr (lc_p.mp u2)))
      · rw [e3 u] at u2
        rw [if_neg (fun r => r.elim u (fun r => u2 (lc_p.mpr r)))] at hob'
        exact fin x2 y3 hob'
  | cons e t ih =>
    intro d x2 y3 x6 S F G hk0 hq h4 hsl hr hc h6 hlen e3 hob
    obtain ⟨ha, hb, ⟨k1, k2, k3, k4⟩, -, hs, hlw, hl, hrw, hpr, -⟩ := id hk0
    have hc' : nbL (F0 100 2).toNat d = true ∧ (0 ≤ lowF (dg ((F0 100 2).toNat : Int) d) ((F0 100 2).toNat - 1) ∧ ∀ j : Nat, j < (F0 100 2).toNat → nxR (F0 100 2).toNat (dg ((F0 100 2).toNat : Int) d) j = dg ((F0 100 2).toNat : Int) e j) ∧ chkL (F0 100 2).toNat (e :: t) = true := by
      have := hc
      unfold chkL at this
      simp only [Bool.and_eq_true, decide_eq_true_eq] at this
      exact this
    obtain ⟨c0, ⟨c4, c5⟩, c6⟩ := hc'
    unfold nbL at c0
    simp only [Bool.and_eq_true, decide_eq_true_eq, nn] at c0
    rw [nn] at c4
    simp only [nn] at c5
    obtain ⟨c1, c2, c3⟩ := c0
    have cb : ∀ j : Int, 0 ≤ j → j < F0 100 2 → 0 ≤ dg (F0 100 2) d j ∧ dg (F0 100 2) d j < F0 100 2 := fun j j0 j1 => by
      have := c1 j.toNat (by omega)
      rw [show ((j.toNat : Nat) : Int) = j by omega] at this
      exact this
    have hs53 := hs.2.2.2.1
    have fb : ∀ h, 0 ≤ h → h < F0 100 3 → 0 ≤ fOr F0 d h ∧ fOr F0 d h < F0 100 2 := fun h h0 h1 => by
      have dd := div_b (d := F0 112 53) h0 hs53.1
      have md := mod_b (d := F0 100 2) dd.1 hv5
      exact cb _ md.1 md.2
    have hob' : ob (sOrV F0 x1) (if x2 = -1 ∨ sOrV F0 x1 x2 < sOrV F0 x1 d then d else x2) (e :: t) = tot := hob
    simp only [List.length_cons] at hlen
    refine tg_29_34 (cd_t (by omega) (cd_f (by decide) ?_))
    rw [k1, hpr.2.2.2.1]
    refine m_led (f := fOr F0 d) hm hk0 h4 hsl hs53.1 hs53.2 p0 p1 (fun h h0 h1 => ?_) fb (fun S' F' G' y1 y2 y3' y4 y5 => ?_)
    · have dd := div_b (d := F0 112 53) h0 hs53.1
      have md := mod_b (d := F0 100 2) dd.1 hv5
      exact (hr _ md.1 md.2).symm
    · have ev : sTo (F0 100) (cLw F0 (fOr F0 d)) (F0 100 4) x1 = sOrV F0 x1 d := rfl
      rw [ev]
      have hl' := y1.2.2.2.2.2.2.1
      have k1' := y1.2.2.1.1
      have hr' : RN F' (F0 100 2) (dg (F0 100 2) d) := fun j j0 j1 => by rw [y5]; exact hr j j0 j1
      have fin : ∀ (b2 y : Int), (b2 ≠ -1 → y = sOrV F0 x1 b2) → ob (sOrV F0 x1) b2 (e :: t) = tot → chk (kq (kk (S' 1 0)) 0 0) (calI 1 251 [.inr (.inr (.inl 11)), .inl (F' (S' 1 0) 11)] (mm S' F' G') (fun v8 S8 F8 G8 => wph 7 29 34 [.inr (.inr (.inl 1)), .inl x1, .inl b2, .inr (.inl y), jk, .inl v8, .inl (wr (x6 + 1))] [] (mm S8 F8 G8) (2, 12) Q) nof) := by
        intro b2 y hy hb2
        rw [k1', lk ha, hl'.1.2.2.1, wr_id (a := x6 + 1) (by omega) (by omega)]
        refine ck_i rfl (c_251 hv5 hv6 hr' (fun q => ?_) (fun _ F2 f1 f2 => ?_))
        · rw [show (F0 100 2).toNat - 1 = (F0 100 2 - 1).toNat by omega] at c4
          omega
        · obtain ⟨z1, z2⟩ := YK_e y1 (F' := F2) (fun c hc => f1 c (by omega))
          refine ih e b2 y (x6 + 1) S' F2 G' z1 (QC_t (QC_t hq y2) z2) (by rw [f1 11 (by decide)]; exact y3') (SLo_k y4 (f1 13 (by decide)) (f1 14 (by decide)) (by rw [f1 11 (by decide)]) (by rw [f1 11 (by decide)])) (fun j j0 j1 => ?_) c6 (by omega) (by simp only [List.length_cons]; omega) hy hb2
          rw [f2 j j0 j1]
          have := c5 j.toNat (by omega)
          rw [show ((j.toNat : Nat) : Int) = j by omega] at this
          exact this
      have dig : chk (kq (kk (S' 1 0)) 0 0) (calI 0 250 [.inr (.inr (.inl 11)), .inl (F' (S' 1 0) 11)] (mm S' F' G') (fun v4 S4 F4 G4 => chk (kq (kk (S4 1 0)) 0 0) (calI 1 251 [.inr (.inr (.inl 11)), .inl (F4 (S4 1 0) 11)] (mm S4 F4 G4) (fun v5 S5 F5 G5 => wph 7 29 34 [.inr (.inr (.inl 1)), .inl x1, .inl v4, .inr (.inl (sOrV F0 x1 d)), jk, .inl v5, .inl (wr (x6 + 1))] [] (mm S5 F5 G5) (2, 12) Q) nof)) nof) ∨ ¬ (x2 = -1 ∨ sOrV F0 x1 x2 < sOrV F0 x1 d) := by
        by_cases u : x2 = -1 ∨ sOrV F0 x1 x2 < sOrV F0 x1 d
        · left
          rw [if_pos u] at hob'
          rw [k1', lk ha, hl'.1.2.2.1]
          refine ck_i rfl (c_250 (by omega) hv6 hr' (fun j j0 j1 => by have := cb j j0 j1; omega) ?_)
          rw [c2]
          have := fin d _ (fun _ => rfl) hob'
          rw [k1', lk ha, hl'.1.2.2.1] at this
          rw [k1', lk ha, hl'.1.2.2.1]
          exact this
        · exact Or.inr u
      refine cn_i (fun u => ?_) (fun u => cn_i (fun u2 => ?_) (fun u2 => ?_))
      · exact dig.resolve_right (fun q => q (Or.inl u))
      · rw [e3 u] at u2
        exact dig.resolve_right (fun q => q (Or.inr (lc_p.mp u2)))
      · rw [e3 u] at u2
        rw [if_neg (fun r => r.elim u (fun r => u2 (lc_p.mpr r)))] at hob'
        exact fin x2 y3 e3 hob'
theorem p_29 {k : Int → FS → FI → FJ → Prop} {kx : Nat → FS → FI → FJ → Prop} {a b : Nat} {l s : Nat → Int} {w : La} {x1 : Int} {F0 : FI} {G0 : FJ} {S : FS} {F : FI} {G : FJ} (hR : F0 100 = l ∧ F0 112 = s ∧ mL F0 = w) (hM : 1 ≤ F a 9 → MV F0 G0) (hL : hasL S F a) (hK : 1 ≤ F a 9 → YK S F G a b l s w) (noL : F a 9 < 1 → kx 3 S (rfc F 3) G) (noP : 1 ≤ F a 9 → ¬ (-1 ≤ x1 ∧ x1 < l 2) → kx 0 S (rfc F 0) G)
    (ok : 1 ≤ F a 9 → -1 ≤ x1 ∧ x1 < l 2 → ∀ S' F' G', YK S' F' G' a b l s w → QC S S' F F' G G' → k (ob (sOrV F0 x1) (-1) (pf (l 2).toNat (l 2).toNat 0 0)) S' F' G') : calI 7 29 [.inr (.inr (.inl 1)), .inl x1] (mm S F G) k kx := by
  obtain ⟨rfl, rfl, rfl⟩ := hR
  refine sg_29_0 (c_51 hL.1 hL.2 (fun q => ?_) (fun q => ex_3 ⟨_, _, _, rfl, noL q⟩))
  have hk0 := hK q
  obtain ⟨ha, hb, ⟨k1, k2, k3, k4⟩, hv, hs, hw, hl, hrw, hpr, -⟩ := id hk0
  have hv' := hv
  obtain ⟨⟨hv1, hv2⟩, ⟨hv3, hv4⟩, ⟨hv5, hv6⟩, ⟨hv7, hv8⟩, ⟨hv9, hv10⟩, ⟨hv11, hv12⟩, ⟨hv13, hv14⟩, hvw, hvs, hvk, hvc, hvx⟩ := id hv
  refine c_53 ha k1 hl.1.2.2.1 (by omega) (fun p => ?_) (fun p => ex_0 ⟨_, _, _, rfl, noP q p⟩)
  simp only [k1]
  obtain ⟨r1, r2⟩ := rnd_all (F0 100 2).toNat (by omega) (by omega)
  obtain ⟨L, eL⟩ : ∃ L, L = pf (F0 100 2).toNat (F0 100 2).toNat 0 0 := ⟨_, rfl⟩
  rw [← eL] at r1 r2
  refine m_load hk0 (fun F1 y1 q1 h4 hsl h15 _ => ?_)
  cases L with
  | nil => exact absurd r2 (show ¬ (false = true) by decide)
  | cons d t =>
    unfold hdL at r2
    simp only [Bool.and_eq_true, decide_eq_true_eq] at r2
    refine l_29 (tot := ob (sOrV F0 x1) (-1) (pf (F0 100 2).toNat (F0 100 2).toNat 0 0)) (hM q) p.1 p.2 (fun S' F' G' y2 q2 => ⟨_, _, _, rfl, ok q p S' F' G' y2 q2⟩) t d (-1) 0 0 S F1 G y1 q1 h4 hsl (fun j j0 j1 => ?_) r1 (by decide) (by have := r2.2; omega) (fun u => absurd rfl u) (by rw [eL])
    rw [h15 j j0 (by omega)]
    have := r2.1 j.toNat (by omega)
    rw [show ((j.toNat : Nat) : Int) = j by omega, show (((F0 100 2).toNat : Nat) : Int) = F0 100 2 by omega] at this
    exact this.symm
