/-! ===== the reference's choices, on ===== -/
theorem B5_of {x : Int} (h1 : -1125899906842624 ≤ x) (h2 : x ≤ 1125899906842624) : B5 x := ⟨h1, h2⟩
theorem mix_b {n a b : Int} (h1 : 0 ≤ n) (h2 : n ≤ 16) (ha : B5 a) (hb : B5 b) : -18014398509481984 ≤ n * a + (16 - n) * b ∧ n * a + (16 - n) * b ≤ 18014398509481984 := by
  unfold B5 at ha hb
  have h3 : n = 0 ∨ n = 1 ∨ n = 2 ∨ n = 3 ∨ n = 4 ∨ n = 5 ∨ n = 6 ∨ n = 7 ∨ n = 8 ∨ n = 9 ∨ n = 10 ∨ n = 11 ∨ n = 12 ∨ n = 13 ∨ n = 14 ∨ n = 15 ∨ n = 16 := by omega
  rcases h3 with e | e | e | e | e | e | e | e | e | e | e | e | e | e | e | e | e <;> subst e <;> omega
theorem sBr_b {l : Nat → Int} {st h p n m : Int} {f : Int → Int → Int} (hv : LV l) (h1 : 0 ≤ h) (h2 : h < l 3) (h3 : 0 ≤ m) (h4 : m ≤ l 1) (hf : ∀ q s, B5 (f q s)) :
    -18014398509481984 ≤ sBr l st h p n m f ∧ sBr l st h p n m f ≤ 18014398509481984 := by
  obtain ⟨⟨hv1, hv2⟩, ⟨hv3, hv4⟩, ⟨hv5, hv6⟩, ⟨hv7, hv8⟩, ⟨hv9, hv10⟩, ⟨hv11, hv12⟩, ⟨hv13, hv14⟩, hvw, hvs, hvk, hvc, hvx⟩ := id hv
  have f1 := hf p (sAf l st p n)
  have f2 := hf (sOth l (m - 1) p) (sAf l st (sOth l (m - 1) p) n)
  unfold sBr
  split
  · unfold B5 at f1
    split <;> omega
  · split
    · have hN := hvs (m - 1) h (by omega) (by omega) (by omega) (by omega)
      exact mix_b hN.1 hN.2 f1 f2
    · unfold B5 at f2
      omega
theorem sSum_b {c : Int → Prop} {g : Int → Int} {B : Int} (hB : 0 ≤ B) : ∀ {n : Nat}, (∀ k : Int, 0 ≤ k → k < n → -B ≤ g k ∧ g k ≤ B) → -((n : Int) * B) ≤ sSum c g n ∧ sSum c g n ≤ (n : Int) * B := by
  intro n
  induction n with
  | zero => intro _; simp [sSum]
  | succ m ih =>
    intro h
    obtain ⟨h1, h2⟩ := ih (fun k a b => h k a (by omega))
    have h3 := h m (by omega) (by omega)
    have h4 : ((m + 1 : Nat) : Int) * B = (m : Int) * B + B := by rw [Int.natCast_add, Int.add_mul]; simp
    unfold sSum
    rw [h4]
    split <;> omega
theorem sSum_t {c : Int → Prop} {g : Int → Int} {i : Int} (h0 : 0 ≤ i) (hb : c i) : sSum c g (i + 1).toNat = sSum c g i.toNat + g i := by
  obtain ⟨n, rfl⟩ := Int.eq_ofNat_of_zero_le h0
  rw [show ((n : Int) + 1).toNat = n + 1 by omega, show ((n : Int)).toNat = n by omega]
  show sSum c g n + _ = _
  rw [if_pos hb]
theorem sSum_f {c : Int → Prop} {g : Int → Int} {i : Int} (h0 : 0 ≤ i) (hb : ¬ c i) : sSum c g (i + 1).toNat = sSum c g i.toNat := by
  obtain ⟨n, rfl⟩ := Int.eq_ofNat_of_zero_le h0
  rw [show ((n : Int) + 1).toNat = n + 1 by omega, show ((n : Int)).toNat = n by omega]
  show sSum c g n + _ = _
  rw [if_neg hb, Int.add_zero]
theorem sSum_c {c d : Int → Prop} {g w : Int → Int} : ∀ {n : Nat}, (∀ k : Int, 0 ≤ k → k < n → (c k ↔ d k) ∧ g k = w k) → sSum c g n = sSum d w n := by
  intro n
  induction n with
  | zero => intro _; rfl
  | succ m ih =>
    intro h
    have h3 := h m (by omega) (by omega)
    unfold sSum
    rw [ih (fun k a b => h k a (by omega)), h3.2]
    by_cases e : c m
    · rw [if_pos e, if_pos (h3.1.mp e)]
    · rw [if_neg e, if_neg (fun q => e (h3.1.mpr q))]
/-- what the sums of a state's moves hold -/
noncomputable def sG (l : Nat → Int) (st h p n m : Int) (g : Nat → Int) : Int → Int := fun k => sBr l st h p n m (sF g (k * 3900) h)
def sC (a b : Int) : Int → Prop := fun k => a = -1 ∨ k = a ∨ k = b
theorem sG_b {l : Nat → Int} {st h p n m : Int} {g : Nat → Int} (hv : LV l) (h1 : 0 ≤ h) (h2 : h < l 3) (h3 : 0 ≤ m) (h4 : m ≤ l 1) (hB : ∀ i, B5 (g i)) (c : Int → Prop) {j : Int} (hj : 0 ≤ j) (hj2 : j ≤ 5) :
    -90071992547409920 ≤ sSum c (sG l st h p n m g) j.toNat ∧ sSum c (sG l st h p n m g) j.toNat ≤ 90071992547409920 := by
  have h5 := sSum_b (c := c) (g := sG l st h p n m g) (B := 18014398509481984) (by omega) (n := j.toNat) (fun k a b => sBr_b hv h1 h2 h3 h4 (fun q s => hB _))
  have h6 : ((j.toNat : Nat) : Int) = j := by omega
  rw [h6] at h5
  omega
theorem l_137 {Q : Rs → Mm → Prop} {x1 x2 x3 x4 x5 x6 y7 x9 : Int} {S : FS} {F : FI} {G : FJ} (hv : LV (F 100)) (h2 : 0 ≤ x3) (h3 : x3 < F 100 3) (h4 : 0 ≤ x4) (h5 : x4 < F 100 0)
    (h6 : 1 ≤ x5) (h7 : x5 ≤ F 97 31) (h8 : F 97 31 ≤ 12) (h9 : 0 ≤ x6) (h10 : x6 ≤ F 100 1) (hs : ∀ h, 0 ≤ h → h < F 100 3 → F 122 h.toNat = sSy (F 100) h) (hB : ∀ i, B5 (G 119 i)) (hi : 0 ≤ x9) (hi2 : x9 ≤ F 100 2)
    (e7 : y7 = sSum (sC x1 x2) (sG (F 100) (F 97 31) x3 x4 x5 x6 (G 119)) x9.toNat) (hq : Q (.inl (some (.inr (.inl (sSum (sC x1 x2) (sG (F 100) (F 97 31) x3 x4 x5 x6 (G 119)) (F 100 2).toNat))))) (mm S F G)) :
    wph 3 137 6 [.inr (.inr (.inl 97)), .inl x1, .inl x2, .inl x3, .inl x4, .inl x5, .inl x6, .inr (.inl y7), jk, .inl x9] [] (mm S F G) (0, 0) Q := by
  obtain ⟨⟨hv1, hv2⟩, ⟨hv3, hv4⟩, ⟨hv5, hv6⟩, ⟨hv7, hv8⟩, ⟨hv9, hv10⟩, ⟨hv11, hv12⟩, ⟨hv13, hv14⟩, hvw, hvs, hvk, hvc, hvx⟩ := id hv
  refine sg_137_6 ?_
  refine cn_i (fun h => ?_) (fun h => ?_)
  · have stp : sC x1 x2 x9 → ∀ v1, v1 = sBr (F 100) (F 97 31) x3 x4 x5 x6 (sF (G 119) (x9 * 3900) x3) →
        wph 3 137 6 [.inr (.inr (.inl 97)), .inl x1, .inl x2, .inl x3, .inl x4, .inl x5, .inl x6, .inr (.inl (wl (y7 + v1))), jk, .inl (wr (x9 + 1))] [] (mm S F G) (0, 0) Q := by
      intro hc v1 e
      have hn := sSum_t (g := sG (F 100) (F 97 31) x3 x4 x5 x6 (G 119)) hi hc
      have hb := sG_b (st := F 97 31) (p := x4) (n := x5) hv h2 h3 h9 h10 hB (sC x1 x2) (j := x9 + 1) (by omega) (by omega)
      rw [hn, ← e7] at hb
      have e' : v1 = sG (F 100) (F 97 31) x3 x4 x5 x6 (G 119) x9 := e
      rw [← e'] at hb
      rw [wl_id (by omega) (by omega), wr_id (by omega) (by omega)]
      exact l_137 hv h2 h3 h4 h5 h6 h7 h8 h9 h10 hs hB (by omega) (by omega) (by rw [hn, ← e7, ← e']) hq
    try simp (disch := omega) only [wr_id]
    refine cn_i (fun g => ?_) (fun g => cn_i (fun g2 => ?_) (fun g2 => cn_i (fun g3 => ?_) (fun g3 => ?_)))
    · exact c_132 hv rfl rfl (by omega) (by omega) h2 h3 h4 h5 h6 h7 h8 h9 h10 hs hB (fun v e => by have := stp (Or.inl g) v e; rw [wr_id (by omega) (by omega)] at this; exact this)
    · exact c_132 hv rfl rfl (by omega) (by omega) h2 h3 h4 h5 h6 h7 h8 h9 h10 hs hB (fun v e => by have := stp (Or.inr (Or.inl g2)) v e; rw [wr_id (by omega) (by omega)] at this; exact this)
    · exact c_132 hv rfl rfl (by omega) (by omega) h2 h3 h4 h5 h6 h7 h8 h9 h10 hs hB (fun v e => by have := stp (Or.inr (Or.inr g3)) v e; rw [wr_id (by omega) (by omega)] at this; exact this)
    · exact l_137 hv h2 h3 h4 h5 h6 h7 h8 h9 h10 hs hB (by omega) (by omega) (by rw [sSum_f hi (fun q => q.elim g (fun q => q.elim g2 g3)), ← e7]) hq
  · have : x9 = F 100 2 := by omega
    rw [e7, this]
    exact hq
termination_by (F 100 2 - x9).toNat
decreasing_by all_goals omega
theorem c_137 {k : Int → FS → FI → FJ → Prop} {x1 x2 x3 x4 x5 x6 : Int} {S : FS} {F : FI} {G : FJ} (hv : LV (F 100)) (h2 : 0 ≤ x3) (h3 : x3 < F 100 3) (h4 : 0 ≤ x4) (h5 : x4 < F 100 0)
    (h6 : 1 ≤ x5) (h7 : x5 ≤ F 97 31) (h8 : F 97 31 ≤ 12) (h9 : 0 ≤ x6) (h10 : x6 ≤ F 100 1) (hs : ∀ h, 0 ≤ h → h < F 100 3 → F 122 h.toNat = sSy (F 100) h) (hB : ∀ i, B5 (G 119 i))
    (hk : ∀ v, v = sSum (sC x1 x2) (sG (F 100) (F 97 31) x3 x4 x5 x6 (G 119)) (F 100 2).toNat → k v S F G) :
    calL 3 137 [.inr (.inr (.inl 97)), .inl x1, .inl x2, .inl x3, .inl x4, .inl x5, .inl x6] (mm S F G) k nof := by
  have hw := hv.2.2.1
  refine sg_137_0 ?_
  exact l_137 hv h2 h3 h4 h5 h6 h7 h8 h9 h10 hs hB (by omega) (by omega) rfl ⟨_, _, _, rfl, hk _ rfl⟩
noncomputable def sO (l : Nat → Int) (st h p n a b : Int) (g : Nat → Int) : Int → Int := fun m => sSum (sC a b) (sG l st h p n m g) (l 2).toNat
theorem l_138 {Q : Rs → Mm → Prop} {x1 x2 x3 x4 x5 x6 x7 y8 x10 : Int} {S : FS} {F : FI} {G : FJ} (hv : LV (F 100)) (h2 : 0 ≤ x4) (h3 : x4 < F 100 3) (h4 : 0 ≤ x5) (h5 : x5 < F 100 0)
    (h6 : 1 ≤ x6) (h7 : x6 ≤ F 97 31) (h8 : F 97 31 ≤ 12) (hs : ∀ h, 0 ≤ h → h < F 100 3 → F 122 h.toNat = sSy (F 100) h) (hB : ∀ i, B5 (G 119 i)) (hb0 : 0 ≤ x3) (hb1 : x3 < 2147483648)
    (h9 : 0 ≤ x10) (h10 : x10 ≤ F 100 1 + 1) (e8 : x7 = bst (sO (F 100) (F 97 31) x4 x5 x6 x1 x2 (G 119)) x3 x10.toNat) (e9 : x7 ≠ -1 → y8 = sO (F 100) (F 97 31) x4 x5 x6 x1 x2 (G 119) x7)
    (hq : Q (.inl (some (.inl (bst (sO (F 100) (F 97 31) x4 x5 x6 x1 x2 (G 119)) x3 (F 100 1 + 1).toNat)))) (mm S F G)) :
    wph 4 138 9 [.inr (.inr (.inl 97)), .inl x1, .inl x2, .inl x3, .inl x4, .inl x5, .inl x6, .inl x7, .inr (.inl y8), jk, .inl x10] [] (mm S F G) (0, 0) Q := by
  obtain ⟨⟨hv1, hv2⟩, ⟨hv3, hv4⟩, ⟨hv5, hv6⟩, ⟨hv7, hv8⟩, ⟨hv9, hv10⟩, ⟨hv11, hv12⟩, ⟨hv13, hv14⟩, hvw, hvs, hvk, hvc, hvx⟩ := id hv
  have hr := bst_r (sO (F 100) (F 97 31) x4 x5 x6 x1 x2 (G 119)) x3 x10.toNat
  rw [← e8] at hr
  refine sg_138_9 ?_
  refine cn_i (fun h => ?_) (fun h => ?_)
  · have : x10 = F 100 1 + 1 := by omega
    rw [e8, this]
    exact hq
  · try simp (disch := omega) only [wr_id]
    refine cn_i (fun g => ?_) (fun g => ?_)
    · rw [bit_z hb0 hb1 h9 (by omega)] at g
      exact l_138 hv h2 h3 h4 h5 h6 h7 h8 hs hB hb0 hb1 (by omega) (by omega) (by rw [bst_f h9 g]; exact e8) e9 hq
    · rw [bit_z hb0 hb1 h9 (by omega), Classical.not_not] at g
      have hn := bst_t (v := sO (F 100) (F 97 31) x4 x5 x6 x1 x2 (G 119)) h9 g
      rw [← e8] at hn
      refine c_137 hv h2 h3 h4 h5 h6 h7 h8 h9 (by omega) hs hB (fun v e => ?_)
      have e : v = sO (F 100) (F 97 31) x4 x5 x6 x1 x2 (G 119) x10 := e
      refine cn_i (fun c => ?_) (fun c => ?_)
      · exact l_138 hv h2 h3 h4 h5 h6 h7 h8 hs hB hb0 hb1 (by omega) (by omega) (hn.trans (if_pos (Or.inl c))).symm (fun _ => e) hq
      · rw [← e, ← e9 c] at hn
        refine cn_i (fun z => ?_) (fun z => ?_)
        · exact l_138 hv h2 h3 h4 h5 h6 h7 h8 hs hB hb0 hb1 (by omega) (by omega) (hn.trans (if_pos (Or.inr (lc_p.mp z)))).symm (fun _ => e) hq
        · exact l_138 hv h2 h3 h4 h5 h6 h7 h8 hs hB hb0 hb1 (by omega) (by omega) (hn.trans (if_neg (fun q => q.elim c (fun q => z (lc_p.mpr q))))).symm e9 hq
termination_by (F 100 1 + 1 - x10).toNat
decreasing_by all_goals omega
theorem c_138 {k : Int → FS → FI → FJ → Prop} {x1 x2 x3 x4 x5 x6 : Int} {S : FS} {F : FI} {G : FJ} (hv : LV (F 100)) (h2 : 0 ≤ x4) (h3 : x4 < F 100 3) (h4 : 0 ≤ x5) (h5 : x5 < F 100 0)
    (h6 : 1 ≤ x6) (h7 : x6 ≤ F 97 31) (h8 : F 97 31 ≤ 12) (hb0 : 0 ≤ x3) (hb1 : x3 < 2147483648) (hs : ∀ h, 0 ≤ h → h < F 100 3 → F 122 h.toNat = sSy (F 100) h) (hB : ∀ i, B5 (G 119 i))
    (hk : ∀ v, v = bst (sO (F 100) (F 97 31) x4 x5 x6 x1 x2 (G 119)) x3 (F 100 1 + 1).toNat → k v S F G) :
    calI 4 138 [.inr (.inr (.inl 97)), .inl x1, .inl x2, .inl x3, .inl x4, .inl x5, .inl x6] (mm S F G) k nof := by
  have hw := hv.2.1.1
  refine sg_138_0 ?_
  exact l_138 hv h2 h3 h4 h5 h6 h7 h8 hs hB hb0 hb1 (by omega) (by omega) rfl (fun h => absurd rfl h) ⟨_, _, _, rfl, hk _ rfl⟩
/-- the first bit that is set -/
theorem bst_0 {b m : Int} {n : Nat} (h0 : 0 ≤ m) (h1 : m < n) (h2 : bit b m) (h3 : ∀ i, 0 ≤ i → i < m → ¬ bit b i) : bst (fun _ => 0) b n = m := by
  have low : ∀ j : Nat, (j : Int) ≤ m → bst (fun _ => 0) b j = -1 := by
    intro j
    induction j with
    | zero => intro _; rfl
    | succ i ih =>
      intro h
      have : ¬ bit b i := h3 i (by omega) (by omega)
      unfold bst
      rw [if_neg this]
      exact ih (by omega)
  have up : ∀ j : Nat, m < j → bst (fun _ => 0) b j = m := by
    intro j
    induction j with
    | zero => intro h; omega
    | succ i ih =>
      intro h
      unfold bst
      by_cases c : m = i
      · rw [if_pos (c ▸ h2), low i (by omega), if_pos (Or.inl rfl), c]
      · rw [ih (by omega)]
        split
        · rw [if_neg]
          intro q
          rcases q with q | q
          · omega
          · exact absurd q (by omega)
        · rfl
  exact up n h1
theorem l_140 {Q : Rs → Mm → Prop} {x0 x1 : Int} {w : Int} {S : FS} {F : FI} {G : FJ} (hb0 : 0 ≤ x0) (hb1 : x0 < 2147483648) (h0 : 0 ≤ x1) (hw : x1 ≤ w) (hw2 : w < 32) (hw3 : bit x0 w) (hn : ∀ i, 0 ≤ i → i < x1 → ¬ bit x0 i)
    {n : Nat} (hm : w < n) (hq : Q (.inl (some (.inl (bst (fun _ => 0) x0 n)))) (mm S F G)) : wph 0 140 2 [.inl x0, .inl x1] [] (mm S F G) (0, 0) Q := by
  refine sg_140_2 ?_
  refine cn_i (fun g => ?_) (fun g => ?_)
  · rw [bit_z hb0 hb1 h0 (by omega)] at g
    have : x1 ≠ w := fun q => g (q ▸ hw3)
    rw [wr_id (by omega) (by omega)]
    exact l_140 hb0 hb1 (by omega) (by omega) hw2 hw3 (fun i a b => by
      by_cases c : i = x1
      · subst c; exact g
      · exact hn i a (by omega)) hm hq
  · rw [bit_z hb0 hb1 h0 (by omega), Classical.not_not] at g
    rw [bst_0 h0 (by omega) g hn] at hq
    exact hq
termination_by (w - x1).toNat
decreasing_by omega
theorem c_140 {k : Int → FS → FI → FJ → Prop} {x0 w : Int} {S : FS} {F : FI} {G : FJ} {n : Nat} (hb0 : 0 ≤ x0) (hb1 : x0 < 2147483648) (h0 : 0 ≤ w) (hw2 : w < 32) (hw3 : bit x0 w) (hm : w < n)
    (hk : ∀ v, v = bst (fun _ => 0) x0 n → k v S F G) : calI 0 140 [.inl x0] (mm S F G) k nof := by
  refine sg_140_0 ?_
  exact l_140 hb0 hb1 (by omega) h0 hw2 hw3 (fun i a b => by omega) hm ⟨_, _, _, rfl, hk _ rfl⟩
