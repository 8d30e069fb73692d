/-! ===== the class reads: a word is a text, as its code says ===== -/
def wv (f : Nat → Int) : Nat → Int
  | 0 => 0
  | k + 1 => 32 * wv f k + (f k - 96)
theorem wv_b {f : Nat → Int} : ∀ k : Nat, (∀ i, i < k → 97 ≤ f i ∧ f i ≤ 122) → 0 ≤ wv f k ∧ wv f k < 32 ^ k ∧ (1 ≤ k → 1 ≤ wv f k) := by
  intro k
  induction k with
  | zero => intro _; exact ⟨Int.le_refl 0, show (0 : Int) < 1 by decide, fun h => by omega⟩
  | succ k ih =>
    intro h
    have a := ih (fun i hi => h i (by omega))
    have b := h k (by omega)
    have e : wv f (k + 1) = 32 * wv f k + (f k - 96) := rfl
    have p : (32 : Int) ^ (k + 1) = 32 ^ k * 32 := Int.pow_succ 32 k
    rw [e, p]
    omega
theorem wv_c {f g : Nat → Int} : ∀ k : Nat, (∀ i, i < k → f i = g i) → wv f k = wv g k := by
  intro k
  induction k with
  | zero => intro _; rfl
  | succ k ih =>
    intro h
    show 32 * wv f k + (f k - 96) = 32 * wv g k + (g k - 96)
    rw [ih (fun i hi => h i (by omega)), h k (by omega)]
theorem wv_inj {f g : Nat → Int} : ∀ k l : Nat, (∀ i, i < k → 97 ≤ f i ∧ f i ≤ 122) → (∀ i, i < l → 97 ≤ g i ∧ g i ≤ 122) → wv f k = wv g l → k = l ∧ ∀ i, i < k → f i = g i := by
  intro k
  induction k with
  | zero =>
    intro l _ hg h
    have e : wv f 0 = 0 := rfl
    by_cases q : 1 ≤ l
    · have := (wv_b l hg).2.2 q
      omega
    · exact ⟨by omega, fun i hi => by omega⟩
  | succ k ih =>
    intro l hf hg h
    cases l with
    | zero =>
      have := (wv_b (k + 1) hf).2.2 (by omega)
      have e : wv g 0 = 0 := rfl
      omega
    | succ l =>
      have e1 : wv f (k + 1) = 32 * wv f k + (f k - 96) := rfl
      have e2 : wv g (l + 1) = 32 * wv g l + (g l - 96) := rfl
      have a := hf k (by omega)
      have b := hg l (by omega)
      obtain ⟨u, v⟩ := ih l (fun i hi => hf i (by omega)) (fun i hi => hg i (by omega)) (by omega)
      subst u
      refine ⟨rfl, fun i hi => ?_⟩
      by_cases q : i = k
      · rw [q]; omega
      · exact v i (by omega)
theorem orr_5 {c d : Int} (h0 : 0 ≤ c) (h1 : c < 33554432) (d0 : 0 ≤ d) (d1 : d < 32) : orr (shl c 5) (wr d) = 32 * c + d := by
  rw [wr_id (by omega) (by omega)]
  obtain ⟨C, rfl⟩ := Int.eq_ofNat_of_zero_le h0
  obtain ⟨D, rfl⟩ := Int.eq_ofNat_of_zero_le d0
  have e := shl_n (a := C) (k := 5) (by decide) (by omega)
  have e' : shl (C : Int) 5 = ((C * 32 : Nat) : Int) := e
  rw [e', orr_n (by omega) (by omega)]
  have z := Nat.shiftLeft_add_eq_or_of_lt (i := 5) (b := D) (by omega) C
  rw [Nat.shiftLeft_eq] at z
  have z' : C * 32 + D = C * 32 ||| D := z
  rw [← z']
  omega
theorem pw32 {k : Nat} (h : k ≤ 5) : (32 : Int) ^ k ≤ 33554432 := by
  have e : k = 0 ∨ k = 1 ∨ k = 2 ∨ k = 3 ∨ k = 4 ∨ k = 5 := by omega
  rcases e with e | e | e | e | e | e <;> subst e <;> decide
theorem pTs_w {f : Nat → Int} : ∀ (K i : Nat), i + K ≤ 6 → (∀ j, j < i + K → 97 ≤ f j ∧ f j ≤ 122) → pTs f K i (wv f i) = wv f (i + K) := by
  intro K
  induction K with
  | zero => intro i _ _; rfl
  | succ K ih =>
    intro i h hl
    have b := wv_b i (fun j hj => hl j (by omega))
    have li := hl i (by omega)
    have p := pw32 (k := i) (by omega)
    unfold pTs
    rw [orr_5 b.1 (by omega) (by omega) (by omega)]
    have e : 32 * wv f i + (f i - 96) = wv f (i + 1) := rfl
    rw [e, ih (i + 1) (by omega) (fun j hj => hl j (by omega)), show i + 1 + K = i + (K + 1) by omega]
theorem pLs_l {t : Nat → Int} {n : Int} : ∀ (K : Nat) (a : Int), (K : Int) = n - a → (∀ i : Int, a ≤ i → i < pLe t n a → 97 ≤ t i.toNat ∧ t i.toNat ≤ 122) := by
  intro K
  induction K with
  | zero =>
    intro a h i h1 h2
    rw [pLe_e (by omega)] at h2
    omega
  | succ K ih =>
    intro a h i h1 h2
    rw [pLe_s (by omega)] at h2
    split at h2
    · rename_i g
      by_cases q : i = a
      · rw [q]; exact g
      · exact ih (a + 1) (by omega) i (by omega) h2
    · omega
/-- a word's code and its length -/
theorem pWs_v {t : Nat → Int} {n b : Int} (hb : 0 ≤ b) : ∀ (K : Nat) (a c m : Int), (K : Int) = n - a → 0 ≤ m → a = b + m → (∀ i : Nat, (i : Int) < m → 97 ≤ t (b + i).toNat ∧ t (b + i).toNat ≤ 122) → (m ≤ 6 → c = wv (fun i => t (b + i).toNat) m.toNat) →
    (pWs t K a c m).2 = pLe t n a - b ∧ ((pWs t K a c m).2 ≤ 6 → (pWs t K a c m).1 = wv (fun i => t (b + i).toNat) (pLe t n a - b).toNat) := by
  intro K
  induction K with
  | zero =>
    intro a c m h m0 ha hl hc
    rw [pLe_e (by omega)]
    show m = _ ∧ (m ≤ 6 → c = _)
    refine ⟨by omega, fun q => ?_⟩
    rw [hc q, show (a - b).toNat = m.toNat by omega]
  | succ K ih =>
    intro a c m h m0 ha hl hc
    unfold pWs
    rw [pLe_s (by omega)]
    by_cases g : 97 ≤ t a.toNat ∧ t a.toNat ≤ 122
    · rw [if_pos g, if_pos g]
      refine ih (a + 1) _ (m + 1) (by omega) (by omega) (by omega) (fun i hi => ?_) (fun q => ?_)
      · by_cases e : (i : Int) = m
        · rw [e, ← ha]; exact g
        · exact hl i (by omega)
      · have m6 : m < 6 := by omega
        have lw := wv_b (f := fun i => t (b + i).toNat) m.toNat (fun i hi => hl i (by omega))
        have p := pw32 (k := m.toNat) (by omega)
        rw [if_pos m6, hc (by omega), orr_5 lw.1 (by omega) (by omega) (by omega), show (m + 1).toNat = m.toNat + 1 by omega]
        show _ = 32 * wv (fun i => t (b + i).toNat) m.toNat + (t (b + ((m.toNat : Nat) : Int)).toNat - 96)
        rw [show b + ((m.toNat : Nat) : Int) = a by omega]
    · rw [if_neg g, if_neg g]
      show m = _ ∧ (m ≤ 6 → c = _)
      refine ⟨by omega, fun q => ?_⟩
      rw [hc q, show (a - b).toNat = m.toNat by omega]
theorem pWd_v {t : Nat → Int} {n b : Int} (hb : 0 ≤ b) (hn : b ≤ n) : pWd t n b = if 6 < pLe t n b - b then 0 else wv (fun i => t (b + i).toNat) (pLe t n b - b).toNat := by
  have h := pWs_v (t := t) (n := n) hb (n - b).toNat b 0 0 (by omega) (by decide) (by omega) (fun i hi => by omega) (fun _ => rfl)
  unfold pWd
  rw [h.1]
  by_cases q : 6 < pLe t n b - b
  · rw [if_pos q, if_pos q]
  · rw [if_neg q, if_neg q]
    exact h.2 (by rw [h.1]; omega)
/-- a text of letters, six at the most -/
def okW (s : Nat) : Prop := s < 51 ∧ 1 ≤ strL s ∧ strL s ≤ 6 ∧ ∀ i, i < strL s → 97 ≤ strC s i ∧ strC s i ≤ 122
theorem okW_all : ∀ s : Nat, s < 51 → 4 ≤ s → (1 ≤ strL s ∧ strL s ≤ 6 ∧ ∀ i, i < strL s → 97 ≤ strC s i ∧ strC s i ≤ 122) := by decide +kernel
theorem okW_i {s : Nat} (h : 4 ≤ s) (h2 : s < 51) : okW s := ⟨h2, okW_all s h2 h⟩
theorem tC_v {s : Nat} (h : okW s) : tC s = wv (fun i => strC s i) (strL s) ∧ 1 ≤ tC s := by
  have e : tC s = wv (fun i => strC s i) (strL s) := by
    have := pTs_w (f := fun i => strC s i) (strL s) 0 (by have := h.2.2.1; omega) (fun j hj => h.2.2.2 j (by omega))
    rw [Nat.zero_add] at this
    exact this
  exact ⟨e, by rw [e]; exact (wv_b _ h.2.2.2).2.2 h.2.1⟩
def isW (t : Nat → Int) (n b : Int) (s : Nat) : Prop := tS t n b = 1 ∧ tE t n b - b = (strL s : Int) ∧ ∀ i : Nat, i < strL s → t (b + i).toNat = strC s i
theorem isW_i {t : Nat → Int} {n b : Int} {s : Nat} (hs : okW s) (hb : 0 ≤ b) (hn : b ≤ n) : isW t n b s ↔ pWd t n b = tC s := by
  obtain ⟨c1, c2⟩ := tC_v hs
  have s1 := hs.2.1
  have s2 := hs.2.2.1
  have pv := pWd_v (t := t) hb hn
  have lb := pLe_b (t := t) (n := n) (n - b).toNat b (by omega)
  have ll := pLs_l (t := t) (n := n) (n - b).toNat b (by omega)
  unfold isW tS tE
  by_cases q0 : n ≤ b
  · rw [if_pos q0]
    refine ⟨fun h => absurd h.1 (by decide), fun h => ?_⟩
    rw [pLe_e q0, if_neg (by omega), show (b - b).toNat = 0 by omega] at pv
    have e0 : wv (fun i => t (b + i).toNat) 0 = 0 := rfl
    omega
  · rw [if_neg q0, if_neg q0]
    by_cases q1 : 97 ≤ t b.toNat ∧ t b.toNat ≤ 122
    · have nd : ¬ (48 ≤ t b.toNat ∧ t b.toNat ≤ 57) := by omega
      rw [if_neg nd, if_neg nd, if_pos q1, if_pos q1]
      constructor
      · rintro ⟨-, h2, h3⟩
        rw [pv, if_neg (by omega), show (pLe t n b - b).toNat = strL s by omega, c1]
        exact wv_c _ h3
      · intro h
        rw [pv] at h
        split at h
        · omega
        · rw [c1] at h
          obtain ⟨u, v⟩ := wv_inj _ _ (fun i hi => ll (b + i) (by omega) (by omega)) hs.2.2.2 h
          exact ⟨rfl, by omega, fun i hi => v i (by omega)⟩
    · have e0 : pLe t n b = b := by rw [pLe_s (by omega), if_neg q1]
      refine ⟨fun h => ?_, fun h => ?_⟩
      · have := h.1
        simp only [if_neg q1] at this
        split at this <;> omega
      · rw [e0, if_neg (by omega), show (b - b).toNat = 0 by omega] at pv
        have e0 : wv (fun i => t (b + i).toNat) 0 = 0 := rfl
        omega
theorem tC_same : (tC 26 = tC 6 ∧ tC 27 = tC 7 ∧ tC 28 = tC 9 ∧ tC 29 = tC 8 ∧ tC 30 = tC 10 ∧ tC 31 = tC 11 ∧ tC 32 = tC 12 ∧ tC 33 = tC 13 ∧ tC 34 = tC 14 ∧ tC 35 = tC 4 ∧ tC 36 = tC 5) ∧
    (tC 37 = tC 23 ∧ tC 38 = tC 24 ∧ tC 39 = tC 25 ∧ tC 40 = tC 22 ∧ tC 41 = tC 21 ∧ tC 42 = tC 20 ∧ tC 43 = tC 15 ∧ tC 44 = tC 16 ∧ tC 45 = tC 17 ∧ tC 46 = tC 4 ∧ tC 47 = tC 18 ∧ tC 48 = tC 6 ∧ tC 49 = tC 19 ∧ tC 50 = tC 8) := by decide +kernel
theorem l_279 {Q : Rs → Mm → Prop} {t : Nat → Int} {n b : Int} {s : Nat} {S : FS} {F : FI} {G : FJ} (hs : okW s) (hT : TX F) (hc : CTk F t n b) (hl : b + strL s ≤ n)
    (h1 : (∀ i : Nat, i < strL s → t (b + i).toNat = strC s i) → Q (.inl (some (.inl 1))) (mm S F G)) (h0 : ¬ (∀ i : Nat, i < strL s → t (b + i).toNat = strC s i) → Q (.inl (some (.inl 0))) (mm S F G)) :
    ∀ (K j : Nat), K + j = strL s → (∀ i : Nat, i < j → t (b + i).toNat = strC s i) → wph 0 279 28 [.inr (.inr (.inl 2)), .inr (.inr (.inl (2000000 + s))), .inl (j : Int)] [] (mm S F G) (0, 0) Q := by
  obtain ⟨⟨e2, e3, e4, e5⟩, -, hb, -, hB⟩ := hc
  have ek := kk_t hs.1
  have sN : s < NSTR := hs.1
  intro K
  induction K with
  | zero =>
    intro j hj ha
    refine sg_279_28 ?_
    rw [ek]
    exact ck_i rfl (cd_f (by omega) (h1 (fun i hi => ha i (by omega))))
  | succ K ih =>
    intro j hj ha
    have tx := hB (b + j).toNat (by omega)
    have sx := hT s j sN (by omega)
    have e : F 3 (b + (j : Int)).toNat = t (b + j).toNat := tx
    refine sg_279_28 ?_
    rw [ek, e3, wr_id (a := b + (j : Int)) (by omega) (by omega), wr_id (a := (j : Int) + 1) (by omega) (by omega), e, show ((j : Int)).toNat = j by omega, sx]
    refine ck_i rfl (cd_t (by omega) (ck_i (jb_i (by omega) (by omega)) (ck_i rfl (ck_i (jb_i (by omega) (by omega)) (cn_i (fun g => ?_) (fun g => h0 (fun r => g (r j (by omega)))))))))
    refine ih (j + 1) (by omega) (fun i hi => ?_)
    by_cases q : i = j
    · rw [q]; exact g
    · exact ha i (by omega)
theorem tE_b {t : Nat → Int} {n b : Int} (hb : 0 ≤ b) (hn : b ≤ n) : b ≤ tE t n b ∧ tE t n b ≤ n := by
  unfold tE
  by_cases q0 : n ≤ b
  · rw [if_pos q0]; omega
  · rw [if_neg q0]
    split
    · have := (pDs_b (t := t) (n - b).toNat b 0 (by decide) (by decide)).1
      omega
    · split
      · exact pLe_b (n - b).toNat b (by omega)
      · omega
/-- is it this word -/
theorem c_279 {k : Int → FS → FI → FJ → Prop} {t : Nat → Int} {n b : Int} {s r : Nat} {S : FS} {F : FI} {G : FJ} (hr : r = 2000000 + s) (hs : okW s) (hT : TX F) (hc : CTk F t n b) (h1 : pWd t n b = tC s → k 1 S F G) (h0 : pWd t n b ≠ tC s → k 0 S F G) : calI 0 279 [.inr (.inr (.inl 2)), .inr (.inr (.inl r))] (mm S F G) k nof := by
  subst hr
  obtain ⟨⟨e2, e3, e4, e5⟩, -, hb, -, hB⟩ := id hc
  have ek := kk_t hs.1
  have iw := isW_i (t := t) hs hb.1 hb.2.1
  unfold isW at iw
  have eb := tE_b (t := t) hb.1 hb.2.1
  refine sg_279_0 ?_
  rw [ek, e3, e4, e5, wr_id (by omega) (by omega)]
  refine cn_i (fun z => ck_i rfl (cn_i (fun z2 => ?_) (fun z2 => ?_))) (fun z => ?_)
  · exact l_279 hs hT hc (by have : (strL s : Int) = tE t n b - b := z2.symm; omega) (fun q => ⟨_, _, _, rfl, h1 (iw.mp ⟨z, z2, q⟩)⟩) (fun q => ⟨_, _, _, rfl, h0 (fun r => q (iw.mpr r).2.2)⟩) (strL s) 0 rfl (fun i hi => by omega)
  · exact ⟨_, _, _, rfl, h0 (fun r => z2 (iw.mpr r).2.1)⟩
  · exact ⟨_, _, _, rfl, h0 (fun r => z (iw.mpr r).1)⟩
theorem c_280 {k : Int → FS → FI → FJ → Prop} {t : Nat → Int} {n b c : Int} {S : FS} {F : FI} {G : FJ} (hc : CTk F t n b) (hx : c ≠ 0 ∧ ¬ (48 ≤ c ∧ c ≤ 57) ∧ ¬ (97 ≤ c ∧ c ≤ 122)) (h1 : pBy t n b = c → tE t n b = b + 1 → k 1 S F G) (h0 : pBy t n b ≠ c → k 0 S F G) : calI 0 280 [.inr (.inr (.inl 2)), .inl c] (mm S F G) k nof := by
  obtain ⟨⟨e2, e3, e4, e5⟩, -, hb, -, hB⟩ := id hc
  unfold pBy at h1 h0
  unfold tE at h1
  refine sg_280_0 ?_
  rw [e3, e5]
  unfold tS
  by_cases q0 : n ≤ b
  · rw [if_neg (by omega)] at h0
    rw [if_pos q0]
    exact cd_f (by decide) ⟨_, _, _, rfl, h0 (fun r => hx.1 r.symm)⟩
  · have tb := hB b.toNat (by omega)
    rw [if_pos (by omega)] at h1 h0
    rw [if_neg q0] at h1 ⊢
    rw [tb]
    by_cases q1 : 48 ≤ t b.toNat ∧ t b.toNat ≤ 57
    · rw [if_pos q1]
      exact cd_f (by decide) ⟨_, _, _, rfl, h0 (fun r => hx.2.1 (by rw [← r]; exact q1))⟩
    · rw [if_neg q1] at h1 ⊢
      by_cases q2 : 97 ≤ t b.toNat ∧ t b.toNat ≤ 122
      · rw [if_pos q2]
        exact cd_f (by decide) ⟨_, _, _, rfl, h0 (fun r => hx.2.2 (by rw [← r]; exact q2))⟩
      · rw [if_neg q2] at h1 ⊢
        exact cd_t rfl (ck_i (jb_i (by omega) (by omega)) (cn_i (fun g => ⟨_, _, _, rfl, h1 g rfl⟩) (fun g => ⟨_, _, _, rfl, h0 g⟩)))
/-- a fault is told -/
def cFt (F : FI) (kind a : Int) : FI := u2 (u2 F 2 7 kind) 2 8 a
theorem c_281 {k : Int → FS → FI → FJ → Prop} {t : Nat → Int} {n b x1 : Int} {S : FS} {F : FI} {G : FJ} (hc : CTk F t n b) (hk : k 0 S (cFt F x1 b) G) : calI 0 281 [.inr (.inr (.inl 2)), .inl x1] (mm S F G) k nof := by
  refine sg_281_0 ?_
  rw [hc.1.2.1]
  exact ⟨_, _, _, rfl, hk⟩
theorem pSp_f {t : Nat → Int} {n a : Int} (h : a ≤ n) : pSp t n (pSp t n a) = pSp t n a := pSp_p (n - a).toNat a (by omega)
/-- a number of these bounds -/
theorem c_282 {k : Int → FS → FI → FJ → Prop} {t : Nat → Int} {n lo hi : Int} {p : Pz} {S : FS} {F : FI} {G : FJ} (hc : CTk F t n (pSp t n p.1)) (hp : p.2.1 = -1) (hhi : hi ≤ 9999)
    (good : ∀ v, v = (pNb t n p lo hi).1 → lo ≤ v ∧ v ≤ hi ∧ 0 ≤ v → (pNb t n p lo hi).2 = pAt p (tE t n (pSp t n p.1)) → F 2 6 = v → k 1 S F G) (bad : ∀ q, q = (pNb t n p lo hi).2 → q.2.1 ≠ -1 → k 0 S (cFt F q.2.2 q.2.1) G) : calI 1 282 [.inr (.inr (.inl 2)), .inl lo, .inl hi] (mm S F G) k nof := by
  obtain ⟨⟨e2, e3, e4, e5⟩, e6, hb, -, hB⟩ := id hc
  obtain ⟨b, eb⟩ : ∃ b, b = pSp t n p.1 := ⟨_, rfl⟩
  unfold pNb at good bad
  rw [if_neg (fun r => r hp)] at good bad
  rw [← eb] at hc good bad e3 e4 e5 e6 hb
  have fl : ∀ a kd : Int, pFl (pAt p a) kd b = (a, b, kd) := fun a kd => by
    unfold pFl
    rw [if_pos (show (pAt p a).2.1 = -1 from hp)]
    rfl
  simp only [fl] at good bad
  refine sg_282_0 ?_
  rw [e5]
  unfold pBy at good bad
  by_cases q1 : tS t n b = 2
  · have dg : b < n ∧ 48 ≤ t b.toNat ∧ t b.toNat ≤ 57 := by
      unfold tS at q1
      split at q1
      · omega
      · split at q1
        · exact ⟨by omega, by assumption⟩
        · split at q1 <;> omega
    have nr := e6 q1
    rw [if_pos dg.1, if_neg (fun r => r dg.2)] at good bad
    have te : tE t n b = (pDs t (n - b).toNat b 0).1 := by
      unfold tE
      rw [if_neg (by omega), if_pos dg.2]
    obtain ⟨v, ev⟩ : ∃ v, v = (pDs t (n - b).toNat b 0).2 := ⟨_, rfl⟩
    rw [← ev] at nr good bad
    have NRi : NR (F 2 6) v := nr
    unfold NR at NRi
    refine cd_t q1 (cn_i (fun z => ?_) (fun z => cn_i (fun z2 => ?_) (fun z2 => ?_)))
    · rw [if_pos (by omega)] at bad
      exact c_281 hc (cd_t rfl ⟨_, _, _, rfl, bad _ rfl (by show b ≠ -1; omega)⟩)
    · rw [if_pos (by omega)] at bad
      exact c_281 hc (cd_t rfl ⟨_, _, _, rfl, bad _ rfl (by show b ≠ -1; omega)⟩)
    · rw [if_neg (by omega)] at good
      exact ⟨_, _, _, rfl, good v rfl (by omega) (by rw [te]) (by omega)⟩
  · have nd : ¬ (48 ≤ (if b < n then t b.toNat else 0) ∧ (if b < n then t b.toNat else 0) ≤ 57) := by
      intro r
      apply q1
      split at r
      · unfold tS
        rw [if_neg (by omega), if_pos r]
      · omega
    rw [if_pos nd] at bad
    exact cd_f q1 (c_281 hc (ck_i rfl ⟨_, _, _, rfl, bad _ rfl (by show b ≠ -1; omega)⟩))
/-- a sign that must stand there -/
theorem c_283 {k : Int → FS → FI → FJ → Prop} {t : Nat → Int} {n c : Int} {p : Pz} {S : FS} {F : FI} {G : FJ} (hc : CTk F t n (pSp t n p.1)) (hp : p.2.1 = -1) (hx : c ≠ 0 ∧ ¬ (48 ≤ c ∧ c ≤ 57) ∧ ¬ (97 ≤ c ∧ c ≤ 122))
    (good : (pEx t n p c) = pAt p (pSp t n p.1 + 1) → ∀ F', TF F F' → CTk F' t n (pSp t n (pSp t n p.1 + 1)) → k 1 S F' G) (bad : ∀ q, q = pEx t n p c → q.2.1 ≠ -1 → k 0 S (cFt F q.2.2 q.2.1) G) : calI 2 283 [.inr (.inr (.inl 2)), .inl c] (mm S F G) k nof := by
  obtain ⟨⟨e2, e3, e4, e5⟩, e6, hb, -, hB⟩ := id hc
  unfold pEx at good bad
  rw [if_neg (fun r => r hp)] at good bad
  refine sg_283_0 (c_280 hc hx (fun g1 g2 => cd_f (by decide) ?_) (fun g => cd_t rfl ?_))
  · rw [if_pos g1] at good
    have lt := pBy_n g1 hx.1
    exact c_276 (a := pSp t n p.1 + 1) hb.2.2 (by omega) (by omega) hB e2 (by rw [e4]; exact g2) (fun F' f1 f2 => ⟨_, _, _, rfl, good rfl F' f1 f2⟩)
  · rw [if_neg g] at bad
    have fl : pFl (pAt p (pSp t n p.1)) 1 (pSp t n p.1) = (pSp t n p.1, pSp t n p.1, 1) := by
      unfold pFl
      rw [if_pos (show (pAt p (pSp t n p.1)).2.1 = -1 from hp)]
      rfl
    rw [fl] at bad
    exact c_281 hc (ck_i rfl ⟨_, _, _, rfl, bad _ rfl (by show pSp t n p.1 ≠ -1; omega)⟩)
