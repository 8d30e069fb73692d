/-! ===== reading: what both readers do, over bytes; a state: where, fault's place (-1: none), its kind ===== -/
abbrev Pz : Type := Int × Int × Int
/-- the reference's reader stands so -/
def PZs (F0 F : FI) (p : Pz) : Prop := (∀ a, a ≠ 97 → F a = F0 a) ∧ (∀ i, i ≠ 4 → i ≠ 5 → i ≠ 6 → F 97 i = F0 97 i) ∧ F 97 4 = p.1 ∧ F 97 5 = p.2.1 ∧ F 97 6 = p.2.2
/-- a fault, if none was before -/
def pFl (p : Pz) (kind at' : Int) : Pz := if p.2.1 = -1 then (p.1, at', kind) else p
def pAt (p : Pz) (a : Int) : Pz := (a, p.2)
theorem PZs_4 {F0 F : FI} {p : Pz} {v : Int} (h : PZs F0 F p) : PZs F0 (u2 F 97 4 v) (pAt p v) := by
  obtain ⟨a, b, c, d, e⟩ := h
  refine ⟨fun x q => by rw [u2_o q]; exact a x q, fun i i1 i2 i3 => by rw [u2_n i1]; exact b i i1 i2 i3, u2_s, ?_, ?_⟩
  · rw [u2_n (by decide)]; exact d
  · rw [u2_n (by decide)]; exact e
/-- behind blanks -/
def pSk (t : Nat → Int) (n : Int) : Nat → Int → Int
  | 0, a => a
  | K + 1, a => if t a.toNat = 32 then pSk t n K (a + 1) else a
def pSp (t : Nat → Int) (n a : Int) : Int := pSk t n (n - a).toNat a
theorem pSp_s {t : Nat → Int} {n a : Int} (h : a < n) : pSp t n a = if t a.toNat = 32 then pSp t n (a + 1) else a := by
  unfold pSp
  rw [show (n - a).toNat = (n - (a + 1)).toNat + 1 by omega]
  rfl
theorem pSp_e {t : Nat → Int} {n a : Int} (h : n ≤ a) : pSp t n a = a := by
  unfold pSp
  rw [show (n - a).toNat = 0 by omega]
  rfl
theorem pSp_b {t : Nat → Int} {n : Int} : ∀ (K : Nat) (a : Int), (K : Int) = n - a → a ≤ pSp t n a ∧ pSp t n a ≤ n := by
  intro K
  induction K with
  | zero => intro a h; rw [pSp_e (by omega)]; omega
  | succ K ih =>
    intro a h
    rw [pSp_s (by omega)]
    have i := ih (a + 1) (by omega)
    split <;> omega
/-- the byte there; 0 at the end -/
def pBy (t : Nat → Int) (n a : Int) : Int := if a < n then t a.toNat else 0
theorem c_73 {k : Int → FS → FI → FJ → Prop} {F0 : FI} {p : Pz} {S : FS} {F : FI} {G : FJ} (h : PZs F0 F p) (h1 : p.2.1 = -1 → k 1 S F G) (h0 : p.2.1 ≠ -1 → k 0 S F G) : calI 0 73 [.inr (.inr (.inl 97))] (mm S F G) k nof := by
  refine sg_73_0 ?_
  rw [h.2.2.2.1]
  exact cn_i (fun g => ⟨_, _, _, rfl, h1 g⟩) (fun g => ⟨_, _, _, rfl, h0 g⟩)
theorem c_74 {k : FS → FI → FJ → Prop} {F0 : FI} {p : Pz} {x1 x2 : Int} {S : FS} {F : FI} {G : FJ} (h : PZs F0 F p) (hk : ∀ F', PZs F0 F' (pFl p x1 x2) → k S F' G) : calV 0 74 [.inr (.inr (.inl 97)), .inl x1, .inl x2] (mm S F G) k nof := by
  obtain ⟨a, b, c, d, e⟩ := id h
  refine sg_74_0 ?_
  rw [d]
  refine cn_i (fun g => ⟨_, _, _, rfl, hk _ ?_⟩) (fun g => ⟨_, _, _, rfl, hk _ ?_⟩)
  · unfold pFl
    rw [if_pos g]
    refine ⟨fun x q => by rw [u2_o q, u2_o q]; exact a x q, fun i i1 i2 i3 => by rw [u2_n i3, u2_n i2]; exact b i i1 i2 i3, ?_, ?_, u2_s⟩
    · rw [u2_n (by decide), u2_n (by decide)]; exact c
    · rw [u2_n (by decide)]; exact u2_s
  · unfold pFl
    rw [if_neg g]
    exact h
theorem l_75_0 {Q : Rs → Mm → Prop} {F0 : FI} {n : Int} {S : FS} {G : FJ} (h3 : F0 97 3 = n) (hn : n ≤ 600) : ∀ (K : Nat) (F : FI) (p : Pz), (K : Int) = n - p.1 → 0 ≤ p.1 → PZs F0 F p → (∀ F', PZs F0 F' (pAt p (pSp (F0 99) n p.1)) → Q (.inl (some (.inl (pBy (F0 99) n (pSp (F0 99) n p.1))))) (mm S F' G)) → wph 0 75 0 [.inr (.inr (.inl 97))] [] (mm S F G) (0, 0) Q := by
  intro K
  induction K with
  | zero =>
    intro F p hK h0 h hq
    have e3 : F 97 3 = n := (h.2.1 3 (by decide) (by decide) (by decide)).trans h3
    have e4 := h.2.2.1
    have hq := hq F
    rw [pSp_e (by omega)] at hq
    have hq := hq h
    unfold pBy at hq
    rw [if_neg (by omega)] at hq
    refine sg_75_0 ?_
    rw [e3, e4]
    exact cn_i (fun g => by omega) (fun _ => cn_i (fun g => by omega) (fun _ => hq))
  | succ K ih =>
    intro F p hK h0 h hq
    have e3 : F 97 3 = n := (h.2.1 3 (by decide) (by decide) (by decide)).trans h3
    have e4 := h.2.2.1
    have e99 : F 99 = F0 99 := h.1 99 (by decide)
    rw [pSp_s (by omega)] at hq
    refine sg_75_0 ?_
    rw [e3, e4, e99]
    refine cn_i (fun _ => ?_) (fun g => by omega)
    refine ck_i (jb_i (by omega) (by omega)) (cn_i (fun g => ?_) (fun g => ?_))
    · rw [if_pos g] at hq
      rw [wr_id (by omega) (by omega)]
      exact ih _ (pAt p (p.1 + 1)) (by show (K : Int) = n - (p.1 + 1); omega) (by show 0 ≤ p.1 + 1; omega) (PZs_4 h) hq
    · rw [if_neg g] at hq
      have hq := hq F h
      unfold pBy at hq
      rw [if_pos (by omega)] at hq
      refine cn_i (fun _ => ?_) (fun g => by omega)
      exact ck_i (jb_i (by omega) (by omega)) hq
/-- a reader over a tape of n bytes, at a place of it -/
def PZn (F0 : FI) (n : Int) (p : Pz) : Prop := F0 97 3 = n ∧ n ≤ 600 ∧ 0 ≤ p.1 ∧ p.1 ≤ n
theorem c_75 {k : Int → FS → FI → FJ → Prop} {F0 : FI} {n : Int} {p : Pz} {S : FS} {F : FI} {G : FJ} (hn : PZn F0 n p) (h : PZs F0 F p) (hk : ∀ F', PZs F0 F' (pAt p (pSp (F0 99) n p.1)) → PZn F0 n (pAt p (pSp (F0 99) n p.1)) → k (pBy (F0 99) n (pSp (F0 99) n p.1)) S F' G) : calI 0 75 [.inr (.inr (.inl 97))] (mm S F G) k nof := by
  obtain ⟨h1, h2, h3, h4⟩ := hn
  have b := pSp_b (t := F0 99) (n := n) (n - p.1).toNat p.1 (by omega)
  exact l_75_0 h1 h2 (n - p.1).toNat F p (by omega) h3 h (fun F' a => ⟨_, _, _, rfl, hk F' a ⟨h1, h2, by show 0 ≤ pSp (F0 99) n p.1; omega, b.2⟩⟩)
def isLt (b : Int) : Prop := 97 ≤ b ∧ b ≤ 122
def isDg (b : Int) : Prop := 48 ≤ b ∧ b ≤ 57
theorem c_76 {k : Int → FS → FI → FJ → Prop} {x0 : Int} {S : FS} {F : FI} {G : FJ} (h1 : isLt x0 → k 1 S F G) (h0 : ¬ isLt x0 → k 0 S F G) : calI 0 76 [.inl x0] (mm S F G) k nof := by
  refine sg_76_0 ?_
  refine cn_i (fun g => ⟨_, _, _, rfl, h0 (fun r => by unfold isLt at r; omega)⟩) (fun g => cn_i (fun g2 => ⟨_, _, _, rfl, h0 (fun r => by unfold isLt at r; omega)⟩) (fun g2 => ⟨_, _, _, rfl, h1 ⟨by omega, by omega⟩⟩))
theorem c_77 {k : Int → FS → FI → FJ → Prop} {x0 : Int} {S : FS} {F : FI} {G : FJ} (h1 : isDg x0 → k 1 S F G) (h0 : ¬ isDg x0 → k 0 S F G) : calI 0 77 [.inl x0] (mm S F G) k nof := by
  refine sg_77_0 ?_
  refine cn_i (fun g => ⟨_, _, _, rfl, h0 (fun r => by unfold isDg at r; omega)⟩) (fun g => cn_i (fun g2 => ⟨_, _, _, rfl, h0 (fun r => by unfold isDg at r; omega)⟩) (fun g2 => ⟨_, _, _, rfl, h1 ⟨by omega, by omega⟩⟩))
theorem c_83 {k : Int → FS → FI → FJ → Prop} {F0 : FI} {n : Int} {p : Pz} {S : FS} {F : FI} {G : FJ} (hn : PZn F0 n p) (h : PZs F0 F p) (h1 : pSp (F0 99) n p.1 < n → ∀ F', PZs F0 F' (pAt p (pSp (F0 99) n p.1)) → PZn F0 n (pAt p (pSp (F0 99) n p.1)) → k 1 S F' G) (h0 : n ≤ pSp (F0 99) n p.1 → ∀ F', PZs F0 F' (pAt p (pSp (F0 99) n p.1)) → PZn F0 n (pAt p (pSp (F0 99) n p.1)) → k 0 S F' G) : calI 1 83 [.inr (.inr (.inl 97))] (mm S F G) k nof := by
  refine sg_83_0 ?_
  refine c_75 hn h (fun F' a b => ?_)
  have e3 : F' 97 3 = n := (a.2.1 3 (by decide) (by decide) (by decide)).trans hn.1
  have e4 : F' 97 4 = pSp (F0 99) n p.1 := a.2.2.1
  rw [e3, e4]
  exact cn_i (fun g => ⟨_, _, _, rfl, h1 g F' a b⟩) (fun g => ⟨_, _, _, rfl, h0 (by omega) F' a b⟩)
/-- behind letters -/
def pLs (t : Nat → Int) (n : Int) : Nat → Int → Int
  | 0, a => a
  | K + 1, a => if 97 ≤ t a.toNat ∧ t a.toNat ≤ 122 then pLs t n K (a + 1) else a
def pLe (t : Nat → Int) (n a : Int) : Int := pLs t n (n - a).toNat a
theorem pLe_s {t : Nat → Int} {n a : Int} (h : a < n) : pLe t n a = if 97 ≤ t a.toNat ∧ t a.toNat ≤ 122 then pLe t n (a + 1) else a := by
  unfold pLe
  rw [show (n - a).toNat = (n - (a + 1)).toNat + 1 by omega]
  rfl
theorem pLe_e {t : Nat → Int} {n a : Int} (h : n ≤ a) : pLe t n a = a := by
  unfold pLe
  rw [show (n - a).toNat = 0 by omega]
  rfl
theorem pLe_b {t : Nat → Int} {n : Int} : ∀ (K : Nat) (a : Int), (K : Int) = n - a → a ≤ pLe t n a ∧ pLe t n a ≤ n := by
  intro K
  induction K with
  | zero => intro a h; rw [pLe_e (by omega)]; omega
  | succ K ih =>
    intro a h
    rw [pLe_s (by omega)]
    have i := ih (a + 1) (by omega)
    split <;> omega
theorem l_80_0 {Q : Rs → Mm → Prop} {F0 : FI} {n : Int} {S : FS} {G : FJ} (h3 : F0 97 3 = n) (hn : n ≤ 600) : ∀ (K : Nat) (F : FI) (p : Pz), (K : Int) = n - p.1 → 0 ≤ p.1 → PZs F0 F p → (∀ F', PZs F0 F' (pAt p (pLe (F0 99) n p.1)) → Q (.inl none) (mm S F' G)) → wph 1 80 0 [.inr (.inr (.inl 97))] [] (mm S F G) (0, 0) Q := by
  intro K
  induction K with
  | zero =>
    intro F p hK h0 h hq
    have e3 : F 97 3 = n := (h.2.1 3 (by decide) (by decide) (by decide)).trans h3
    have e4 := h.2.2.1
    have hq := hq F
    rw [pLe_e (by omega)] at hq
    refine sg_80_0 ?_
    rw [e3, e4]
    exact cn_i (fun g => by omega) (fun _ => hq h)
  | succ K ih =>
    intro F p hK h0 h hq
    have e3 : F 97 3 = n := (h.2.1 3 (by decide) (by decide) (by decide)).trans h3
    have e4 := h.2.2.1
    have e99 : F 99 = F0 99 := h.1 99 (by decide)
    rw [pLe_s (by omega)] at hq
    refine sg_80_0 ?_
    rw [e3, e4, e99]
    refine cn_i (fun _ => ?_) (fun g => by omega)
    refine ck_i (jb_i (by omega) (by omega)) ?_
    refine c_76 (fun g => cn_1 ?_) (fun g => cn_0 ?_)
    · rw [if_pos (show 97 ≤ F0 99 p.1.toNat ∧ F0 99 p.1.toNat ≤ 122 from g)] at hq
      rw [e4, wr_id (by omega) (by omega)]
      exact ih _ (pAt p (p.1 + 1)) (by show (K : Int) = n - (p.1 + 1); omega) (by show 0 ≤ p.1 + 1; omega) (PZs_4 h) hq
    · rw [if_neg (show ¬ (97 ≤ F0 99 p.1.toNat ∧ F0 99 p.1.toNat ≤ 122) from g)] at hq
      exact hq F h
