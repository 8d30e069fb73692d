/-! ===== the class reads: words, numbers, signs ===== -/
def TF (F0 F : FI) : Prop := (∀ c, c ≠ 2 → F c = F0 c) ∧ ∀ i, i ≠ 3 → i ≠ 4 → i ≠ 5 → i ≠ 6 → F 2 i = F0 2 i
theorem TF_r {F : FI} : TF F F := ⟨fun _ _ => rfl, fun _ _ _ _ _ => rfl⟩
theorem TF_u {F0 F : FI} {i : Nat} {v : Int} (h : TF F0 F) (hi : i = 3 ∨ i = 4 ∨ i = 5 ∨ i = 6) : TF F0 (u2 F 2 i v) := ⟨fun c hc => by rw [u2_o hc]; exact h.1 c hc, fun j a b c d => by rw [u2_n (by omega)]; exact h.2 j a b c d⟩
theorem TF_t {F0 F1 F2 : FI} (h1 : TF F0 F1) (h2 : TF F1 F2) : TF F0 F2 := ⟨fun c hc => (h2.1 c hc).trans (h1.1 c hc), fun j a b c d => (h2.2 j a b c d).trans (h1.2 j a b c d)⟩
/-- a number as the class takes it, and as the reference does -/
def NR (c v : Int) : Prop := (c = v ∧ v ≤ 9999 ∧ 0 ≤ v) ∨ (9999 < c ∧ 9999 < v ∧ c ≤ 1000000)
/-- where the word, the number or the sign at b ends; its sort -/
def tE (t : Nat → Int) (n b : Int) : Int := if n ≤ b then b else if 48 ≤ t b.toNat ∧ t b.toNat ≤ 57 then (pDs t (n - b).toNat b 0).1 else if 97 ≤ t b.toNat ∧ t b.toNat ≤ 122 then pLe t n b else b + 1
def tS (t : Nat → Int) (n b : Int) : Int := if n ≤ b then 0 else if 48 ≤ t b.toNat ∧ t b.toNat ≤ 57 then 2 else if 97 ≤ t b.toNat ∧ t b.toNat ≤ 122 then 1 else 3
/-- the class stands at b -/
def CTk (F : FI) (t : Nat → Int) (n b : Int) : Prop := (F 2 2 = n ∧ F 2 3 = b ∧ F 2 4 = tE t n b ∧ F 2 5 = tS t n b) ∧ (tS t n b = 2 → NR (F 2 6) (pDs t (n - b).toNat b 0).2) ∧ (0 ≤ b ∧ b ≤ n ∧ n ≤ 600) ∧ pSp t n b = b ∧ (∀ i : Nat, (i : Int) < n → F 3 i = t i)
theorem c_277 {k : Int → FS → FI → FJ → Prop} {x0 : Int} {S : FS} {F : FI} {G : FJ} (h1 : 48 ≤ x0 ∧ x0 ≤ 57 → k 1 S F G) (h0 : ¬ (48 ≤ x0 ∧ x0 ≤ 57) → k 0 S F G) : calI 0 277 [.inl x0] (mm S F G) k nof :=
  sg_277_0 (cn_i (fun g => ⟨_, _, _, rfl, h0 (by omega)⟩) (fun g => cn_i (fun g2 => ⟨_, _, _, rfl, h0 (by omega)⟩) (fun g2 => ⟨_, _, _, rfl, h1 (by omega)⟩)))
theorem c_278 {k : Int → FS → FI → FJ → Prop} {x0 : Int} {S : FS} {F : FI} {G : FJ} (h1 : 97 ≤ x0 ∧ x0 ≤ 122 → k 1 S F G) (h0 : ¬ (97 ≤ x0 ∧ x0 ≤ 122) → k 0 S F G) : calI 0 278 [.inl x0] (mm S F G) k nof :=
  sg_278_0 (cn_i (fun g => ⟨_, _, _, rfl, h0 (by omega)⟩) (fun g => cn_i (fun g2 => ⟨_, _, _, rfl, h0 (by omega)⟩) (fun g2 => ⟨_, _, _, rfl, h1 (by omega)⟩)))
theorem pDs_0 {t : Nat → Int} {K : Nat} {a v : Int} (h : ¬ (48 ≤ t a.toNat ∧ t a.toNat ≤ 57)) : pDs t K a v = (a, v) := by
  cases K with
  | zero => rfl
  | succ K => unfold pDs; rw [if_neg h]
theorem pDs_gt {t : Nat → Int} {K : Nat} {a v : Int} (h : 48 ≤ t a.toNat ∧ t a.toNat ≤ 57) (hv : 0 ≤ v) (hv2 : v ≤ 99999) : a + 1 ≤ (pDs t (K + 1) a v).1 := by
  unfold pDs
  rw [if_pos h]
  exact (pDs_b K (a + 1) _ (by split <;> omega) (by split <;> omega)).1.1
set_option maxRecDepth 100000 in
theorem l_276_147 {Q : Rs → Mm → Prop} {F0 : FI} {t : Nat → Int} {n b : Int} {S : FS} {G : FJ} (hn : n ≤ 600) (hb : 0 ≤ b) (hbn : b ≤ n) (hB : ∀ i : Nat, (i : Int) < n → F0 3 i = t i) (h2 : F0 2 2 = n) (hd : b < n → ¬ (48 ≤ t b.toNat ∧ t b.toNat ≤ 57))
    (hk : ∀ F', TF F0 F' → F' 2 3 = b → F' 2 4 = tE t n b → F' 2 5 = tS t n b → Q (.inl none) (mm S F' G)) :
    ∀ (K : Nat) (x : Int) (F : FI), (K : Int) = n - x → b ≤ x → TF F0 F → F 2 3 = b → F 2 4 = x → F 2 5 = 1 → (x = b ∨ (97 ≤ t b.toNat ∧ t b.toNat ≤ 122) ∧ pLe t n b = pLe t n x ∧ b < x) → wph 1 276 147 [.inr (.inr (.inl 2))] [] (mm S F G) (0, 0) Q := by
  have fin : ∀ (x : Int) (F : FI), b ≤ x → x ≤ n → TF F0 F → F 2 3 = b → F 2 4 = x → F 2 5 = 1 → (x = b ∨ (97 ≤ t b.toNat ∧ t b.toNat ≤ 122) ∧ pLe t n b = pLe t n x ∧ b < x) → (x < n → ¬ (97 ≤ t x.toNat ∧ t x.toNat ≤ 122)) →
      cnd (decide (F 2 4 = F 2 3)) (cnd (decide (F 2 3 < F 2 2)) (cnd (decide (F 2 3 < F 2 2)) (Q (.inl none) (mm S (u2 (u2 F 2 5 3) 2 4 (wr (F 2 3 + 1))) G)) (Q (.inl none) (mm S (u2 (u2 F 2 5 3) 2 4 (F 2 3)) G))) (cnd (decide (F 2 3 < F 2 2)) (Q (.inl none) (mm S (u2 (u2 F 2 5 0) 2 4 (wr (F 2 3 + 1))) G)) (Q (.inl none) (mm S (u2 (u2 F 2 5 0) 2 4 (F 2 3)) G)))) (Q (.inl none) (mm S F G)) := by
    intro x F hx hxn tf e3 e4 e5 hp hl
    have e2 : F 2 2 = n := (tf.2 2 (by decide) (by decide) (by decide) (by decide)).trans h2
    rw [e2, e3, e4, wr_id (by omega) (by omega)]
    refine cn_i (fun z => ?_) (fun z => ?_)
    · have nl : b < n → ¬ (97 ≤ t b.toNat ∧ t b.toNat ≤ 122) := fun q => by rw [← z]; exact hl (by omega)
      refine cn_i (fun y => cd_t y ?_) (fun y => cd_f y ?_)
      · refine hk _ (TF_u (TF_u tf (by decide)) (by decide)) ?_ ?_ ?_
        · rw [u2_n (by decide), u2_n (by decide)]; exact e3
        · rw [u2_s]; unfold tE; rw [if_neg (by omega), if_neg (hd y), if_neg (nl y)]
        · rw [u2_n (by decide), u2_s]; unfold tS; rw [if_neg (by omega), if_neg (hd y), if_neg (nl y)]
      · refine hk _ (TF_u (TF_u tf (by decide)) (by decide)) ?_ ?_ ?_
        · rw [u2_n (by decide), u2_n (by decide)]; exact e3
        · rw [u2_s]; unfold tE; rw [if_pos (by omega)]
        · rw [u2_n (by decide), u2_s]; unfold tS; rw [if_pos (by omega)]
    · have hp' := hp.resolve_left z
      have ex : pLe t n x = x := by
        by_cases q : x < n
        · rw [pLe_s q, if_neg (hl q)]
        · exact pLe_e (by omega)
      refine hk F tf e3 ?_ ?_
      · rw [e4]; unfold tE; rw [if_neg (by omega), if_neg (hd (by omega)), if_pos hp'.1, hp'.2.1, ex]
      · rw [e5]; unfold tS; rw [if_neg (by omega), if_neg (hd (by omega)), if_pos hp'.1]
  intro K
  induction K with
  | zero =>
    intro x F hK hx tf e3 e4 e5 hp
    refine sg_276_147 (cd_t e5 (cd_f ?_ (fin x F hx (by omega) tf e3 e4 e5 hp (fun q => by omega))))
    rw [e4, tf.2 2 (by decide) (by decide) (by decide) (by decide), h2]
    omega
  | succ K ih =>
    intro x F hK hx tf e3 e4 e5 hp
    have tx := hB x.toNat (by omega)
    have e2 : F 2 2 = n := (tf.2 2 (by decide) (by decide) (by decide) (by decide)).trans h2
    refine sg_276_147 (cd_t e5 (cd_t (by rw [e4, e2]; omega) ?_))
    rw [e4, tf.1 3 (by decide), tx]
    refine ck_i (jb_i (by omega) (by omega)) (c_278 (fun g => cd_f (by decide) ?_) (fun g => cd_t rfl ?_))
    · rw [e4, wr_id (by omega) (by omega)]
      refine ih (x + 1) _ (by omega) (by omega) (TF_u tf (by decide)) (by rw [u2_n (by decide)]; exact e3) u2_s (by rw [u2_n (by decide)]; exact e5) (Or.inr ?_)
      have ex : pLe t n x = pLe t n (x + 1) := by rw [pLe_s (by omega), if_pos g]
      rcases hp with q | q
      · rw [q] at g ex
        exact ⟨g, by rw [q]; exact ex, by omega⟩
      · exact ⟨q.1, q.2.1.trans ex, by omega⟩
    · exact fin x F hx (by omega) tf e3 e4 e5 hp (fun _ => g)
set_option maxRecDepth 100000 in
theorem l_276_59 {Q : Rs → Mm → Prop} {F0 : FI} {t : Nat → Int} {n b : Int} {S : FS} {G : FJ} (hn : n ≤ 600) (hb : 0 ≤ b) (hbn : b ≤ n) (hB : ∀ i : Nat, (i : Int) < n → F0 3 i = t i) (h2 : F0 2 2 = n) (hsp : pSp t n b = b)
    (hk : ∀ F', TF F0 F' → CTk F' t n b → Q (.inl none) (mm S F' G)) :
    ∀ (K : Nat) (x v : Int) (F : FI), (K : Int) = n - x → b ≤ x → TF F0 F → F 2 3 = b → F 2 4 = x → 0 ≤ v → v ≤ 99999 → NR (F 2 6) v → pDs t (n - b).toNat b 0 = pDs t K x v → (x = b ∨ b < x ∧ 48 ≤ t b.toNat ∧ t b.toNat ≤ 57) → wph 1 276 59 [.inr (.inr (.inl 2))] [] (mm S F G) (0, 0) Q := by
  have fin : ∀ (x v : Int) (F : FI), b ≤ x → x ≤ n → TF F0 F → F 2 3 = b → F 2 4 = x → NR (F 2 6) v → pDs t (n - b).toNat b 0 = (x, v) → (x = b ∨ b < x ∧ 48 ≤ t b.toNat ∧ t b.toNat ≤ 57) → (x = b → b < n → ¬ (48 ≤ t b.toNat ∧ t b.toNat ≤ 57)) →
      cnd (decide (F 2 3 < F 2 4)) (wph 1 276 147 [.inr (.inr (.inl 2))] [] (mm S (u2 F 2 5 2) G) (0, 0) Q) (wph 1 276 147 [.inr (.inr (.inl 2))] [] (mm S (u2 F 2 5 1) G) (0, 0) Q) := by
    intro x v F hx hxn tf e3 e4 nr ep hp hd
    have e2 : F 2 2 = n := (tf.2 2 (by decide) (by decide) (by decide) (by decide)).trans h2
    rw [e3, e4]
    refine cn_i (fun z => ?_) (fun z => ?_)
    · have hp' := hp.resolve_left (by omega)
      refine sg_276_147 (cd_f (by rw [u2_s]; decide) (cd_f (by rw [u2_n (by decide), u2_n (by decide), e3, e4]; omega) (hk _ (TF_u tf (by decide)) ⟨⟨?_, ?_, ?_, ?_⟩, fun _ => ?_, ⟨hb, hbn, hn⟩, hsp, fun i hi => ?_⟩)))
      · rw [u2_n (by decide)]; exact e2
      · rw [u2_n (by decide)]; exact e3
      · rw [u2_n (by decide), e4]; unfold tE; rw [if_neg (by omega), if_pos hp'.2, ep]
      · rw [u2_s]; unfold tS; rw [if_neg (by omega), if_pos hp'.2]
      · rw [u2_n (by decide), ep]; exact nr
      · rw [u2_o (by decide), tf.1 3 (by decide)]; exact hB i hi
    · have xb : x = b := by omega
      refine l_276_147 hn hb hbn hB h2 (hd xb) (fun F' f1 f2 f3 f4 => hk F' f1 ⟨⟨?_, f2, f3, f4⟩, fun q => ?_, ⟨hb, hbn, hn⟩, hsp, fun i hi => ?_⟩) (n - x).toNat x _ (by omega) hx (TF_u tf (by decide)) (by rw [u2_n (by decide)]; exact e3) (by rw [u2_n (by decide)]; exact e4) u2_s (Or.inl xb)
      · exact (f1.2 2 (by decide) (by decide) (by decide) (by decide)).trans h2
      · exfalso
        unfold tS at q
        split at q
        · omega
        · rename_i q2
          rw [if_neg (hd xb (by omega))] at q
          split at q <;> omega
      · rw [f1.1 3 (by decide)]; exact hB i hi
  intro K
  induction K with
  | zero =>
    intro x v F hK hx tf e3 e4 v0 v1 nr ep hp
    have e2 : F 2 2 = n := (tf.2 2 (by decide) (by decide) (by decide) (by decide)).trans h2
    exact sg_276_59 (cd_f (by rw [e4, e2]; omega) (fin x v F hx (by omega) tf e3 e4 nr ep hp (fun a c => by omega)))
  | succ K ih =>
    intro x v F hK hx tf e3 e4 v0 v1 nr ep hp
    have tx := hB x.toNat (by omega)
    have e2 : F 2 2 = n := (tf.2 2 (by decide) (by decide) (by decide) (by decide)).trans h2
    refine sg_276_59 (cd_t (by rw [e4, e2]; omega) ?_)
    rw [e4, tf.1 3 (by decide), tx]
    refine ck_i (jb_i (by omega) (by omega)) (c_277 (fun g => cd_f (by decide) ?_) (fun g => cd_t rfl ?_))
    · rw [e4, tf.1 3 (by decide), tx]
      have ep' : pDs t (n - b).toNat b 0 = pDs t K (x + 1) (if 9999 < v then 10000 else 10 * v + t x.toNat - 48) := by
        rw [ep]
        show (if _ then _ else _) = _
        rw [if_pos g]
      have cb : 0 ≤ F 2 6 ∧ F 2 6 ≤ 1000000 := by
        unfold NR at nr
        omega
      obtain ⟨c, hc⟩ : ∃ c, c = F 2 6 := ⟨_, rfl⟩
      rw [← hc] at nr cb ⊢
      rw [wr_id (a := c * 10) (by omega) (by omega), wr_id (a := c * 10 + t x.toNat) (by omega) (by omega), wr_id (a := c * 10 + t x.toNat - 48) (by omega) (by omega), wr_id (a := x + 1) (by omega) (by omega)]
      refine ck_i (jb_i (by omega) (by omega)) (ih (x + 1) _ _ (by omega) (by omega) (TF_u (TF_u tf (by decide)) (by decide)) (by rw [u2_n (by decide), u2_n (by decide)]; exact e3) u2_s (by split <;> omega) (by split <;> omega) ?_ ep' (Or.inr ?_))
      · rw [u2_n (by decide), u2_s]
        unfold NR at nr ⊢
        rcases nr with ⟨q1, q2, q3⟩ | ⟨q1, q2, q3⟩
        · rw [if_neg (show ¬ 9999 < v by omega)]
          by_cases y : 9999 < 10 * v + t x.toNat - 48
          · right
            rw [q1]
            split <;> omega
          · left
            rw [q1, if_pos (by omega)]
            omega
        · rw [if_pos q2]
          right
          split <;> omega
      · rcases hp with q | q
        · rw [q] at g ⊢
          exact ⟨by omega, g⟩
        · exact ⟨by omega, q.2⟩
    · have e0 : pDs t (n - b).toNat b 0 = (x, v) := ep.trans (pDs_0 g)
      refine fin x v F hx (by omega) tf e3 e4 nr e0 hp (fun q c => by rw [← q]; exact g)
theorem pSp_p {t : Nat → Int} {n : Int} : ∀ (K : Nat) (a : Int), (K : Int) = n - a → pSp t n (pSp t n a) = pSp t n a := by
  intro K
  induction K with
  | zero => intro a h; rw [pSp_e (a := a) (by omega), pSp_e (by omega)]
  | succ K ih =>
    intro a h
    by_cases q : t a.toNat = 32
    · rw [pSp_s (a := a) (by omega), if_pos q]
      exact ih (a + 1) (by omega)
    · have e : pSp t n a = a := by rw [pSp_s (by omega), if_neg q]
      rw [e, e]
set_option maxRecDepth 100000 in
theorem l_276_8 {Q : Rs → Mm → Prop} {F0 : FI} {t : Nat → Int} {n : Int} {S : FS} {G : FJ} (hn : n ≤ 600) (hB : ∀ i : Nat, (i : Int) < n → F0 3 i = t i) (h2 : F0 2 2 = n) :
    ∀ (K : Nat) (x : Int) (F : FI), (K : Int) = n - x → 0 ≤ x → TF F0 F → F 2 3 = x → (∀ F', TF F0 F' → CTk F' t n (pSp t n x) → Q (.inl none) (mm S F' G)) → wph 1 276 8 [.inr (.inr (.inl 2))] [] (mm S F G) (0, 0) Q := by
  have nx : ∀ (x : Int) (F : FI), 0 ≤ x → x ≤ n → TF F0 F → F 2 3 = x → pSp t n x = x → (∀ F', TF F0 F' → CTk F' t n x → Q (.inl none) (mm S F' G)) → wph 1 276 59 [.inr (.inr (.inl 2))] [] (mm S (u2 (u2 F 2 4 (F 2 3)) 2 6 0) G) (0, 0) Q := by
    intro x F h0 h1 tf e3 esp hk
    exact l_276_59 hn h0 h1 hB h2 esp hk (n - x).toNat x 0 _ (by omega) (Int.le_refl _) (TF_u (TF_u tf (by decide)) (by decide)) (by rw [u2_n (by decide), u2_n (by decide)]; exact e3) (by rw [u2_n (by decide), u2_s]; exact e3) (by decide) (by decide) (by rw [u2_s]; exact Or.inl ⟨rfl, by decide, by decide⟩) rfl (Or.inl rfl)
  intro K
  induction K with
  | zero =>
    intro x F hK h0 tf e3 hk
    have e2 : F 2 2 = n := (tf.2 2 (by decide) (by decide) (by decide) (by decide)).trans h2
    have esp : pSp t n x = x := pSp_e (by omega)
    rw [esp] at hk
    exact sg_276_8 (cd_f (by rw [e3, e2]; omega) (nx x F h0 (by omega) tf e3 esp hk))
  | succ K ih =>
    intro x F hK h0 tf e3 hk
    have e2 : F 2 2 = n := (tf.2 2 (by decide) (by decide) (by decide) (by decide)).trans h2
    have tx := hB x.toNat (by omega)
    refine sg_276_8 (cd_t (by rw [e3, e2]; omega) ?_)
    have e0 : F 3 (F 2 3).toNat = t x.toNat := by rw [e3, tf.1 3 (by decide), tx]
    rw [e0]
    refine ck_i (by rw [e3]; exact jb_i (by omega) (by omega)) (cn_i (fun g => ?_) (fun g => ?_))
    · rw [e3, wr_id (by omega) (by omega)]
      rw [pSp_s (by omega), if_pos g] at hk
      exact ih (x + 1) _ (by omega) (by omega) (TF_u tf (by decide)) u2_s hk
    · have esp : pSp t n x = x := by rw [pSp_s (by omega), if_neg g]
      rw [esp] at hk
      exact nx x F h0 (by omega) tf e3 esp hk
theorem c_276 {k : FS → FI → FJ → Prop} {t : Nat → Int} {n a : Int} {S : FS} {F : FI} {G : FJ} (hn : n ≤ 600) (h0 : 0 ≤ a) (h1 : a ≤ n) (hB : ∀ i : Nat, (i : Int) < n → F 3 i = t i) (h2 : F 2 2 = n) (h4 : F 2 4 = a) (hk : ∀ F', TF F F' → CTk F' t n (pSp t n a) → k S F' G) : calV 1 276 [.inr (.inr (.inl 2))] (mm S F G) k nof :=
  sg_276_0 (l_276_8 (F0 := F) hn hB h2 (n - a).toNat a _ (by omega) h0 (TF_u TF_r (by decide)) (by rw [u2_s]; exact h4) (fun F' f c => ⟨_, _, _, rfl, hk F' f c⟩))
