/-! ===== the class follows the chance ===== -/
theorem sarl_4 {a : Int} (h0 : 0 ≤ a) (h1 : a < 4611686018427387904) : sarl a 4 = a / 16 := by
  unfold sarl
  rw [← Int64.toInt_toBitVec, Int64.toBitVec_shiftRight]
  have e : ((Int32.ofInt 4).toInt64 &&& 63).toBitVec.smod 64 = 4#64 := by decide
  rw [e]
  show ((Int64.ofInt a).toBitVec.sshiftRight 4).toInt = a / 16
  rw [BitVec.toInt_sshiftRight, Int.shiftRight_eq_div_pow]
  have t : (Int64.ofInt a).toBitVec.toInt = a := by
    rw [Int64.toInt_toBitVec]
    exact Int64.toInt_ofInt_of_le (by omega) (by omega)
  rw [t]
  rfl
def FW (l : Nat → Int) (T : Int → Int → Int → Int) (st : Int) (G : FJ) (h i : Nat) : Prop := ∃ g, FL l T st g h i ∧ ∀ h' p' n', vs l st h' p' n' → G 28 ((h' * 12 + p') * 13 + n').toNat = g ((h' * 12 + p') * 13 + n').toNat * sScH l h'
noncomputable def AR (l : Nat → Int) (T : Int → Int → Int → Int) (st : Int) (G : FJ) (h i : Nat) : Prop := ∀ (h' : Nat) (e : Int), (h' : Int) ≤ l 3 → 1 ≤ e → e ≤ 3 → G 29 ((h' : Int) * 4 + e).toNat = if h' < h then sArr l T st e h' else if h' = h then aS (sAe l T st e h) i else 0
noncomputable def SY (l : Nat → Int) (T : Int → Int → Int → Int) (st : Int) (G : FJ) (h p n : Nat) : Prop := ∀ p' : Nat, (p' : Int) < l 0 → G 30 p' = aS (sVs l T st p') h + (if p' < p then sVs l T st p' h else if p' = p then aS (fun n => sMs l T st h p' n * sScH l h) n else 0)
theorem FW_z {l : Nat → Int} {T : Int → Int → Int → Int} {st : Int} {G : FJ} {h i j : Nat} (hf : FW l T st G h i) (hij : i ≤ j) (hz : ∀ k, i ≤ k → k < j → ∀ p' n', sCo l T st h (sMs l T st h) p' n' k = 0) : FW l T st G h j := by
  obtain ⟨g, g1, g2⟩ := hf
  exact ⟨g, FL_z g1 hij hz, g2⟩
theorem FW_n {l : Nat → Int} {T : Int → Int → Int → Int} {st : Int} {G : FJ} {h : Nat} (hf : FW l T st G h 156) : FW l T st G (h + 1) 0 := by
  obtain ⟨g, g1, g2⟩ := hf
  exact ⟨g, FL_n g1, g2⟩
theorem AR_z {l : Nat → Int} {T : Int → Int → Int → Int} {st : Int} {G : FJ} {h i j : Nat} (ha : AR l T st G h i) (hij : i ≤ j) (hz : ∀ k, i ≤ k → k < j → ∀ e, 1 ≤ e → e ≤ 3 → sAe l T st e h k = 0) : AR l T st G h j := by
  intro h' e a b c
  rw [ha h' e a b c, aS_e hij (fun k k1 k2 => hz k k1 k2 e b c)]
theorem AR_n {l : Nat → Int} {T : Int → Int → Int → Int} {st : Int} {G : FJ} {h : Nat} (ha : AR l T st G h 156) : AR l T st G (h + 1) 0 := by
  intro h' e a b c
  rw [ha h' e a b c]
  by_cases q : h' < h
  · rw [if_pos q, if_pos (by omega)]
  · rw [if_neg q]
    by_cases q2 : h' = h
    · rw [if_pos q2, if_pos (by omega), q2]
      rfl
    · rw [if_neg q2, if_neg (by omega)]
      by_cases q3 : h' = h + 1
      · rw [if_pos q3]
        rfl
      · rw [if_neg q3]
theorem SY_p {l : Nat → Int} {T : Int → Int → Int → Int} {st : Int} {G : FJ} {h p n : Nat} (hs : SY l T st G h p n) (hn : n = (st + 1).toNat) : SY l T st G h (p + 1) 0 := by
  intro p' a
  rw [hs p' a]
  by_cases q : p' < p
  · rw [if_pos q, if_pos (by omega)]
  · rw [if_neg q]
    by_cases q2 : p' = p
    · rw [if_pos q2, if_pos (by omega), hn]
      rfl
    · rw [if_neg q2, if_neg (by omega)]
      by_cases q3 : p' = p + 1
      · rw [if_pos q3]
        rfl
      · rw [if_neg q3]
theorem SY_h {l : Nat → Int} {T : Int → Int → Int → Int} {st : Int} {G : FJ} {h p : Nat} (hs : SY l T st G h p 0) (hp : l 0 ≤ (p : Int)) : SY l T st G (h + 1) 0 0 := by
  intro p' a
  rw [hs p' a, if_pos (by omega), if_neg (by omega)]
  by_cases q : p' = 0
  · rw [if_pos q]
    show _ = aS (sVs l T st p') h + sVs l T st p' h + 0
    omega
  · rw [if_neg q]
    show _ = aS (sVs l T st p') h + sVs l T st p' h + 0
    omega
/-- nothing is there: all stays -/
theorem fl_0 {l : Nat → Int} {T : Int → Int → Int → Int} {st : Int} {G : FJ} {h p n : Nat} (hn : n < 13) (hM : sMs l T st h p n = 0) (h1 : FW l T st G h (p * 13 + n)) (h2 : AR l T st G h (p * 13 + n)) (h3 : SY l T st G h p n) : FW l T st G h (p * 13 + n + 1) ∧ AR l T st G h (p * 13 + n + 1) ∧ SY l T st G h p (n + 1) := by
  have ei : p * 13 + n = ((p : Int) * 13 + (n : Int)).toNat := by omega
  have i1 := i_of (p := p) (n := n) (by omega) (by omega) (by omega)
  rw [← ei] at i1
  refine ⟨FW_z h1 (by omega) (fun k k1 k2 p' n' => ?_), AR_z h2 (by omega) (fun k k1 k2 e e1 e2 => ?_), fun p' a => ?_⟩
  · rw [show k = p * 13 + n by omega]
    unfold sCo
    rw [i1.1, i1.2, hM, Int.zero_mul]
    rcases iW_2 (iv l st (p * 13 + n) ∧ sEnd l h p n = 0) with ⟨_, e⟩ | ⟨_, e⟩ <;> rw [e]
  · rw [show k = p * 13 + n by omega]
    unfold sAe
    rw [i1.1, i1.2, hM, Int.zero_mul]
    rcases iW_2 (iv l st (p * 13 + n)) with ⟨_, e⟩ | ⟨_, e⟩ <;> rw [e]
  · rw [h3 p' a]
    by_cases q : p' = p
    · rw [if_neg (by omega), if_pos q, if_neg (by omega), if_pos q]
      show _ = _ + (aS (fun n => sMs l T st h p' n * sScH l h) n + sMs l T st h p' n * sScH l h)
      rw [q, hM]
      omega
    · by_cases q2 : p' < p
      · rw [if_pos q2, if_pos q2]
      · rw [if_neg q2, if_neg q, if_neg q2, if_neg q]
theorem LK_w {S : FS} {F F' : FI} {G G' : FJ} {a b : Nat} {F0 : FI} (h : LK S F G a b F0) (o1 : ∀ c, ¬ (25 ≤ c ∧ c ≤ 30) → F' c = F c) (o2 : ∀ c, ¬ (28 ≤ c ∧ c ≤ 30) → G' c = G c) : LK S F' G' a b F0 ∧ QC S S F F' G G' := by
  obtain ⟨y, z, s2, s3⟩ := h
  obtain ⟨y1, y2⟩ := YK_w y o1 o2
  exact ⟨⟨y1, by rw [o1 1 (by decide)]; exact z, s2, s3⟩, y2⟩
