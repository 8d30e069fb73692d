/-! ===== the reference reads a law: pieces ===== -/
def PRG (F : FI) (s : List (Int × Int)) : Prop := F 97 14 = (s.length : Int) ∧ ∀ i : Nat, i < s.length → F 104 i = (s.getD i (0, 0)).1 ∧ F 105 i = (s.getD i (0, 0)).2
def MP (F0 F : FI) (x : Px) (o : Int) : Prop := (∀ a, a ≠ 97 → a ≠ 104 → a ≠ 105 → F a = F0 a) ∧ (∀ i, i ≠ 4 → i ≠ 5 → i ≠ 6 → i ≠ 7 → i ≠ 14 → F 97 i = F0 97 i) ∧ (F 97 4 = x.1.1 ∧ F 97 5 = x.1.2.1 ∧ F 97 6 = x.1.2.2) ∧ F 97 7 = o ∧ PRG F x.2
/-- the text that is read -/
def MT (F0 : FI) (t : Nat → Int) (n : Int) : Prop := F0 99 = t ∧ F0 97 3 = n ∧ (0 ≤ n ∧ n ≤ 600) ∧ TX F0
theorem getD_l {s : List (Int × Int)} {q : Int × Int} {i : Nat} (h : i < s.length) : (s ++ [q]).getD i (0, 0) = s.getD i (0, 0) := by
  rw [List.getD_eq_getElem?_getD, List.getD_eq_getElem?_getD, List.getElem?_append_left h]
theorem getD_r {s : List (Int × Int)} {q : Int × Int} : (s ++ [q]).getD s.length (0, 0) = q := by
  rw [List.getD_eq_getElem?_getD, List.getElem?_append_right (Nat.le_refl _), Nat.sub_self]
  rfl
theorem nb {m d : Nat} (h : m ≤ d) : Nat.ble m d = true := Nat.ble_eq_true_of_le h
theorem MP_s {F0 F : FI} {x : Px} {o : Int} (h : MP F0 F x o) : PZs F F x.1 := ⟨fun _ _ => rfl, fun _ _ _ _ => rfl, h.2.2.1⟩
theorem MP_n {F0 F : FI} {t : Nat → Int} {n : Int} {x : Px} {o : Int} (hm : MT F0 t n) (h : MP F0 F x o) (hx : 0 ≤ x.1.1 ∧ x.1.1 ≤ n) : PZn F n x.1 := ⟨(h.2.1 3 (by decide) (by decide) (by decide) (by decide) (by decide)).trans hm.2.1, hm.2.2.1.2, hx.1, hx.2⟩
theorem MP_t {F0 F : FI} {t : Nat → Int} {n : Int} {x : Px} {o : Int} (hm : MT F0 t n) (h : MP F0 F x o) : F 99 = t := (h.1 99 (by decide) (by decide) (by decide)).trans hm.1
theorem MP_p {F0 F F1 : FI} {x : Px} {o : Int} {q : Pz} (h : MP F0 F x o) (s : PZs F F1 q) : MP F0 F1 (q, x.2) o := by
  obtain ⟨h1, h2, h3, h4, h5, h6⟩ := h
  obtain ⟨s1, s2, s3⟩ := s
  refine ⟨fun a a1 a2 a3 => (s1 a a1).trans (h1 a a1 a2 a3), fun i i1 i2 i3 i4 i5 => (s2 i i1 i2 i3).trans (h2 i i1 i2 i3 i4 i5), s3, (s2 7 (by decide) (by decide) (by decide)).trans h4, (s2 14 (by decide) (by decide) (by decide)).trans h5, fun i hi => ?_⟩
  rw [s1 104 (by decide), s1 105 (by decide)]
  exact h6 i hi
theorem MP_4 {F0 F : FI} {x : Px} {o v : Int} (h : MP F0 F x o) : MP F0 (u2 F 97 4 v) (pAt x.1 v, x.2) o := by
  obtain ⟨h1, h2, ⟨h3, h3b, h3c⟩, h4, h5, h6⟩ := h
  refine ⟨fun a a1 a2 a3 => by rw [u2_o a1]; exact h1 a a1 a2 a3, fun i i1 i2 i3 i4 i5 => by rw [u2_n i1]; exact h2 i i1 i2 i3 i4 i5, ⟨u2_s, by rw [u2_n (by decide)]; exact h3b, by rw [u2_n (by decide)]; exact h3c⟩, by rw [u2_n (by decide)]; exact h4, by rw [u2_n (by decide)]; exact h5, fun i hi => ?_⟩
  rw [u2_o (by decide), u2_o (by decide)]
  exact h6 i hi
theorem MP_7 {F0 F : FI} {x : Px} {o v : Int} (h : MP F0 F x o) : MP F0 (u2 F 97 7 v) x v := by
  obtain ⟨h1, h2, ⟨h3, h3b, h3c⟩, h4, h5, h6⟩ := h
  refine ⟨fun a a1 a2 a3 => by rw [u2_o a1]; exact h1 a a1 a2 a3, fun i i1 i2 i3 i4 i5 => by rw [u2_n i4]; exact h2 i i1 i2 i3 i4 i5, ⟨by rw [u2_n (by decide)]; exact h3, by rw [u2_n (by decide)]; exact h3b, by rw [u2_n (by decide)]; exact h3c⟩, u2_s, by rw [u2_n (by decide)]; exact h5, fun i hi => ?_⟩
  rw [u2_o (by decide), u2_o (by decide)]
  exact h6 i hi
theorem MP_X {F0 F : FI} {t : Nat → Int} {n : Int} {x : Px} {o : Int} (hm : MT F0 t n) (h : MP F0 F x o) : TX F := by
  intro t i a b
  rw [h.1 (2000000 + t) (by omega) (by omega) (by omega)]
  exact hm.2.2.2 t i a b
theorem k_73 {k : Int → FS → FI → FJ → Prop} {F0 : FI} {x : Px} {o : Int} {S : FS} {F : FI} {G : FJ} (h : MP F0 F x o) (h1 : x.1.2.1 = -1 → k 1 S F G) (h0 : x.1.2.1 ≠ -1 → k 0 S F G) : calI 0 73 [.inr (.inr (.inl 97))] (mm S F G) k nof := c_73 (MP_s h) h1 h0
theorem k_74 {k : FS → FI → FJ → Prop} {F0 : FI} {x : Px} {o x1 x2 : Int} {S : FS} {F : FI} {G : FJ} (h : MP F0 F x o) (hk : ∀ F', MP F0 F' (pFl x.1 x1 x2, x.2) o → k S F' G) : calV 0 74 [.inr (.inr (.inl 97)), .inl x1, .inl x2] (mm S F G) k nof := c_74 (MP_s h) (fun F' s => hk F' (MP_p h s))
theorem k_75 {k : Int → FS → FI → FJ → Prop} {F0 : FI} {t : Nat → Int} {n : Int} {x : Px} {o : Int} {S : FS} {F : FI} {G : FJ} (hm : MT F0 t n) (h : MP F0 F x o) (hx : 0 ≤ x.1.1 ∧ x.1.1 ≤ n) (hk : ∀ F', MP F0 F' (pAt x.1 (pSp t n x.1.1), x.2) o → k (pBy t n (pSp t n x.1.1)) S F' G) : calI 0 75 [.inr (.inr (.inl 97))] (mm S F G) k nof := by
  refine c_75 (MP_n hm h hx) (MP_s h) (fun F' s _ => ?_)
  rw [MP_t hm h] at s ⊢
  exact hk F' (MP_p h s)
theorem k_75f {k : Int → FS → FI → FJ → Prop} {F0 : FI} {t : Nat → Int} {n : Int} {x : Px} {o : Int} {S : FS} {F : FI} {G : FJ} (hm : MT F0 t n) (h : MP F0 F x o) (hx : 0 ≤ x.1.1 ∧ x.1.1 ≤ n) (hf : pSp t n x.1.1 = x.1.1) (hk : ∀ F', MP F0 F' x o → k (pBy t n x.1.1) S F' G) : calI 0 75 [.inr (.inr (.inl 97))] (mm S F G) k nof := by
  refine k_75 hm h hx (fun F' s => ?_)
  rw [hf] at s ⊢
  exact hk F' s
theorem k_78 {k : Int → FS → FI → FJ → Prop} {F0 : FI} {t : Nat → Int} {n : Int} {x : Px} {o : Int} {S : FS} {F : FI} {G : FJ} (hm : MT F0 t n) (h : MP F0 F x o) (hx : 0 ≤ x.1.1 ∧ x.1.1 ≤ n) (hk : ∀ F', MP F0 F' (pAt x.1 (pSp t n x.1.1), x.2) o → k (pWd t n (pSp t n x.1.1)) S F' G) : calI 1 78 [.inr (.inr (.inl 97))] (mm S F G) k nof := by
  refine c_78 (MP_n hm h hx) (MP_s h) (fun F' s _ => ?_)
  rw [MP_t hm h] at s ⊢
  exact hk F' (MP_p h s)
theorem k_78f {k : Int → FS → FI → FJ → Prop} {F0 : FI} {t : Nat → Int} {n : Int} {x : Px} {o : Int} {S : FS} {F : FI} {G : FJ} (hm : MT F0 t n) (h : MP F0 F x o) (hx : 0 ≤ x.1.1 ∧ x.1.1 ≤ n) (hf : pSp t n x.1.1 = x.1.1) (hk : ∀ F', MP F0 F' x o → k (pWd t n x.1.1) S F' G) : calI 1 78 [.inr (.inr (.inl 97))] (mm S F G) k nof := by
  refine k_78 hm h hx (fun F' s => ?_)
  rw [hf] at s ⊢
  exact hk F' s
theorem k_80 {k : FS → FI → FJ → Prop} {F0 : FI} {t : Nat → Int} {n : Int} {x : Px} {o : Int} {S : FS} {F : FI} {G : FJ} (hm : MT F0 t n) (h : MP F0 F x o) (hx : 0 ≤ x.1.1 ∧ x.1.1 ≤ n) (hk : ∀ F', MP F0 F' (pAt x.1 (pLe t n x.1.1), x.2) o → k S F' G) : calV 1 80 [.inr (.inr (.inl 97))] (mm S F G) k nof := by
  refine c_80 (MP_n hm h hx) (MP_s h) (fun F' s _ => ?_)
  rw [MP_t hm h] at s
  exact hk F' (MP_p h s)
theorem k_81 {k : Int → FS → FI → FJ → Prop} {F0 : FI} {t : Nat → Int} {n lo hi : Int} {x : Px} {o : Int} {S : FS} {F : FI} {G : FJ} (hm : MT F0 t n) (h : MP F0 F x o) (hx : 0 ≤ x.1.1 ∧ x.1.1 ≤ n) (hk : ∀ F', MP F0 F' ((pNb t n x.1 lo hi).2, x.2) o → k (pNb t n x.1 lo hi).1 S F' G) : calI 1 81 [.inr (.inr (.inl 97)), .inl lo, .inl hi] (mm S F G) k nof := by
  refine c_81 (MP_n hm h hx) (MP_s h) (fun F' s _ => ?_)
  rw [MP_t hm h] at s ⊢
  exact hk F' (MP_p h s)
theorem k_82 {k : FS → FI → FJ → Prop} {F0 : FI} {t : Nat → Int} {n c : Int} {x : Px} {o : Int} {S : FS} {F : FI} {G : FJ} (hc : c ≠ 0) (hm : MT F0 t n) (h : MP F0 F x o) (hx : 0 ≤ x.1.1 ∧ x.1.1 ≤ n) (hk : ∀ F', MP F0 F' (pEx t n x.1 c, x.2) o → k S F' G) : calV 1 82 [.inr (.inr (.inl 97)), .inl c] (mm S F G) k nof := by
  refine c_82 hc (MP_n hm h hx) (MP_s h) (fun F' s _ => ?_)
  rw [MP_t hm h] at s
  exact hk F' (MP_p h s)
set_option maxRecDepth 100000 in
/-- a step more -/
theorem k_97 {k : FS → FI → FJ → Prop} {F0 : FI} {x : Px} {o op v : Int} {S : FS} {F : FI} {G : FJ} (h : MP F0 F x o) (hl : x.1.2.1 = -1 → (x.2.length : Int) < 620) (hk : ∀ F', MP F0 F' (emx x op v) o → k S F' G) : calV 1 97 [.inr (.inr (.inl 97)), .inl op, .inl v] (mm S F G) k nof := by
  refine sg_97_0 (k_73 h (fun b => cd_f (by decide) ?_) (fun b => cd_t rfl ⟨_, _, _, rfl, ?_⟩))
  · rw [emx_y b] at hk
    have hl := hl b
    obtain ⟨h1, h2, h3, h4, h5, h6⟩ := h
    rw [h5, wr_id (by omega) (by omega)]
    refine ck_i (jb_i (by omega) (by omega)) (ck_i (jb_i (by omega) (by omega)) ⟨_, _, _, rfl, hk _ ⟨fun a a1 a2 a3 => ?_, fun i i1 i2 i3 i4 i5 => ?_, ⟨?_, ?_, ?_⟩, ?_, ?_, fun i hi => ?_⟩⟩)
    · rw [u2_o a1, u2_o a3, u2_o a2]; exact h1 a a1 a2 a3
    · rw [u2_n i5, u2_o (by decide), u2_o (by decide)]; exact h2 i i1 i2 i3 i4 i5
    · rw [u2_n (by decide), u2_o (by decide), u2_o (by decide)]; exact h3.1
    · rw [u2_n (by decide), u2_o (by decide), u2_o (by decide)]; exact h3.2.1
    · rw [u2_n (by decide), u2_o (by decide), u2_o (by decide)]; exact h3.2.2
    · rw [u2_n (by decide), u2_o (by decide), u2_o (by decide)]; exact h4
    · rw [u2_s]
      show _ = ((x.2 ++ [(op, v)]).length : Int)
      rw [List.length_append]
      rfl
    · have hi : i < (x.2 ++ [(op, v)]).length := hi
      rw [List.length_append] at hi
      have hi : i < x.2.length + 1 := hi
      rw [u2_o (by decide), u2_o (by decide), u2_k, u2_o (by decide), u2_k, show ((x.2.length : Int)).toNat = x.2.length by omega]
      show _ = ((x.2 ++ [(op, v)]).getD i (0, 0)).1 ∧ _ = ((x.2 ++ [(op, v)]).getD i (0, 0)).2
      by_cases q : i = x.2.length
      · rw [if_pos q, if_pos q, q, getD_r]
        exact ⟨rfl, rfl⟩
      · rw [if_neg q, if_neg q, getD_l (by omega)]
        exact h6 i (by omega)
  · rw [emx_n b] at hk
    exact hk F h
/-- something opens -/
theorem k_98 {k' : FS → FI → FJ → Prop} {F0 : FI} {x : Px} {o k : Int} {S : FS} {F : FI} {G : FJ} (h : MP F0 F x o) (ho : 0 ≤ o ∧ o ≤ 7) (hk0 : 0 ≤ k ∧ k ≤ 9) (hx : 0 ≤ x.1.1 ∧ x.1.1 ≤ 600) (hk : ∀ F', MP F0 F' (opn x.1 k o, x.2) (o + 1) → k' S F' G) : calV 1 98 [.inr (.inr (.inl 97)), .inl k] (mm S F G) k' nof := by
  have fin : ∀ (F1 : FI) (p : Pz), MP F0 F1 (p, x.2) o → p.2.1 ≠ -1 → opn x.1 k o = p → k' S (u2 F1 97 7 (wr (F1 97 7 + 1))) G := by
    intro F1 p h1 hp e
    rw [e] at hk
    rw [h1.2.2.2.1, wr_id (by omega) (by omega)]
    exact hk _ (MP_7 h1)
  refine sg_98_0 (k_73 h (fun b => cd_f (by decide) ?_) (fun b => cd_t rfl (k_73 h (fun b' => absurd b' b) (fun _ => cd_t rfl ⟨_, _, _, rfl, fin F x.1 h b ?_⟩))))
  · rw [h.2.2.2.1]
    refine cn_i (fun z => ?_) (fun z => ?_)
    · rw [h.2.2.1.1]
      refine k_74 h (fun F1 h1 => k_73 h1 (fun q => ?_) (fun q => cd_t rfl ⟨_, _, _, rfl, fin F1 _ h1 q ?_⟩))
      · rw [pFl_y b] at q
        have q : x.1.1 = -1 := q
        omega
      · rw [z]
        exact opn_6 b
    · refine k_73 h (fun _ => cd_f (by decide) ⟨_, _, _, rfl, ?_⟩) (fun q => absurd b q)
      show k' S (u2 (u2 F 97 4 (wr (F 97 4 + k))) 97 7 (wr (F 97 7 + 1))) G
      rw [h.2.2.1.1, h.2.2.2.1, wr_id (a := x.1.1 + k) (by omega) (by omega), wr_id (a := o + 1) (by omega) (by omega)]
      rw [opn_o b z] at hk
      exact hk _ (MP_7 (MP_4 h))
  · unfold opn
    rw [if_pos b]
theorem k_99 {k : Int → FS → FI → FJ → Prop} {w : Int} {S : FS} {F : FI} {G : FJ} (hT : TX F) (hk : k (fcW w) S F G) : calI 1 99 [.inl w] (mm S F G) k nof := by
  unfold fcW at hk
  refine sg_99_0 (c_79t (t := 15) rfl (by decide) (by decide) (by decide) hT (cn_i (fun z => ?_) (fun z => ?_)))
  · rw [if_pos z] at hk; exact ⟨_, _, _, rfl, hk⟩
  rw [if_neg z] at hk
  refine c_79t (t := 16) rfl (by decide) (by decide) (by decide) hT (cn_i (fun z => ?_) (fun z => ?_))
  · rw [if_pos z] at hk; exact ⟨_, _, _, rfl, hk⟩
  rw [if_neg z] at hk
  refine c_79t (t := 17) rfl (by decide) (by decide) (by decide) hT (cn_i (fun z => ?_) (fun z => ?_))
  · rw [if_pos z] at hk; exact ⟨_, _, _, rfl, hk⟩
  rw [if_neg z] at hk
  refine c_79t (t := 4) rfl (by decide) (by decide) (by decide) hT (cn_i (fun z => ?_) (fun z => ?_))
  · rw [if_pos z] at hk; exact ⟨_, _, _, rfl, hk⟩
  rw [if_neg z] at hk
  refine c_79t (t := 18) rfl (by decide) (by decide) (by decide) hT (cn_i (fun z => ?_) (fun z => ?_))
  · rw [if_pos z] at hk; exact ⟨_, _, _, rfl, hk⟩
  rw [if_neg z] at hk
  refine c_79t (t := 6) rfl (by decide) (by decide) (by decide) hT (cn_i (fun z => ?_) (fun z => ?_))
  · rw [if_pos z] at hk; exact ⟨_, _, _, rfl, hk⟩
  rw [if_neg z] at hk
  refine c_79t (t := 19) rfl (by decide) (by decide) (by decide) hT (cn_i (fun z => ?_) (fun z => ?_))
  · rw [if_pos z] at hk; exact ⟨_, _, _, rfl, hk⟩
  rw [if_neg z] at hk
  refine c_79t (t := 8) rfl (by decide) (by decide) (by decide) hT (cn_i (fun z => ?_) (fun z => ?_))
  · rw [if_pos z] at hk; exact ⟨_, _, _, rfl, hk⟩
  rw [if_neg z] at hk
  exact ⟨_, _, _, rfl, hk⟩
