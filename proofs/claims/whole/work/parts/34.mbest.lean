/-! ===== the reference's choices ===== -/
theorem lc_p {a b : Int} : 0 < lc a b ↔ b < a := by
  unfold lc
  split
  · omega
  · split <;> omega
theorem lc_n {a b : Int} : lc a b < 0 ↔ a < b := by
  unfold lc
  split
  · omega
  · split <;> omega
theorem lc_z {a b : Int} : lc a b = 0 ↔ a = b := by
  unfold lc
  split
  · omega
  · split <;> omega
theorem bst_r (v : Int → Int) (b : Int) : ∀ n : Nat, -1 ≤ bst v b n ∧ bst v b n < n ∧ (bst v b n ≠ -1 → bit b (bst v b n)) := by
  intro n
  induction n with
  | zero => exact ⟨by simp [bst], by simp [bst], fun h => absurd rfl h⟩
  | succ m ih =>
    obtain ⟨h1, h2, h3⟩ := ih
    unfold bst
    split
    · rename_i hb
      split
      · exact ⟨by omega, by omega, fun _ => hb⟩
      · exact ⟨h1, by omega, h3⟩
    · exact ⟨h1, by omega, h3⟩
theorem bst_t {v : Int → Int} {b i : Int} (h0 : 0 ≤ i) (hb : bit b i) : bst v b (i + 1).toNat = if bst v b i.toNat = -1 ∨ v (bst v b i.toNat) < v i then i else bst v b i.toNat := by
  obtain ⟨n, rfl⟩ := Int.eq_ofNat_of_zero_le h0
  rw [show ((n : Int) + 1).toNat = n + 1 by omega, show ((n : Int)).toNat = n by omega]
  exact if_pos hb
theorem bst_f {v : Int → Int} {b i : Int} (h0 : 0 ≤ i) (hb : ¬ bit b i) : bst v b (i + 1).toNat = bst v b i.toNat := by
  obtain ⟨n, rfl⟩ := Int.eq_ofNat_of_zero_le h0
  rw [show ((n : Int) + 1).toNat = n + 1 by omega, show ((n : Int)).toNat = n by omega]
  exact if_neg hb
theorem bst_ne {v : Int → Int} {b : Int} {m : Int} : ∀ {n : Nat}, 0 ≤ m → m < n → bit b m → bst v b n ≠ -1 := by
  intro n
  induction n with
  | zero => intro h1 h2; omega
  | succ k ih =>
    intro h1 h2 h3
    have h4 := bst_r v b k
    unfold bst
    split
    · split
      · omega
      · rename_i h; exact fun q => h (Or.inl q)
    · rename_i hb
      refine ih h1 ?_ h3
      have : m ≠ k := fun q => hb (q ▸ h3)
      omega
theorem bst_c {v w : Int → Int} {b : Int} : ∀ {n : Nat}, (∀ m : Int, 0 ≤ m → m < n → bit b m → v m = w m) → bst v b n = bst w b n := by
  intro n
  induction n with
  | zero => intro _; rfl
  | succ k ih =>
    intro h
    have e := ih (fun m h1 h2 h3 => h m h1 (by omega) h3)
    have h4 := bst_r w b k
    unfold bst
    rw [e]
    split
    · rename_i hb
      rw [h k (by omega) (by omega) hb]
      by_cases c : bst w b k = -1
      · rw [if_pos (Or.inl c), if_pos (Or.inl c)]
      · rw [h _ (by omega) (by omega) (h4.2.2 c)]
    · rfl
theorem l_134 {Q : Rs → Mm → Prop} {r1 : Nat} {x2 x3 x4 x5 x6 x7 x8 y9 x11 : Int} {S : FS} {F : FI} {G : FJ} (hv : LV (F 100)) (hr1 : (kk r1).1 = 2) (hr2 : (kk r1).2 = 19500) (h0 : 0 ≤ x2) (h1 : x2 ≤ 15600) (h2 : 0 ≤ x4) (h3 : x4 < F 100 3) (h4 : 0 ≤ x5) (h5 : x5 < F 100 0)
    (h6 : 1 ≤ x6) (h7 : x6 ≤ F 97 31) (h8 : F 97 31 ≤ 12) (hs : ∀ h, 0 ≤ h → h < F 100 3 → F 122 h.toNat = sSy (F 100) h) (hB : ∀ i, B5 (G r1 i)) (hb0 : 0 ≤ x3) (hb1 : x3 < 2147483648) (hx7 : x7 = 0 ∨ x7 = 1)
    (h9 : 0 ≤ x11) (h10 : x11 ≤ F 100 1 + 1) (e8 : x8 = bst (fun m => (if x7 = 0 then 1 else -1) * sBr (F 100) (F 97 31) x4 x5 x6 m (sF (G r1) x2 x4)) x3 x11.toNat) (e9 : x8 ≠ -1 → y9 = sBr (F 100) (F 97 31) x4 x5 x6 x8 (sF (G r1) x2 x4))
    (hq : Q (.inl (some (.inl (bst (fun m => (if x7 = 0 then 1 else -1) * sBr (F 100) (F 97 31) x4 x5 x6 m (sF (G r1) x2 x4)) x3 (F 100 1 + 1).toNat)))) (mm S F G)) :
    wph 3 134 9 [.inr (.inr (.inl 97)), .inr (.inr (.inl r1)), .inl x2, .inl x3, .inl x4, .inl x5, .inl x6, .inl x7, .inl x8, .inr (.inl y9), jk, .inl x11] [] (mm S F G) (0, 0) Q := by
  obtain ⟨⟨hv1, hv2⟩, ⟨hv3, hv4⟩, ⟨hv5, hv6⟩, ⟨hv7, hv8⟩, ⟨hv9, hv10⟩, ⟨hv11, hv12⟩, ⟨hv13, hv14⟩, hvw, hvs, hvk, hvc, hvx⟩ := id hv
  have hr := bst_r (fun m => (if x7 = 0 then 1 else -1) * sBr (F 100) (F 97 31) x4 x5 x6 m (sF (G r1) x2 x4)) x3 x11.toNat
  rw [← e8] at hr
  refine sg_134_9 ?_
  refine cn_i (fun h => ?_) (fun h => ?_)
  · have : x11 = F 100 1 + 1 := by omega
    rw [e8, this]
    exact hq
  · try simp (disch := omega) only [wr_id]
    refine cn_i (fun g => ?_) (fun g => ?_)
    · rw [bit_z hb0 hb1 h9 (by omega)] at g
      exact l_134 hv hr1 hr2 h0 h1 h2 h3 h4 h5 h6 h7 h8 hs hB hb0 hb1 hx7 (by omega) (by omega) (by rw [bst_f h9 g]; exact e8) e9 hq
    · rw [bit_z hb0 hb1 h9 (by omega), Classical.not_not] at g
      have hn := bst_t (v := fun m => (if x7 = 0 then 1 else -1) * sBr (F 100) (F 97 31) x4 x5 x6 m (sF (G r1) x2 x4)) h9 g
      rw [← e8] at hn
      refine c_132 hv hr1 hr2 h0 h1 h2 h3 h4 h5 h6 h7 h8 h9 (by omega) hs hB (fun v e => ?_)
      have rep : ∀ y : Int, y = v → bst (fun m => (if x7 = 0 then 1 else -1) * sBr (F 100) (F 97 31) x4 x5 x6 m (sF (G r1) x2 x4)) x3 (x11 + 1).toNat = x11 →
          wph 3 134 9 [.inr (.inr (.inl 97)), .inr (.inr (.inl r1)), .inl x2, .inl x3, .inl x4, .inl x5, .inl x6, .inl x7, .inl x11, .inr (.inl y), jk, .inl (x11 + 1)] [] (mm S F G) (0, 0) Q := by
        intro y ey hh
        exact l_134 hv hr1 hr2 h0 h1 h2 h3 h4 h5 h6 h7 h8 hs hB hb0 hb1 hx7 (by omega) (by omega) hh.symm (fun _ => ey.trans e) hq
      have kep : bst (fun m => (if x7 = 0 then 1 else -1) * sBr (F 100) (F 97 31) x4 x5 x6 m (sF (G r1) x2 x4)) x3 (x11 + 1).toNat = x8 →
          wph 3 134 9 [.inr (.inr (.inl 97)), .inr (.inr (.inl r1)), .inl x2, .inl x3, .inl x4, .inl x5, .inl x6, .inl x7, .inl x8, .inr (.inl y9), jk, .inl (x11 + 1)] [] (mm S F G) (0, 0) Q := by
        intro hh
        exact l_134 hv hr1 hr2 h0 h1 h2 h3 h4 h5 h6 h7 h8 hs hB hb0 hb1 hx7 (by omega) (by omega) hh.symm e9 hq
      refine cn_i (fun c => ?_) (fun c => ?_)
      · exact rep v rfl (hn.trans (if_pos (Or.inl c)))
      · have e9' := e9 c
        refine cn_i (fun d => ?_) (fun d => ?_)
        · simp only [if_pos d, Int.one_mul] at hn rep kep
          rw [← e, ← e9'] at hn
          refine cn_i (fun z => ?_) (fun z => ?_)
          · exact rep v rfl (hn.trans (if_pos (Or.inr (lc_p.mp z))))
          · exact kep (hn.trans (if_neg (fun q => q.elim c (fun q => z (lc_p.mpr q)))))
        · simp only [if_neg d] at hn rep kep
          rw [← e, ← e9'] at hn
          refine cn_i (fun z => ?_) (fun z => ?_)
          · exact rep v rfl (hn.trans (if_pos (Or.inr (by have := lc_n.mp z; omega))))
          · exact kep (hn.trans (if_neg (fun q => q.elim c (fun q => z (lc_n.mpr (by omega))))))
termination_by (F 100 1 + 1 - x11).toNat
decreasing_by all_goals omega
theorem c_134 {k : Int → FS → FI → FJ → Prop} {r1 : Nat} {x2 x3 x4 x5 x6 x7 : Int} {S : FS} {F : FI} {G : FJ} (hv : LV (F 100)) (hr1 : (kk r1).1 = 2) (hr2 : (kk r1).2 = 19500) (h0 : 0 ≤ x2) (h1 : x2 ≤ 15600) (h2 : 0 ≤ x4) (h3 : x4 < F 100 3) (h4 : 0 ≤ x5) (h5 : x5 < F 100 0)
    (h6 : 1 ≤ x6) (h7 : x6 ≤ F 97 31) (h8 : F 97 31 ≤ 12) (hb0 : 0 ≤ x3) (hb1 : x3 < 2147483648) (hx7 : x7 = 0 ∨ x7 = 1) (hs : ∀ h, 0 ≤ h → h < F 100 3 → F 122 h.toNat = sSy (F 100) h) (hB : ∀ i, B5 (G r1 i))
    (hk : ∀ v, v = bst (fun m => (if x7 = 0 then 1 else -1) * sBr (F 100) (F 97 31) x4 x5 x6 m (sF (G r1) x2 x4)) x3 (F 100 1 + 1).toNat → k v S F G) :
    calI 3 134 [.inr (.inr (.inl 97)), .inr (.inr (.inl r1)), .inl x2, .inl x3, .inl x4, .inl x5, .inl x6, .inl x7] (mm S F G) k nof := by
  have hw := hv.2.1.1
  refine sg_134_0 ?_
  exact l_134 hv hr1 hr2 h0 h1 h2 h3 h4 h5 h6 h7 h8 hs hB hb0 hb1 hx7 (by omega) (by omega) rfl (fun h => absurd rfl h) ⟨_, _, _, rfl, hk _ rfl⟩
