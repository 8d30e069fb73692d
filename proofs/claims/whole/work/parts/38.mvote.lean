/-! ===== the reference's votes, and its choice ===== -/
theorem bst_1 {f : Int → Int} {b : Int} {n : Nat} : bst (fun m => (if (0 : Int) = 0 then 1 else -1) * f m) b n = bst f b n := by
  refine bst_c (fun m _ _ _ => ?_)
  rw [if_pos rfl, Int.one_mul]
theorem bit_all {m : Int} (h0 : 0 ≤ m) (h1 : m < 25) : bit 33554431 m := by
  have h3 : m = 0 ∨ m = 1 ∨ m = 2 ∨ m = 3 ∨ m = 4 ∨ m = 5 ∨ m = 6 ∨ m = 7 ∨ m = 8 ∨ m = 9 ∨ m = 10 ∨ m = 11 ∨ m = 12 ∨ m = 13 ∨ m = 14 ∨ m = 15 ∨ m = 16 ∨ m = 17 ∨ m = 18 ∨ m = 19 ∨ m = 20 ∨ m = 21 ∨ m = 22 ∨ m = 23 ∨ m = 24 := by omega
  rcases h3 with e | e | e | e | e | e | e | e | e | e | e | e | e | e | e | e | e | e | e | e | e | e | e | e | e <;> subst e <;> (unfold bit; decide)
theorem sVt_b (b : Int → Int) (m : Int) : ∀ k : Nat, 0 ≤ sVt b m k ∧ sVt b m k ≤ k := by
  intro k
  induction k with
  | zero => exact ⟨Int.le_refl _, Int.le_refl _⟩
  | succ n ih =>
    unfold sVt
    split <;> omega
theorem sVt_s {b : Int → Int} {m i : Int} (h0 : 0 ≤ i) : sVt b m (i + 1).toNat = sVt b m i.toNat + if b i = m then 1 else 0 := by
  obtain ⟨n, rfl⟩ := Int.eq_ofNat_of_zero_le h0
  rw [show ((n : Int) + 1).toNat = n + 1 by omega, show ((n : Int)).toNat = n by omega]
  rfl
theorem sVt_c {b w : Int → Int} {m : Int} : ∀ {n : Nat}, (∀ k : Int, 0 ≤ k → k < n → b k = w k) → sVt b m n = sVt w m n := by
  intro n
  induction n with
  | zero => intro _; rfl
  | succ k ih =>
    intro h
    unfold sVt
    rw [ih (fun k a b => h k a (by omega)), h k (by omega) (by omega)]
theorem l_139_3 {Q : Rs → Mm → Prop} {x1 x2 x3 x4 x5 : Int} {S : FS} {F F0 : FI} {G : FJ} (hv : LV (F0 100)) (h5 : 0 ≤ x5) (h5' : x5 ≤ F0 100 1 + 1) (hF : ∀ a, a ≠ 123 → F a = F0 a) (hz : ∀ m, 0 ≤ m → m < x5 → F 123 m.toNat = 0)
    (hk : ∀ F', (∀ a, a ≠ 123 → F' a = F0 a) → (∀ m, 0 ≤ m → m ≤ F0 100 1 → F' 123 m.toNat = 0) → wph 4 139 31 [.inr (.inr (.inl 97)), .inl x1, .inl x2, .inl x3, .inl x4, .inl 0] [] (mm S F' G) (0, 0) Q) :
    wph 4 139 3 [.inr (.inr (.inl 97)), .inl x1, .inl x2, .inl x3, .inl x4, .inl x5] [] (mm S F G) (0, 0) Q := by
  obtain ⟨⟨hv1, hv2⟩, ⟨hv3, hv4⟩, ⟨hv5, hv6⟩, ⟨hv7, hv8⟩, ⟨hv9, hv10⟩, ⟨hv11, hv12⟩, ⟨hv13, hv14⟩, hvw, hvs, hvk, hvc, hvx⟩ := id hv
  refine sg_139_3 ?_
  rw [hF 100 (by decide)]
  refine cn_i (fun h => ?_) (fun h => ?_)
  · exact hk F hF (fun m a b => hz m a (by omega))
  · try simp (disch := omega) only [wr_id]
    refine ck_i (by (first | exact jb_i (by (first | assumption | omega | (simp (disch := omega) only [wr_id]; omega))) (by (first | assumption | omega | (simp (disch := omega) only [wr_id]; omega))) | exact jo_i (by omega) | exact jz_i (by omega) | rfl | (simp only [*]; first | rfl | exact jb_i (by (first | assumption | omega | (simp (disch := omega) only [wr_id]; omega))) (by (first | assumption | omega | (simp (disch := omega) only [wr_id]; omega)))))) ?_
    exact l_139_3 hv (by omega) (by omega) (off_uI hF) (fun m a b => by
      rw [u2_k]
      split
      · rfl
      · exact hz m a (by omega)) hk
termination_by (F0 100 1 + 1 - x5).toNat
decreasing_by omega
/-- what each person would take -/
noncomputable def sBk (l : Nat → Int) (st bits h p n : Int) (g : Nat → Int) : Int → Int := fun k => bst (fun m => sBr l st h p n m (sF g (k * 3900) h)) bits (l 1 + 1).toNat
theorem l_139_31 {Q : Rs → Mm → Prop} {x1 x2 x3 x4 x5 : Int} {S : FS} {F F0 : FI} {G : FJ} (hv : LV (F0 100)) (h2 : 0 ≤ x2) (h3 : x2 < F0 100 3) (h4 : 0 ≤ x3) (h5 : x3 < F0 100 0) (h6 : 1 ≤ x4) (h7 : x4 ≤ F0 97 31) (h8 : F0 97 31 ≤ 12)
    (hs : ∀ h, 0 ≤ h → h < F0 100 3 → F0 122 h.toNat = sSy (F0 100) h) (hB : ∀ i, B5 (G 119 i)) (hb0 : 0 ≤ x1) (hb1 : x1 < 2147483648) (hbt : ∃ m, 0 ≤ m ∧ m ≤ F0 100 1 ∧ bit x1 m)
    (hi : 0 ≤ x5) (hi' : x5 ≤ F0 100 2) (hF : ∀ a, a ≠ 123 → F a = F0 a) (hz : ∀ m, 0 ≤ m → m ≤ F0 100 1 → F 123 m.toNat = sVt (sBk (F0 100) (F0 97 31) x1 x2 x3 x4 (G 119)) m x5.toNat)
    (hk : ∀ F', (∀ a, a ≠ 123 → F' a = F0 a) → (∀ m, 0 ≤ m → m ≤ F0 100 1 → F' 123 m.toNat = sVt (sBk (F0 100) (F0 97 31) x1 x2 x3 x4 (G 119)) m (F0 100 2).toNat) → wph 4 139 83 [.inr (.inr (.inl 97)), jk, jk, jk, jk, .inl 0, .inl 1] [] (mm S F' G) (0, 0) Q) :
    wph 4 139 31 [.inr (.inr (.inl 97)), .inl x1, .inl x2, .inl x3, .inl x4, .inl x5] [] (mm S F G) (0, 0) Q := by
  obtain ⟨⟨hv1, hv2⟩, ⟨hv3, hv4⟩, ⟨hv5, hv6⟩, ⟨hv7, hv8⟩, ⟨hv9, hv10⟩, ⟨hv11, hv12⟩, ⟨hv13, hv14⟩, hvw, hvs, hvk, hvc, hvx⟩ := id hv
  have e100 := hF 100 (by decide)
  have e97 := hF 97 (by decide)
  have e122 := hF 122 (by decide)
  refine sg_139_31 ?_
  rw [e100]
  refine cn_i (fun h => ?_) (fun h => ?_)
  · try simp (disch := omega) only [wr_id]
    refine c_134 (by rw [e100]; exact hv) rfl rfl (by omega) (by omega) (by omega) (by rw [e100]; omega) (by omega) (by rw [e100]; omega) (by omega) (by rw [e97]; omega) (by rw [e97]; omega) hb0 hb1 (Or.inl rfl) (by rw [e100, e122]; exact hs) hB (fun v e => ?_)
    rw [e100, e97, bst_1] at e
    have bi := bst_in (v := fun m => sBr (F0 100) (F0 97 31) x2 x3 x4 m (sF (G 119) (x5 * 3900) x2)) hv3 hbt
    rw [← e] at bi
    have hb := hz v bi.1 bi.2.1
    have hvb := sVt_b (sBk (F0 100) (F0 97 31) x1 x2 x3 x4 (G 119)) v x5.toNat
    refine ck_i (by (first | exact jb_i (by (first | assumption | omega | (simp (disch := omega) only [wr_id]; omega))) (by (first | assumption | omega | (simp (disch := omega) only [wr_id]; omega))) | exact jo_i (by omega) | exact jz_i (by omega) | rfl | (simp only [*]; first | rfl | exact jb_i (by (first | assumption | omega | (simp (disch := omega) only [wr_id]; omega))) (by (first | assumption | omega | (simp (disch := omega) only [wr_id]; omega)))))) (ck_i (by (first | exact jb_i (by (first | assumption | omega | (simp (disch := omega) only [wr_id]; omega))) (by (first | assumption | omega | (simp (disch := omega) only [wr_id]; omega))) | exact jo_i (by omega) | exact jz_i (by omega) | rfl | (simp only [*]; first | rfl | exact jb_i (by (first | assumption | omega | (simp (disch := omega) only [wr_id]; omega))) (by (first | assumption | omega | (simp (disch := omega) only [wr_id]; omega)))))) ?_)
    refine l_139_31 hv h2 h3 h4 h5 h6 h7 h8 hs hB hb0 hb1 hbt (by omega) (by omega) (off_uI hF) (fun m a b => ?_) hk
    rw [u2_k, sVt_s hi]
    by_cases c : m = v
    · rw [if_pos (by rw [c]), if_pos (by rw [c]; exact e.symm), hb, c]
      exact wr_id (by omega) (by omega)
    · rw [if_neg (by omega), if_neg (by intro q; exact c (q.symm.trans e.symm)), hz m a b, Int.add_zero]
  · refine hk F hF (fun m a b => ?_)
    rw [hz m a b, show x5 = F0 100 2 by omega]
termination_by (F0 100 2 - x5).toNat
decreasing_by omega
theorem l_139_83 {Q : Rs → Mm → Prop} {V : Int → Int} {x5 x6 : Int} {S : FS} {F : FI} {G : FJ} (hv : LV (F 100)) (h6 : 1 ≤ x6) (h6' : x6 ≤ F 100 1 + 1) (hV : ∀ m, 0 ≤ m → m ≤ F 100 1 → F 123 m.toNat = V m) (e5 : x5 = bst V 33554431 x6.toNat)
    (hq : Q (.inl (some (.inl (bst V 33554431 (F 100 1 + 1).toNat)))) (mm S F G)) : wph 4 139 83 [.inr (.inr (.inl 97)), jk, jk, jk, jk, .inl x5, .inl x6] [] (mm S F G) (0, 0) Q := by
  obtain ⟨⟨hv1, hv2⟩, ⟨hv3, hv4⟩, ⟨hv5, hv6⟩, ⟨hv7, hv8⟩, ⟨hv9, hv10⟩, ⟨hv11, hv12⟩, ⟨hv13, hv14⟩, hvw, hvs, hvk, hvc, hvx⟩ := id hv
  have hr := bst_r V 33554431 x6.toNat
  have hn := bst_ne (v := V) (n := x6.toNat) (m := 0) (by omega) (by omega) (bit_all (by omega) (by omega))
  rw [← e5] at hr hn
  refine sg_139_83 ?_
  refine cn_i (fun h => ?_) (fun h => ?_)
  · have : x6 = F 100 1 + 1 := by omega
    rw [e5, this]
    exact hq
  · have ht := bst_t (v := V) (i := x6) (by omega) (bit_all (by omega) (by omega))
    rw [← e5, ← hV x5 (by omega) (by omega), ← hV x6 (by omega) (by omega)] at ht
    try simp (disch := omega) only [wr_id]
    refine ck_i (by (first | exact jb_i (by (first | assumption | omega | (simp (disch := omega) only [wr_id]; omega))) (by (first | assumption | omega | (simp (disch := omega) only [wr_id]; omega))) | exact jo_i (by omega) | exact jz_i (by omega) | rfl | (simp only [*]; first | rfl | exact jb_i (by (first | assumption | omega | (simp (disch := omega) only [wr_id]; omega))) (by (first | assumption | omega | (simp (disch := omega) only [wr_id]; omega)))))) (ck_i (by (first | exact jb_i (by (first | assumption | omega | (simp (disch := omega) only [wr_id]; omega))) (by (first | assumption | omega | (simp (disch := omega) only [wr_id]; omega))) | exact jo_i (by omega) | exact jz_i (by omega) | rfl | (simp only [*]; first | rfl | exact jb_i (by (first | assumption | omega | (simp (disch := omega) only [wr_id]; omega))) (by (first | assumption | omega | (simp (disch := omega) only [wr_id]; omega)))))) (cn_i (fun g => ?_) (fun g => ?_)))
    · exact l_139_83 hv (by omega) (by omega) hV (by rw [ht, if_pos (Or.inr g)]) hq
    · exact l_139_83 hv (by omega) (by omega) hV (by rw [ht, if_neg (by omega)]) hq
termination_by (F 100 1 + 1 - x6).toNat
decreasing_by all_goals omega
theorem c_139 {k : Int → FS → FI → FJ → Prop} {x1 x2 x3 x4 : Int} {S : FS} {F : FI} {G : FJ} (hv : LV (F 100)) (h2 : 0 ≤ x2) (h3 : x2 < F 100 3) (h4 : 0 ≤ x3) (h5 : x3 < F 100 0) (h6 : 1 ≤ x4) (h7 : x4 ≤ F 97 31) (h8 : F 97 31 ≤ 12)
    (hs : ∀ h, 0 ≤ h → h < F 100 3 → F 122 h.toNat = sSy (F 100) h) (hB : ∀ i, B5 (G 119 i)) (hb0 : 0 ≤ x1) (hb1 : x1 < 2147483648) (hbt : ∃ m, 0 ≤ m ∧ m ≤ F 100 1 ∧ bit x1 m)
    (hk : ∀ v F', v = bst (fun m => sVt (sBk (F 100) (F 97 31) x1 x2 x3 x4 (G 119)) m (F 100 2).toNat) 33554431 (F 100 1 + 1).toNat → (∀ a, a ≠ 123 → F' a = F a) → k v S F' G) :
    calI 4 139 [.inr (.inr (.inl 97)), .inl x1, .inl x2, .inl x3, .inl x4] (mm S F G) k nof := by
  obtain ⟨⟨hv1, hv2⟩, ⟨hv3, hv4⟩, ⟨hv5, hv6⟩, ⟨hv7, hv8⟩, ⟨hv9, hv10⟩, ⟨hv11, hv12⟩, ⟨hv13, hv14⟩, hvw, hvs, hvk, hvc, hvx⟩ := id hv
  refine sg_139_0 ?_
  refine l_139_3 hv (by omega) (by omega) (fun _ _ => rfl) (fun m a b => by omega) (fun F1 hF1 hz => ?_)
  refine l_139_31 hv h2 h3 h4 h5 h6 h7 h8 hs hB hb0 hb1 hbt (by omega) (by omega) hF1 (fun m a b => by rw [hz m a b]; rfl) (fun F2 hF2 hz2 => ?_)
  have e100 := hF2 100 (by decide)
  refine l_139_83 (by rw [e100]; exact hv) (by omega) (by rw [e100]; omega) (by rw [e100]; exact hz2) ?_ ?_
  · have := bit_all (m := 0) (by omega) (by omega)
    rw [show (1 : Int).toNat = 0 + 1 by rfl]
    exact (if_pos this).symm
  · rw [e100]
    exact ⟨_, _, _, rfl, hk _ _ rfl hF2⟩
/-- how the reference is told what is tried -/
def mC (F : FI) (mk : Int → Int → Int → Int → Int) : Cf := (fun h => F 114 h.toNat, fun k => F 115 k.toNat, fun h => F 112 (5 + h).toNat, mk, F 97 33, F 97 34, F 97 35)
theorem c_141 {k : Int → FS → FI → FJ → Prop} {mk : Int → Int → Int → Int → Int} {x1 x2 x3 x4 x5 : Int} {S : FS} {F : FI} {G : FJ} (hv : LV (F 100)) (h2 : 0 ≤ x3) (h3 : x3 < F 100 3) (h4 : 0 ≤ x4) (h5 : x4 < F 100 0) (h6 : 1 ≤ x5) (h7 : x5 ≤ F 97 31) (h8 : F 97 31 ≤ 12)
    (hs : ∀ h, 0 ≤ h → h < F 100 3 → F 122 h.toNat = sSy (F 100) h) (hB : ∀ i, B5 (G 119 i)) (hB2 : ∀ i, B5 (G 120 i)) (hB3 : ∀ i, B5 (G 121 i)) (hb0 : 0 ≤ x2) (hb1 : x2 < 2147483648) (hbt : ∃ m, 0 ≤ m ∧ m ≤ F 100 1 ∧ bit x2 m)
    (hl : x1 = F 114 x3.toNat) (hl0 : 0 ≤ x1) (hl1 : x1 < F 100 2) (hvt : F 97 35 = 0 ∨ F 97 35 = 1) (hpp : F 97 33 = -1 → F 97 34 = -1) (hpl : 0 ≤ F 112 (5 + x3).toNat ∧ F 112 (5 + x3).toNat < 32)
    (hk : ∀ v F', v = sPick (F 100) (mC F mk) (F 97 31) x3 x4 x5 x2 (fun k => sF (G 119) (k * 3900) x3) (fun k => sF (G 120) (k * 3900) x3) (fun k => sF (G 121) (k * 3900) x3) → (∀ a, a ≠ 123 → F' a = F a) → k v S F' G) :
    calI 5 141 [.inr (.inr (.inl 97)), .inl x1, .inl x2, .inl x3, .inl x4, .inl x5] (mm S F G) k nof := by
  obtain ⟨⟨hv1, hv2⟩, ⟨hv3, hv4⟩, ⟨hv5, hv6⟩, ⟨hv7, hv8⟩, ⟨hv9, hv10⟩, ⟨hv11, hv12⟩, ⟨hv13, hv14⟩, hvw, hvs, hvk, hvc, hvx⟩ := id hv
  have hl' : (mC F mk).1 x3 = x1 := hl.symm
  have hv' : (mC F mk).2.2.2.2.2.2 = F 97 35 := rfl
  have hp1 : (mC F mk).2.2.2.2.1 = F 97 33 := rfl
  have hp2 : (mC F mk).2.2.2.2.2.1 = F 97 34 := rfl
  have hkd : (mC F mk).2.1 x1 = F 115 x1.toNat := rfl
  have hpn : (mC F mk).2.2.1 x3 = F 112 (5 + x3).toNat := rfl
  obtain ⟨bm, bm0, bm1, bm2⟩ := id hbt
  refine sg_141_0 ?_
  try simp (disch := omega) only [wr_id]
  refine cn_i (fun v0 => ?_) (fun v0 => ?_)
  · have pact : (x1 = F 97 33 ∨ x1 = F 97 34) → calI 4 138 [.inr (.inr (.inl 97)), .inl (F 97 33), .inl (F 97 34), .inl x2, .inl x3, .inl x4, .inl x5] (mm S F G) (fun v1 S1 F1 G1 => ∃ S F G, mm S1 F1 G1 = mm S F G ∧ k v1 S F G) nof := by
      intro hor
      refine c_138 hv h2 h3 h4 h5 h6 h7 h8 hb0 hb1 hs hB (fun v e => ⟨_, _, _, rfl, hk _ _ ?_ (fun _ _ => rfl)⟩)
      rw [e]
      unfold sPick
      rw [hv', hl', hp1, hp2, if_neg (by omega), if_pos hor]
      refine bst_c (fun m _ _ _ => sSum_c (fun k a b => ⟨?_, rfl⟩))
      unfold sC
      constructor
      · intro q
        rcases q with q | q
        · omega
        · exact q
      · exact fun q => Or.inr q
    refine cn_i (fun p1 => ?_) (fun p1 => cn_i (fun p2 => ?_) (fun p2 => ?_))
    · exact pact (Or.inl p1)
    · exact pact (Or.inr p2)
    · refine ck_i (by (first | exact jb_i (by (first | assumption | omega | (simp (disch := omega) only [wr_id]; omega))) (by (first | assumption | omega | (simp (disch := omega) only [wr_id]; omega))) | exact jo_i (by omega) | exact jz_i (by omega) | rfl | (simp only [*]; first | rfl | exact jb_i (by (first | assumption | omega | (simp (disch := omega) only [wr_id]; omega))) (by (first | assumption | omega | (simp (disch := omega) only [wr_id]; omega)))))) ?_
      have b0 : ∀ r, (kk r).1 = 2 → (kk r).2 = 19500 → (∀ i, B5 (G r i)) → (bst (fun m => sBr (F 100) (F 97 31) x3 x4 x5 m (sF (G r) (x1 * 3900) x3)) x2 (F 100 1 + 1).toNat = sPick (F 100) (mC F mk) (F 97 31) x3 x4 x5 x2 (fun k => sF (G 119) (k * 3900) x3) (fun k => sF (G 120) (k * 3900) x3) (fun k => sF (G 121) (k * 3900) x3)) →
          calI 3 134 [.inr (.inr (.inl 97)), .inr (.inr (.inl r)), .inl (x1 * 3900), .inl x2, .inl x3, .inl x4, .inl x5, .inl 0] (mm S F G) (fun v1 S1 F1 G1 => ∃ S F G, mm S1 F1 G1 = mm S F G ∧ k v1 S F G) nof := by
        intro r r1 r2 hBr he
        refine c_134 hv r1 r2 (by omega) (by omega) h2 h3 h4 h5 h6 h7 h8 hb0 hb1 (Or.inl rfl) hs hBr (fun v e => ⟨_, _, _, rfl, hk _ _ ?_ (fun _ _ => rfl)⟩)
        rw [e, bst_1, he]
      obtain ⟨P, eP⟩ : ∃ P, P = sPick (F 100) (mC F mk) (F 97 31) x3 x4 x5 x2 (fun k => sF (G 119) (k * 3900) x3) (fun k => sF (G 120) (k * 3900) x3) (fun k => sF (G 121) (k * 3900) x3) := ⟨_, rfl⟩
      have pk := eP
      unfold sPick at pk
      rw [hv', hl', hp1, hp2, hkd, hpn, if_neg (by omega), if_neg (fun q => q.elim p1 p2)] at pk
      have fst : bst (fun _ => 0) x2 (F 100 1 + 1).toNat = sPick (F 100) (mC F mk) (F 97 31) x3 x4 x5 x2 (fun k => sF (G 119) (k * 3900) x3) (fun k => sF (G 120) (k * 3900) x3) (fun k => sF (G 121) (k * 3900) x3) →
          calI 0 140 [.inl x2] (mm S F G) (fun v1 S1 F1 G1 => ∃ S F G, mm S1 F1 G1 = mm S F G ∧ k v1 S F G) nof := by
        intro he
        exact c_140 (n := (F 100 1 + 1).toNat) hb0 hb1 bm0 (by omega) bm2 (by omega) (fun v e => ⟨_, _, _, rfl, hk _ _ (e.trans he) (fun _ _ => rfl)⟩)
      refine cn_i (fun k0 => ?_) (fun k0 => cn_i (fun k1 => ?_) (fun k1 => cn_i (fun k2 => ?_) (fun k2 => cn_i (fun k3 => ?_) (fun k3 => cn_i (fun k4 => ?_) (fun k4 => ?_)))))
      · rw [if_pos k0] at pk
        exact b0 119 rfl rfl hB (pk.symm.trans eP)
      · rw [if_neg k0, if_pos k1] at pk
        exact b0 120 rfl rfl hB2 (pk.symm.trans eP)
      · rw [if_neg k0, if_neg k1, if_pos k2] at pk
        refine c_138 hv h2 h3 h4 h5 h6 h7 h8 hb0 hb1 hs hB (fun v e => ⟨_, _, _, rfl, hk _ _ ?_ (fun _ _ => rfl)⟩)
        rw [e, ← eP, pk]
        exact bst_c (fun m _ _ _ => sSum_c (fun k a b => ⟨⟨fun _ => trivial, fun _ => Or.inl rfl⟩, rfl⟩))
      · rw [if_neg k0, if_neg k1, if_neg k2, if_pos k3] at pk
        exact fst (pk.symm.trans eP)
      · rw [if_neg k0, if_neg k1, if_neg k2, if_neg k3, if_pos k4] at pk
        exact b0 121 rfl rfl hB3 (pk.symm.trans eP)
      · rw [if_neg k0, if_neg k1, if_neg k2, if_neg k3, if_neg k4] at pk
        refine ck_i (by (first | exact jb_i (by (first | assumption | omega | (simp (disch := omega) only [wr_id]; omega))) (by (first | assumption | omega | (simp (disch := omega) only [wr_id]; omega))) | exact jo_i (by omega) | exact jz_i (by omega) | rfl | (simp only [*]; first | rfl | exact jb_i (by (first | assumption | omega | (simp (disch := omega) only [wr_id]; omega))) (by (first | assumption | omega | (simp (disch := omega) only [wr_id]; omega)))))) (cn_i (fun z => ?_) (fun z => ?_))
        · rw [bit_o hb0 hb1 hpl.1 hpl.2] at z
          rw [if_pos z] at pk
          refine ck_i (by (first | exact jb_i (by (first | assumption | omega | (simp (disch := omega) only [wr_id]; omega))) (by (first | assumption | omega | (simp (disch := omega) only [wr_id]; omega))) | exact jo_i (by omega) | exact jz_i (by omega) | rfl | (simp only [*]; first | rfl | exact jb_i (by (first | assumption | omega | (simp (disch := omega) only [wr_id]; omega))) (by (first | assumption | omega | (simp (disch := omega) only [wr_id]; omega)))))) ?_
          exact ⟨_, _, _, rfl, hk _ _ (pk.symm.trans eP) (fun _ _ => rfl)⟩
        · rw [bit_o hb0 hb1 hpl.1 hpl.2] at z
          rw [if_neg z] at pk
          exact fst (pk.symm.trans eP)
  · refine c_139 hv h2 h3 h4 h5 h6 h7 h8 hs hB hb0 hb1 hbt (fun v F' e hF => ⟨_, _, _, rfl, hk _ _ ?_ hF⟩)
    rw [e]
    unfold sPick
    rw [hv', if_pos (by omega)]
    rfl
