/-! ===== what the reference learns: lawful moves, snow, scales, alone ===== -/
theorem mL_c {F F0 : FI} (h97 : F 97 13 = F0 97 13) (h1 : F 106 = F0 106) (h2 : F 107 = F0 107) (h3 : F 102 = F0 102) (h4 : F 103 = F0 103) : mL F = mL F0 := by
  unfold mL c_I
  rw [h97, h1, h2, h3, h4]
theorem mL_o {F F0 : FI} (hF : ∀ a, a ≠ 110 → a ≠ 111 → F a = F0 a) : mL F = mL F0 :=
  mL_c (by rw [hF 97 (by decide) (by decide)]) (hF _ (by decide) (by decide)) (hF _ (by decide) (by decide)) (hF _ (by decide) (by decide)) (hF _ (by decide) (by decide))
theorem or_hi {x w : Int} (h0 : 0 ≤ w) (h1 : w < 24) (h2 : 0 ≤ x) (h3 : x < 2 ^ (w + 1).toNat) : orr x (shl 2 w) = x + 2 ^ (w + 1).toNat := by
  obtain ⟨n, rfl⟩ := Int.eq_ofNat_of_zero_le h2
  obtain ⟨k, rfl⟩ := Int.eq_ofNat_of_zero_le h0
  have e : ((k : Int) + 1).toNat = k + 1 := by omega
  rw [e] at h3 ⊢
  have h4 : n < 2 ^ (k + 1) := by exact_mod_cast h3
  have hp : 2 ^ (k + 1) ≤ 2 ^ 24 := Nat.pow_le_pow_right (by decide) (by omega)
  have h5 : 2 * 2 ^ k = 2 ^ (k + 1) := by rw [Nat.pow_succ]; omega
  have h6 : shl 2 (k : Int) = ((2 ^ (k + 1) : Nat) : Int) := by
    have := shl_n (a := 2) (k := k) (by omega) (by rw [h5]; omega)
    rw [h5] at this
    exact this
  rw [h6, orr_n (by omega) (by omega), Nat.or_comm]
  have h7 := Nat.two_pow_add_eq_or_of_lt h4 1
  rw [Nat.mul_one] at h7
  rw [← h7]
  push_cast
  omega
theorem sMk_t {f : Int → Prop} {i : Int} (h0 : 0 ≤ i) (hb : f i) : sMk f (i + 1).toNat = sMk f i.toNat + 2 ^ i.toNat := by
  obtain ⟨n, rfl⟩ := Int.eq_ofNat_of_zero_le h0
  rw [show ((n : Int) + 1).toNat = n + 1 by omega, show ((n : Int)).toNat = n by omega]
  show sMk f n + _ = _
  rw [if_pos hb]
theorem sMk_f {f : Int → Prop} {i : Int} (h0 : 0 ≤ i) (hb : ¬ f i) : sMk f (i + 1).toNat = sMk f i.toNat := by
  obtain ⟨n, rfl⟩ := Int.eq_ofNat_of_zero_le h0
  rw [show ((n : Int) + 1).toNat = n + 1 by omega, show ((n : Int)).toNat = n by omega]
  show sMk f n + _ = _
  rw [if_neg hb, Int.add_zero]
theorem sNm_8 {l : Nat → Int} {k h p n to sn : Int} {g : Int → Int} (h0 : g 0 = h) (h1 : g 1 = l 3 - h) (h2 : g 2 = n) (h3 : g 3 = if l (7 + p).toNat = 1 then 1 else 0) (h4 : g 4 = k) (h5 : g 5 = p) (h6 : g 6 = to) (h7 : g 7 = sn) :
    ∀ j, 0 ≤ j → j ≤ 7 → g j = sNm l k h p n to sn j := by
  intro j a b
  have c : j = 0 ∨ j = 1 ∨ j = 2 ∨ j = 3 ∨ j = 4 ∨ j = 5 ∨ j = 6 ∨ j = 7 := by omega
  rcases c with e | e | e | e | e | e | e | e <;> subst e
  · exact h0
  · exact h1
  · exact h2
  · exact h3
  · exact h4
  · exact h5
  · exact h6
  · exact h7
theorem l_128_101 {Q : Rs → Mm → Prop} {x2 x3 x5 x6 kp n : Int} {S : FS} {F F0 : FI} {G : FJ} (hv : LV (F0 100)) (hw : LW (mL F0)) (h2 : 0 ≤ x2) (h2' : x2 < F0 100 3) (h3 : 0 ≤ x3) (h3' : x3 < F0 100 0) (h6 : 0 ≤ x6) (h6' : x6 ≤ F0 100 1) (hF : ∀ a, a ≠ 110 → a ≠ 111 → F a = F0 a)
    (m0 : F 111 0 = x2) (m1 : F 111 1 = F0 100 3 - x2) (m2 : F 111 2 = n) (m3 : F 111 3 = if F0 100 (7 + x3).toNat = 1 then 1 else 0) (m4 : F 111 4 = kp) (m5 : F 111 5 = x3)
    (e5 : x5 = sMk (sLf (F0 100) (mL F0) (F0 97 32) kp x2 x3 n) (x6 + 1).toNat) (hk : ∀ F', (∀ a, a ≠ 110 → a ≠ 111 → F' a = F0 a) → Q (.inl (some (.inl (sRaw (F0 100) (mL F0) (F0 97 32) kp x2 x3 n)))) (mm S F' G)) :
    wph 2 128 101 [.inr (.inr (.inl 97)), jk, .inl x2, .inl x3, jk, .inl x5, .inl x6] [] (mm S F G) (0, 0) Q := by
  obtain ⟨⟨hv1, hv2⟩, ⟨hv3, hv4⟩, ⟨hv5, hv6⟩, ⟨hv7, hv8⟩, ⟨hv9, hv10⟩, ⟨hv11, hv12⟩, ⟨hv13, hv14⟩, hvw, hvs, hvk, hvc, hvx⟩ := id hv
  have e100 := hF 100 (by decide) (by decide)
  refine sg_128_101 ?_
  rw [e100]
  refine cn_i (fun h => ?_) (fun h => ?_)
  · have sk : ¬ sLf (F0 100) (mL F0) (F0 97 32) kp x2 x3 n (x6 + 1) → ∀ F', (∀ a, a ≠ 110 → a ≠ 111 → F' a = F0 a) → (∀ j : Nat, j < 6 → F' 111 j = F 111 j) → wph 2 128 101 [.inr (.inr (.inl 97)), jk, .inl x2, .inl x3, jk, .inl x5, .inl (x6 + 1)] [] (mm S F' G) (0, 0) Q := by
      intro hn F' hF' hj
      exact l_128_101 hv hw h2 h2' h3 h3' (by omega) (by omega) hF' ((hj 0 (by decide)).trans m0) ((hj 1 (by decide)).trans m1) ((hj 2 (by decide)).trans m2) ((hj 3 (by decide)).trans m3) ((hj 4 (by decide)).trans m4) ((hj 5 (by decide)).trans m5) (by rw [sMk_f (by omega) hn]; exact e5) hk
    try simp (disch := omega) only [wr_id]
    refine c_126 (by omega) (by omega) (fun v1 e1 => ?_)
    rw [e100] at e1
    refine cn_i (fun g => ?_) (fun g => ?_)
    · refine sk (fun q => ?_) F hF (fun _ _ => rfl)
      unfold sLf at q
      rw [if_neg (by omega), show x6 + 1 - 1 = x6 by omega] at q
      rw [g] at e1
      rw [← e1] at q
      exact absurd q.1 (by decide)
    · have at1 : sAt (F0 100) x6 x3 = 1 := by
        rw [e1] at g
        unfold sAt at g ⊢
        split at g
        · rename_i c; rw [if_pos c]
        · exact absurd rfl g
      refine c_125 (by omega) (by omega) (fun v2 e2 => ?_)
      rw [e100] at e2
      refine ck_i (by (first | exact jb_i (by (first | assumption | omega | (simp (disch := omega) only [wr_id]; omega))) (by (first | assumption | omega | (simp (disch := omega) only [wr_id]; omega))) | exact jo_i (by omega) | exact jz_i (by omega) | rfl | (simp only [*]; first | rfl | exact jb_i (by (first | assumption | omega | (simp (disch := omega) only [wr_id]; omega))) (by (first | assumption | omega | (simp (disch := omega) only [wr_id]; omega)))))) ?_
      rw [e100]
      have hF1 : ∀ a, a ≠ 110 → a ≠ 111 → (u2 (u2 F 111 6 v2) 111 7 (F0 100 (132 + 24 * x6 + x2).toNat)) a = F0 a := fun a a1 a2 => by rw [u2_o a2, u2_o a2]; exact hF a a1 a2
      have hml := mL_o hF1
      refine c_127 (by rw [hml]; exact hw) (fun v3 F' e3 hF' => ?_)
      have hF2 : ∀ a, a ≠ 110 → a ≠ 111 → F' a = F0 a := fun a a1 a2 => (hF' a a1).trans (hF1 a a1 a2)
      have hj : ∀ j : Nat, j < 6 → F' 111 j = F 111 j := fun j hj => by
        rw [hF' 111 (by decide), u2_n (by omega), u2_n (by omega)]
      rw [hml, show (u2 (u2 F 111 6 v2) 111 7 (F0 100 (132 + 24 * x6 + x2).toNat)) 97 32 = F0 97 32 by rw [hF1 97 (by decide) (by decide)]] at e3
      have e3' : v3 = sHo (mL F0) (sNm (F0 100) kp x2 x3 n (sOth (F0 100) x6 x3) (sSn (F0 100) x6 x2)) 1 (F0 97 32) := by
        rw [e3]
        refine sHo_c hw (sNm_8 ?_ ?_ ?_ ?_ ?_ ?_ ?_ ?_)
        · show u2 _ 111 7 _ 111 0 = _
          rw [u2_n (by decide), u2_n (by decide)]; exact m0
        · show u2 _ 111 7 _ 111 1 = _
          rw [u2_n (by decide), u2_n (by decide)]; exact m1
        · show u2 _ 111 7 _ 111 2 = _
          rw [u2_n (by decide), u2_n (by decide)]; exact m2
        · show u2 _ 111 7 _ 111 3 = _
          rw [u2_n (by decide), u2_n (by decide)]; exact m3
        · show u2 _ 111 7 _ 111 4 = _
          rw [u2_n (by decide), u2_n (by decide)]; exact m4
        · show u2 _ 111 7 _ 111 5 = _
          rw [u2_n (by decide), u2_n (by decide)]; exact m5
        · show u2 _ 111 7 _ 111 6 = _
          rw [u2_n (by decide), u2_s]; exact e2
        · show u2 _ 111 7 _ 111 7 = _
          rw [u2_s]; rfl
      have lf : sLf (F0 100) (mL F0) (F0 97 32) kp x2 x3 n (x6 + 1) ↔ v3 = 1 := by
        unfold sLf
        rw [if_neg (by omega), show x6 + 1 - 1 = x6 by omega, e3']
        exact ⟨fun q => q.2, fun q => ⟨at1, q⟩⟩
      have h01 := sHo_01 (mL F0) (sNm (F0 100) kp x2 x3 n (sOth (F0 100) x6 x3) (sSn (F0 100) x6 x2)) 1 (F0 97 32)
      rw [← e3'] at h01
      refine cn_i (fun z => ?_) (fun z => ?_)
      · exact sk (fun q => by rw [lf] at q; omega) F' hF2 hj
      · have mb := sMk_b (sLf (F0 100) (mL F0) (F0 97 32) kp x2 x3 n) (x6 + 1).toNat
        rw [← e5] at mb
        rw [or_hi h6 (by omega) mb.1 mb.2]
        exact l_128_101 hv hw h2 h2' h3 h3' (by omega) (by omega) hF2 ((hj 0 (by decide)).trans m0) ((hj 1 (by decide)).trans m1) ((hj 2 (by decide)).trans m2) ((hj 3 (by decide)).trans m3) ((hj 4 (by decide)).trans m4) ((hj 5 (by decide)).trans m5) (by rw [sMk_t (by omega) (lf.mpr (by omega)), e5]) hk
  · have : x6 = F0 100 1 := by omega
    have := hk F hF
    unfold sRaw at this
    rw [e5, show x6 = F0 100 1 by omega]
    exact this
termination_by (F0 100 1 - x6).toNat
decreasing_by all_goals omega
theorem c_128 {k : Int → FS → FI → FJ → Prop} {x1 x2 x3 x4 : Int} {S : FS} {F : FI} {G : FJ} (hv : LV (F 100)) (hw : LW (mL F)) (h2 : 0 ≤ x2) (h2' : x2 < F 100 3) (h3 : 0 ≤ x3) (h3' : x3 < F 100 0)
    (hk : ∀ v F', v = sRaw (F 100) (mL F) (F 97 32) x1 x2 x3 x4 → (∀ a, a ≠ 110 → a ≠ 111 → F' a = F a) → k v S F' G) : calI 2 128 [.inr (.inr (.inl 97)), .inl x1, .inl x2, .inl x3, .inl x4] (mm S F G) k nof := by
  obtain ⟨⟨hv1, hv2⟩, ⟨hv3, hv4⟩, ⟨hv5, hv6⟩, ⟨hv7, hv8⟩, ⟨hv9, hv10⟩, ⟨hv11, hv12⟩, ⟨hv13, hv14⟩, hvw, hvs, hvk, hvc, hvx⟩ := id hv
  refine sg_128_0 ?_
  try simp (disch := omega) only [wr_id]
  have go : ∀ hut : Int, (hut = if F 100 (7 + x3).toNat = 1 then 1 else 0) → calI 1 127 [.inr (.inr (.inl 97)), .inl 0] (mm S (u2 (u2 (u2 (u2 (u2 (u2 (u2 (u2 F 111 0 x2) 111 1 (F 100 3 - x2)) 111 2 x4) 111 3 hut) 111 4 x1) 111 5 x3) 111 6 x3) 111 7 0) G)
      (fun v1 S1 F1 G1 => cnd (decide (v1 = 0)) (wph 2 128 101 [.inr (.inr (.inl 97)), jk, .inl x2, .inl x3, jk, .inl 0, .inl 0] [] (mm S1 F1 G1) (0, 0) (fun o M' => ∃ S F G, M' = mm S F G ∧ match o with
        | .inl (some (.inl x)) => k x S F G
        | .inr e => nof e S F G
        | _ => False)) (wph 2 128 101 [.inr (.inr (.inl 97)), jk, .inl x2, .inl x3, jk, .inl 1, .inl 0] [] (mm S1 F1 G1) (0, 0) (fun o M' => ∃ S F G, M' = mm S F G ∧ match o with
        | .inl (some (.inl x)) => k x S F G
        | .inr e => nof e S F G
        | _ => False))) nof := by
    intro hut ehut
    have hF1 : ∀ a, a ≠ 111 → (u2 (u2 (u2 (u2 (u2 (u2 (u2 (u2 F 111 0 x2) 111 1 (F 100 3 - x2)) 111 2 x4) 111 3 hut) 111 4 x1) 111 5 x3) 111 6 x3) 111 7 0) a = F a := fun a a2 => by simp only [u2_o a2]
    have hml := mL_o (F := u2 (u2 (u2 (u2 (u2 (u2 (u2 (u2 F 111 0 x2) 111 1 (F 100 3 - x2)) 111 2 x4) 111 3 hut) 111 4 x1) 111 5 x3) 111 6 x3) 111 7 0) (fun a _ a2 => hF1 a a2)
    refine c_127 (by rw [hml]; exact hw) (fun v1 F' e1 hF' => ?_)
    rw [hml, hF1 97 (by decide)] at e1
    have e1' : v1 = sHo (mL F) (sNm (F 100) x1 x2 x3 x4 x3 0) 0 (F 97 32) := by
      rw [e1]
      refine sHo_c hw (sNm_8 ?_ ?_ ?_ ?_ ?_ ?_ ?_ ?_) <;> simp [c_I, u2_k, ehut]
    have lf : sLf (F 100) (mL F) (F 97 32) x1 x2 x3 x4 0 ↔ v1 = 1 := by
      unfold sLf
      rw [if_pos rfl, e1']
    have h01 := sHo_01 (mL F) (sNm (F 100) x1 x2 x3 x4 x3 0) 0 (F 97 32)
    rw [← e1'] at h01
    have nxt : ∀ b : Int, b = (if v1 = 0 then 0 else 1) → wph 2 128 101 [.inr (.inr (.inl 97)), jk, .inl x2, .inl x3, jk, .inl b, .inl 0] [] (mm S F' G) (0, 0) (fun o M' => ∃ S F G, M' = mm S F G ∧ match o with
        | .inl (some (.inl x)) => k x S F G
        | .inr e => nof e S F G
        | _ => False) := by
      intro b eb
      refine l_128_101 (F0 := F) (kp := x1) (n := x4) hv hw h2 h2' h3 h3' (by omega) (by omega) (fun a a1 a2 => (hF' a a1).trans (hF1 a a2)) ?_ ?_ ?_ ?_ ?_ ?_ ?_ (fun F2 hF2 => ⟨_, _, _, rfl, hk _ _ rfl hF2⟩)
      · rw [hF' 111 (by decide)]; simp [u2_k]
      · rw [hF' 111 (by decide)]; simp [u2_k]
      · rw [hF' 111 (by decide)]; simp [u2_k]
      · rw [hF' 111 (by decide)]; simp [u2_k, ehut]
      · rw [hF' 111 (by decide)]; simp [u2_k]
      · rw [hF' 111 (by decide)]; simp [u2_k]
      · by_cases z : v1 = 0
        · rw [if_pos z] at eb
          rw [sMk_f (by omega) (fun q => by rw [lf] at q; omega), eb]
          rfl
        · rw [if_neg z] at eb
          rw [sMk_t (by omega) (lf.mpr (by omega)), eb]
          rfl
    refine cn_i (fun z => ?_) (fun z => ?_)
    · exact nxt 0 (if_pos z).symm
    · exact nxt 1 (if_neg z).symm
  refine ck_i (by (first | exact jb_i (by (first | assumption | omega | (simp (disch := omega) only [wr_id]; omega))) (by (first | assumption | omega | (simp (disch := omega) only [wr_id]; omega))) | exact jo_i (by omega) | exact jz_i (by omega) | rfl | (simp only [*]; first | rfl | exact jb_i (by (first | assumption | omega | (simp (disch := omega) only [wr_id]; omega))) (by (first | assumption | omega | (simp (disch := omega) only [wr_id]; omega)))))) (cn_i (fun g => ?_) (fun g => ?_))
  · exact go 1 (if_pos g).symm
  · exact go 0 (if_neg g).symm
