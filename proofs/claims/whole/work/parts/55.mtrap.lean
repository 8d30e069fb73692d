/-! ===== lowest bits ===== -/
theorem bit_n (b i : Nat) : bit (b : Int) (i : Int) ↔ b.testBit i = true := by
  unfold bit
  rw [Nat.testBit_eq_decide_div_mod_eq, decide_eq_true_eq, show ((i : Int)).toNat = i by omega]
  constructor
  · intro h
    exact_mod_cast h
  · intro h
    exact_mod_cast h
theorem low_ex : ∀ b : Nat, 0 < b → ∃ k c, b = 2 ^ k * (2 * c + 1) := by
  intro b
  induction b using Nat.strongRecOn with
  | _ b ih =>
    intro h
    by_cases q : b % 2 = 1
    · exact ⟨0, b / 2, by rw [Nat.pow_zero]; omega⟩
    · obtain ⟨k, c, e⟩ := ih (b / 2) (by omega) (by omega)
      refine ⟨k + 1, c, ?_⟩
      rw [Nat.pow_succ, Nat.mul_comm (2 ^ k) 2, Nat.mul_assoc, ← e]
      omega
theorem land_01 (a b : Nat) : (2 * a) &&& (2 * b + 1) = 2 * (a &&& b) := by
  apply Nat.eq_of_testBit_eq
  intro i
  cases i with
  | zero => simp [Nat.testBit_and]
  | succ i =>
    rw [Nat.testBit_and, Nat.testBit_succ, Nat.testBit_succ, Nat.testBit_succ, show 2 * a / 2 = a by omega, show (2 * b + 1) / 2 = b by omega, show 2 * (a &&& b) / 2 = a &&& b by omega, Nat.testBit_and]
theorem land_11 (a b : Nat) : (2 * a + 1) &&& (2 * b + 1) = 2 * (a &&& b) + 1 := by
  apply Nat.eq_of_testBit_eq
  intro i
  cases i with
  | zero => simp [Nat.testBit_and]
  | succ i =>
    rw [Nat.testBit_and, Nat.testBit_succ, Nat.testBit_succ, Nat.testBit_succ, show (2 * a + 1) / 2 = a by omega, show (2 * b + 1) / 2 = b by omega, show (2 * (a &&& b) + 1) / 2 = a &&& b by omega, Nat.testBit_and]
theorem land_10 (a b : Nat) : (2 * a + 1) &&& (2 * b) = 2 * (a &&& b) := by rw [Nat.and_comm, land_01, Nat.and_comm]
theorem land_00 (a b : Nat) : (2 * a) &&& (2 * b) = 2 * (a &&& b) := by
  apply Nat.eq_of_testBit_eq
  intro i
  cases i with
  | zero => simp [Nat.testBit_and]
  | succ i =>
    rw [Nat.testBit_and, Nat.testBit_succ, Nat.testBit_succ, Nat.testBit_succ, show 2 * a / 2 = a by omega, show 2 * b / 2 = b by omega, show 2 * (a &&& b) / 2 = a &&& b by omega, Nat.testBit_and]
/-- less its lowest bit -/
theorem low_and (c : Nat) : ∀ k : Nat, (2 ^ k * (2 * c + 1)) &&& (2 ^ k * (2 * c + 1) - 1) = 2 ^ k * (2 * c) := by
  intro k
  induction k with
  | zero =>
    rw [Nat.pow_zero, Nat.one_mul, Nat.one_mul, show 2 * c + 1 - 1 = 2 * c by omega, land_10, Nat.and_self]
  | succ k ih =>
    have p : 0 < 2 ^ k * (2 * c + 1) := Nat.mul_pos (Nat.pow_pos (by decide)) (by omega)
    have e : 2 ^ (k + 1) * (2 * c + 1) = 2 * (2 ^ k * (2 * c + 1)) := by rw [Nat.pow_succ, Nat.mul_comm (2 ^ k) 2, Nat.mul_assoc]
    have e2 : 2 ^ (k + 1) * (2 * c) = 2 * (2 ^ k * (2 * c)) := by rw [Nat.pow_succ, Nat.mul_comm (2 ^ k) 2, Nat.mul_assoc]
    rw [e, e2, show 2 * (2 ^ k * (2 * c + 1)) - 1 = 2 * (2 ^ k * (2 * c + 1) - 1) + 1 by omega, land_01, ih]
theorem low_bit (k c i : Nat) : (2 ^ k * (2 * c + 1)).testBit i = true ↔ i = k ∨ (k < i ∧ c.testBit (i - k - 1) = true) := by
  rw [Nat.testBit_two_pow_mul]
  by_cases h : k ≤ i
  · rw [decide_eq_true h, Bool.true_and]
    by_cases e : i = k
    · rw [e, Nat.sub_self]
      simp
    · obtain ⟨j, hj⟩ : ∃ j, i - k = j + 1 := ⟨i - k - 1, by omega⟩
      rw [hj, Nat.testBit_succ, show (2 * c + 1) / 2 = c by omega, show j + 1 - 1 = j by omega]
      exact ⟨fun q => Or.inr ⟨by omega, q⟩, fun q => q.elim (fun r => absurd r e) (fun r => r.2)⟩
  · rw [decide_eq_false h, Bool.false_and]
    exact ⟨fun q => absurd q (by decide), fun q => by omega⟩
/-- one bit at most -/
def AB (b : Int) : Prop := ∀ i j, 0 ≤ i → 0 ≤ j → bit b i → bit b j → i = j
theorem AB_0 : AB 0 := by
  intro i j _ _ h
  unfold bit at h
  rw [Int.zero_ediv] at h
  exact absurd h (by decide)
theorem AB_low (k c : Nat) : AB ((2 ^ k * (2 * c + 1) : Nat) : Int) ↔ c = 0 := by
  constructor
  · intro h
    by_cases q : c = 0
    · exact q
    · obtain ⟨m, d, e⟩ := low_ex c (by omega)
      have h1 : bit ((2 ^ k * (2 * c + 1) : Nat) : Int) (k : Int) := (bit_n _ _).mpr ((low_bit k c k).mpr (Or.inl rfl))
      have h2 : bit ((2 ^ k * (2 * c + 1) : Nat) : Int) ((k + m + 1 : Nat) : Int) := (bit_n _ _).mpr ((low_bit k c _).mpr (Or.inr ⟨by omega, by
        rw [show k + m + 1 - k - 1 = m by omega, e]
        exact (low_bit m d m).mpr (Or.inl rfl)⟩))
      have := h _ _ (by omega) (by omega) h1 h2
      omega
  · intro h i j hi hj h1 h2
    obtain ⟨a, rfl⟩ := Int.eq_ofNat_of_zero_le hi
    obtain ⟨b, rfl⟩ := Int.eq_ofNat_of_zero_le hj
    rw [bit_n, low_bit, h] at h1 h2
    simp at h1 h2
    omega
theorem an_low {b : Int} (h0 : 0 ≤ b) (h1 : b < 2147483648) : an b (wr (b - 1)) = 0 ↔ AB b := by
  obtain ⟨n, rfl⟩ := Int.eq_ofNat_of_zero_le h0
  by_cases q : n = 0
  · subst q
    exact ⟨fun _ => AB_0, fun _ => by decide⟩
  · obtain ⟨k, c, e⟩ := low_ex n (by omega)
    rw [wr_id (by omega) (by omega), show ((n : Int) - 1) = ((n - 1 : Nat) : Int) by omega, an_n (by omega)]
    have hl := low_and c k
    rw [← e] at hl
    rw [hl]
    have ha := AB_low k c
    rw [← e] at ha
    rw [ha]
    have p : 0 < 2 ^ k := Nat.pow_pos (by decide)
    constructor
    · intro h
      have h' : 2 ^ k * (2 * c) = 0 := by exact_mod_cast h
      rcases Nat.mul_eq_zero.mp h' with r | r
      · omega
      · omega
    · intro h
      rw [h]
      simp
/-! ===== the reference answers: traps ===== -/
def sTrp (F : FI) (h p n : Int) : Prop := sEnd (F 100) h p n = 0 ∧ AB (mk0 F (sLd (F 100) (F 112) h) h p n)
theorem c_175 {k : Int → FS → FI → FJ → Prop} {x1 x2 x3 : Int} {S : FS} {F F1 : FI} {G G1 : FJ} (hm : MV F G) (hd : RD F F1 G G1 (cBs F)) (hw : vs (F 100) (F 100 4) x1 x2 x3) (h1 : sTrp F x1 x2 x3 → k 1 S F1 G1) (h0 : ¬ sTrp F x1 x2 x3 → k 0 S F1 G1) :
    calI 1 175 [.inr (.inr (.inl 97)), .inl x1, .inl x2, .inl x3] (mm S F1 G1) k nof := by
  have hv := hm.1
  obtain ⟨⟨hv1, hv2⟩, ⟨hv3, hv4⟩, ⟨hv5, hv6⟩, ⟨hv7, hv8⟩, ⟨hv9, hv10⟩, ⟨hv11, hv12⟩, ⟨hv13, hv14⟩, hvw, hvs, hvk, hvc, hvx⟩ := id hv
  have hw' := hw
  unfold vs at hw'
  have e100 := hd.1.1 100 kp100
  refine sg_175_0 ?_
  refine c_124 (by omega) (by omega) (fun v e => ?_)
  rw [e100] at e
  refine cn_i (fun g => ?_) (fun g => ?_)
  · have he : sEnd (F 100) x1 x2 x3 = 0 := by omega
    have c2 := (sEnd_n he).2
    have lb := sLd_b hv hm.2.1 hw'.1 (by omega)
    have e114 : F1 114 x1.toNat = sLd (F 100) (F 112) x1 := hd.2.2.2.2.1.1 x1 hw'.1 (by omega)
    have mf := hd.2.2.2.2.2.1.1 (sLd (F 100) (F 112) x1) x1 x2 x3 lb.1 lb.2 hw he
    have mb := MK_mask hv (F 100 4) (mL F) (-1) (sLd (F 100) (F 112) x1) x1 x2 x3 lb.1 lb.2 hw'.1 (by omega) hw'.2.2.1 hw'.2.2.2.1 hw'.2.2.2.2.1 hw'.2.2.2.2.2 he
    have mb' : 0 ≤ mk0 F (sLd (F 100) (F 112) x1) x1 x2 x3 ∧ mk0 F (sLd (F 100) (F 112) x1) x1 x2 x3 < 33554432 := ⟨mb.1, mb.2.1⟩
    refine ck_i (by (first | exact jb_i (by (first | assumption | omega | (simp (disch := omega) only [wr_id]; omega))) (by (first | assumption | omega | (simp (disch := omega) only [wr_id]; omega))) | exact jo_i (by omega) | exact jz_i (by omega) | rfl | (simp only [*]; first | rfl | exact jb_i (by (first | assumption | omega | (simp (disch := omega) only [wr_id]; omega))) (by (first | assumption | omega | (simp (disch := omega) only [wr_id]; omega)))))) ?_
    refine c_123 (by omega) (by omega) (by omega) (by omega) (by omega) (by omega) (fun _ e => ?_)
    subst e
    rw [e114]
    try simp (disch := omega) only [wr_id]
    refine ck_i (by (first | exact jb_i (by (first | assumption | omega | (simp (disch := omega) only [wr_id]; omega))) (by (first | assumption | omega | (simp (disch := omega) only [wr_id]; omega))) | exact jo_i (by omega) | exact jz_i (by omega) | rfl | (simp only [*]; first | rfl | exact jb_i (by (first | assumption | omega | (simp (disch := omega) only [wr_id]; omega))) (by (first | assumption | omega | (simp (disch := omega) only [wr_id]; omega)))))) ?_
    obtain ⟨r, hr⟩ : ∃ r, r = F1 116 (sLd (F 100) (F 112) x1 * 3900 + ((x1 * 12 + x2) * 13 + x3)).toNat := ⟨_, rfl⟩
    rw [← hr] at mf ⊢
    have key : an r (r - 1) = 0 ↔ AB (mk0 F (sLd (F 100) (F 112) x1) x1 x2 x3) := by
      by_cases q : r = 0
      · rw [if_pos q] at mf
        rw [← mf, q]
        exact ⟨fun _ => by
          have := (AB_low 0 0).mpr rfl
          exact this, fun _ => by decide⟩
      · rw [if_neg q] at mf
        rw [← mf] at mb' ⊢
        have al := an_low mb'.1 (by omega)
        rw [wr_id (by omega) (by omega)] at al
        exact al
    refine cn_i (fun z => ?_) (fun z => ?_)
    · exact ⟨_, _, _, rfl, h1 ⟨he, key.mp z⟩⟩
    · exact ⟨_, _, _, rfl, h0 (fun q => z (key.mpr q.2))⟩
  · exact ⟨_, _, _, rfl, h0 (fun q => g (e.trans q.1))⟩
theorem q_176 {k : Int → FS → FI → FJ → Prop} {x1 x2 x3 : Int} {S : FS} {F : FI} {G : FJ} (hM : F 97 12 ≠ 0 → MV F G) (noL : F 97 12 = 0 → k 0 S (rfs (zF F) 2 3) G) (noA : F 97 12 ≠ 0 → ¬ isSt (F 100) x1 x2 x3 → k 0 S (rfs (zF F) 1 2) G)
    (ok : F 97 12 ≠ 0 → isSt (F 100) x1 x2 x3 → ∀ F' G' v, QP F F' G G' → (v = 1 ∧ sTrp (zF F) x2 x1 x3 ∨ v = 0 ∧ ¬ sTrp (zF F) x2 x1 x3) → k v S F' G') : calI 7 176 [.inr (.inr (.inl 97)), .inl x1, .inl x2, .inl x3] (mm S F G) k nof := by
  refine sg_176_0 ?_
  rw [show u2 F 97 0 0 = zF F from rfl]
  refine c_109 z_0 (by decide) (fun hl => cn_1 ?_) (fun hl => cn_0 ⟨_, _, _, rfl, noL (here_z hl)⟩)
  have hl := here_n hl
  have hm := hM hl
  have hv := hm.1
  have hz := MV_z hm
  obtain ⟨⟨hv1, hv2⟩, ⟨hv3, hv4⟩, ⟨hv5, hv6⟩, ⟨hv7, hv8⟩, ⟨hv9, hv10⟩, ⟨hv11, hv12⟩, ⟨hv13, hv14⟩, hvw, hvs, hvk, hvc, hvx⟩ := id hv
  have e0 : zF F 100 = F 100 := z_n (by decide)
  refine c_149 (by rw [e0]; omega) (by rw [e0]; omega) (fun ha => ?_) (fun ha => ?_)
  · have hw := vs_of ha
    rw [e0] at ha
    refine c_69 z_0 (by decide) (by decide) (by decide) (fun _ => cn_1 ?_) (fun q => absurd q (by decide))
    refine c_143 hz (fun F1 G1 hd => ?_)
    exact c_175 (F := zF F) hz hd hw (fun t => ck_i rfl ⟨_, _, _, rfl, ok hl ha F1 G1 1 (QP_d hd rfl) (Or.inl ⟨rfl, t⟩)⟩) (fun t => ck_i rfl ⟨_, _, _, rfl, ok hl ha F1 G1 0 (QP_d hd rfl) (Or.inr ⟨rfl, t⟩)⟩)
  · rw [e0] at ha
    exact c_69 z_0 (by decide) (by decide) (by decide) (fun q => absurd rfl q) (fun _ => cn_0 ⟨_, _, _, rfl, noA hl ha⟩)
/-- where a move leads, no way closed; what is left then -/
def sTo1 (l : Nat → Int) (p m : Int) : Int := if m = 0 then p else sOth l (m - 1) p
noncomputable def sFc (F : FI) (p h n : Int) : Nat → Int → Int
  | 0, _ => -1
  | c + 1, m => @ite _ (bit (mk0 F (sLd (F 100) (F 112) h) h p n) m ∧ sTrp F (h + 1) (sTo1 (F 100) p m) (sAf (F 100) (F 100 4) (sTo1 (F 100) p m) n)) (Classical.propDecidable _) m (sFc F p h n c (m + 1))
theorem l_177_68 {Q : Rs → Mm → Prop} {x1 x2 x3 x4 x5 : Int} {S : FS} {F F1 : FI} {G G1 : FJ} (hm : MV F G) (hd : RD F F1 G G1 (cBs F)) (hw : vs (F 100) (F 100 4) x2 x1 x3) (he : sEnd (F 100) x2 x1 x3 = 0) (e4 : x4 = mk0 F (sLd (F 100) (F 112) x2) x2 x1 x3) (h0 : 0 ≤ x5) (h1 : x5 ≤ F 100 1 + 1)
    (hq : Q (.inl (some (.inl (sFc F x1 x2 x3 (F 100 1 + 1 - x5).toNat x5)))) (mm S F1 G1)) : wph 7 177 68 [.inr (.inr (.inl 97)), .inl x1, .inl x2, .inl x3, .inl x4, .inl x5] [] (mm S F1 G1) (0, 0) Q := by
  have hv := hm.1
  obtain ⟨⟨hv1, hv2⟩, ⟨hv3, hv4⟩, ⟨hv5, hv6⟩, ⟨hv7, hv8⟩, ⟨hv9, hv10⟩, ⟨hv11, hv12⟩, ⟨hv13, hv14⟩, hvw, hvs, hvk, hvc, hvx⟩ := id hv
  have hw' := hw
  unfold vs at hw'
  have ce := sEnd_n he
  have e100 := hd.1.1 100 kp100
  have e31 := hd.2.2.2.1
  have lb := sLd_b hv hm.2.1 hw'.1 (by omega)
  have mb := MK_mask hv (F 100 4) (mL F) (-1) (sLd (F 100) (F 112) x2) x2 x1 x3 lb.1 lb.2 hw'.1 (by omega) hw'.2.2.1 hw'.2.2.2.1 hw'.2.2.2.2.1 hw'.2.2.2.2.2 he
  have mb' : 0 ≤ x4 ∧ x4 < 33554432 := by rw [e4]; exact ⟨mb.1, mb.2.1⟩
  refine sg_177_68 ?_
  rw [e100, e31]
  refine cn_i (fun h => ?_) (fun h => ?_)
  · rw [show (F 100 1 + 1 - x5).toNat = 0 by omega] at hq
    exact hq
  · have en : (F 100 1 + 1 - x5).toNat = (F 100 1 + 1 - (x5 + 1)).toNat + 1 := by omega
    have eH : sFc F x1 x2 x3 (F 100 1 + 1 - x5).toNat x5 = @ite _ (bit x4 x5 ∧ sTrp F (x2 + 1) (sTo1 (F 100) x1 x5) (sAf (F 100) (F 100 4) (sTo1 (F 100) x1 x5) x3)) (Classical.propDecidable _) x5 (sFc F x1 x2 x3 (F 100 1 + 1 - (x5 + 1)).toNat (x5 + 1)) := by rw [en, e4]; rfl
    have nxt : ¬ (bit x4 x5 ∧ sTrp F (x2 + 1) (sTo1 (F 100) x1 x5) (sAf (F 100) (F 100 4) (sTo1 (F 100) x1 x5) x3)) → wph 7 177 68 [.inr (.inr (.inl 97)), .inl x1, .inl x2, .inl x3, .inl x4, .inl (x5 + 1)] [] (mm S F1 G1) (0, 0) Q := by
      intro hn
      rw [eH, if_neg hn] at hq
      exact l_177_68 hm hd hw he e4 (by omega) (by omega) hq
    try simp (disch := omega) only [wr_id]
    refine cn_i (fun g => ?_) (fun g => ?_)
    · rw [bit_z mb'.1 (by omega) h0 (by omega)] at g
      exact nxt (fun r => g r.1)
    · rw [bit_z mb'.1 (by omega) h0 (by omega), Classical.not_not] at g
      have call : ∀ to n', to = sTo1 (F 100) x1 x5 → n' = sAf (F 100) (F 100 4) to x3 → 0 ≤ to → to < F 100 0 → calI 1 175 [.inr (.inr (.inl 97)), .inl (x2 + 1), .inl to, .inl n'] (mm S F1 G1) (fun v1 S1 F1 G1 => cnd (decide (v1 = 0)) (wph 7 177 68 [.inr (.inr (.inl 97)), .inl x1, .inl x2, .inl x3, .inl x4, .inl (x5 + 1)] [] (mm S1 F1 G1) (0, 0) Q) (Q (.inl (some (.inl x5))) (mm S1 F1 G1))) nof := by
        intro to n' et en' t0 t1
        have ab := sAf_b (l := F 100) (q := to) (by omega) (by omega) (show 1 ≤ x3 by omega) hw'.2.2.2.2.2
        refine c_175 hm hd (by rw [en']; exact ⟨by omega, by omega, t0, t1, ab.1, ab.2⟩) (fun t => cn_1 ?_) (fun t => cn_0 (nxt ?_))
        · rw [en', et] at t
          rw [eH, if_pos ⟨g, t⟩] at hq
          exact hq
        · rw [en', et] at t
          exact fun r => t r.2
      refine cn_i (fun z => ?_) (fun z => ?_)
      · have et : x1 = sTo1 (F 100) x1 x5 := by unfold sTo1; rw [if_pos z]
        refine ck_i (by (first | exact jb_i (by (first | assumption | omega | (simp (disch := omega) only [wr_id]; omega))) (by (first | assumption | omega | (simp (disch := omega) only [wr_id]; omega))) | exact jo_i (by omega) | exact jz_i (by omega) | rfl | (simp only [*]; first | rfl | exact jb_i (by (first | assumption | omega | (simp (disch := omega) only [wr_id]; omega))) (by (first | assumption | omega | (simp (disch := omega) only [wr_id]; omega)))))) (cn_i (fun w => ?_) (fun w => ?_))
        · exact call x1 _ et (by unfold sAf; rw [if_pos w]) (by omega) (by omega)
        · exact call x1 _ et (by unfold sAf; rw [if_neg w]) (by omega) (by omega)
      · have ob := sOth_b (p := x1) (w := x5 - 1) hv (by omega) (by omega)
        refine c_125 (by omega) (by omega) (fun v3 e3 => ?_)
        rw [e100] at e3
        have et : v3 = sTo1 (F 100) x1 x5 := by unfold sTo1; rw [if_neg z]; exact e3
        rw [e100, e31]
        try simp (disch := omega) only [wr_id]
        refine ck_i (by (first | exact jb_i (by (first | assumption | omega | (simp (disch := omega) only [wr_id]; omega))) (by (first | assumption | omega | (simp (disch := omega) only [wr_id]; omega))) | exact jo_i (by omega) | exact jz_i (by omega) | rfl | (simp only [*]; first | rfl | exact jb_i (by (first | assumption | omega | (simp (disch := omega) only [wr_id]; omega))) (by (first | assumption | omega | (simp (disch := omega) only [wr_id]; omega)))))) (cn_i (fun w => ?_) (fun w => ?_))
        · exact call v3 _ et (by unfold sAf; rw [if_pos w]) (by omega) (by omega)
        · exact call v3 _ et (by unfold sAf; rw [if_neg w]) (by omega) (by omega)
termination_by (F 100 1 + 1 - x5).toNat
decreasing_by omega
theorem q_177 {k : Int → FS → FI → FJ → Prop} {x1 x2 x3 : Int} {S : FS} {F : FI} {G : FJ} (hM : F 97 12 ≠ 0 → MV F G) (noL : F 97 12 = 0 → k 0 S (rfs (zF F) 2 3) G) (noA : F 97 12 ≠ 0 → ¬ isSt (F 100) x1 x2 x3 → k 0 S (rfs (zF F) 1 2) G)
    (ok : F 97 12 ≠ 0 → isSt (F 100) x1 x2 x3 → ∀ F' G', QP F F' G G' → k (if sEnd (F 100) x2 x1 x3 = 0 then sFc (zF F) x1 x2 x3 (F 100 1 + 1).toNat 0 else -1) S F' G') : calI 7 177 [.inr (.inr (.inl 97)), .inl x1, .inl x2, .inl x3] (mm S F G) k nof := by
  refine sg_177_0 ?_
  rw [show u2 F 97 0 0 = zF F from rfl]
  refine c_109 z_0 (by decide) (fun hl => cn_1 ?_) (fun hl => cn_0 ⟨_, _, _, rfl, noL (here_z hl)⟩)
  have hl := here_n hl
  have hm := hM hl
  have hv := hm.1
  have hz := MV_z hm
  obtain ⟨⟨hv1, hv2⟩, ⟨hv3, hv4⟩, ⟨hv5, hv6⟩, ⟨hv7, hv8⟩, ⟨hv9, hv10⟩, ⟨hv11, hv12⟩, ⟨hv13, hv14⟩, hvw, hvs, hvk, hvc, hvx⟩ := id hv
  have e0 : zF F 100 = F 100 := z_n (by decide)
  refine c_149 (by rw [e0]; omega) (by rw [e0]; omega) (fun ha => ?_) (fun ha => ?_)
  · have hw := vs_of ha
    rw [e0] at ha
    refine c_69 z_0 (by decide) (by decide) (by decide) (fun _ => cn_1 ?_) (fun q => absurd q (by decide))
    refine c_143 hz (fun F1 G1 hd => ?_)
    have hd : RD (zF F) F1 G G1 (cBs (zF F)) := hd
    have ok' := ok hl ha F1 G1 (QP_d hd rfl)
    have e100 := (hd.1.1 100 kp100).trans e0
    have hw' := hw
    rw [e0] at hw'
    unfold vs at hw'
    refine c_124 (by omega) (by omega) (fun v5 e5 => ?_)
    rw [e100] at e5
    refine cn_i (fun g => ?_) (fun g => ?_)
    · have he : sEnd (F 100) x2 x1 x3 = 0 := by omega
      have c2 := (sEnd_n he).2
      rw [if_pos he] at ok'
      have lb := sLd_b hz.1 hz.2.1 hw'.1 (by omega)
      have e114 : F1 114 x2.toNat = sLd (zF F 100) (zF F 112) x2 := hd.2.2.2.2.1.1 x2 hw'.1 (by rw [e0]; omega)
      have mf := hd.2.2.2.2.2.1.1 _ x2 x1 x3 lb.1 lb.2 hw (by rw [e0]; exact he)
      rw [e0] at lb
      refine ck_i (by (first | exact jb_i (by (first | assumption | omega | (simp (disch := omega) only [wr_id]; omega))) (by (first | assumption | omega | (simp (disch := omega) only [wr_id]; omega))) | exact jo_i (by omega) | exact jz_i (by omega) | rfl | (simp only [*]; first | rfl | exact jb_i (by (first | assumption | omega | (simp (disch := omega) only [wr_id]; omega))) (by (first | assumption | omega | (simp (disch := omega) only [wr_id]; omega)))))) ?_
      refine c_123 (by omega) (by omega) (by omega) (by omega) (by omega) (by omega) (fun _ e => ?_)
      subst e
      rw [e114]
      refine c_130 (by rw [e0]; omega) (by rw [e0]; omega) (by omega) (by omega) (fun v7 e7 => ?_)
      rw [mf] at e7
      refine l_177_68 (F := zF F) hz hd hw (by rw [e0]; exact he) e7 (by omega) (by rw [e0]; omega) ⟨_, _, _, rfl, ?_⟩
      rw [e0, show (F 100 1 + 1 - 0).toNat = (F 100 1 + 1).toNat by omega]
      exact ok'
    · rw [if_neg (by omega)] at ok'
      exact ⟨_, _, _, rfl, ok'⟩
  · rw [e0] at ha
    exact c_69 z_0 (by decide) (by decide) (by decide) (fun q => absurd rfl q) (fun _ => cn_0 ⟨_, _, _, rfl, noA hl ha⟩)
