theorem OT_o {F F1 : FI} {G : FJ} {c : Cf} {st : Int} {B : Int → Int → Int → Int} (h : OT F G c st B) (ho : ∀ a, a ≠ 126 → F1 a = F a) : OT F1 G c st B := by
  obtain ⟨o1, o2, o3, o4⟩ := h
  unfold OT HB at *
  rw [ho 100 (by decide), ho 114 (by decide), ho 116 (by decide), ho 122 (by decide)]
  exact ⟨o1, o2, o3, o4⟩
/-- they are of more than one mind at an hour, among the first states -/
def DS (l : Nat → Int) (c : Cf) (st : Int) (B : Int → Int → Int → Int) (t : Nat) (i : Int) : Prop := ∃ p n, p * 13 + n < i ∧ vs l st t p n ∧ sRe l B (sMy l st) st 0 (l 6) st t p n ∧ sEnd l t p n = 0 ∧ ¬ sOm l c st B t p n
/-- from when on they are of one mind -/
noncomputable def sLs (l : Nat → Int) (c : Cf) (st : Int) (B : Int → Int → Int → Int) : Nat → Int
  | 0 => 0
  | t + 1 => @ite _ (DS l c st B t 156) (Classical.propDecidable _) ((t : Int) + 1) (sLs l c st B t)
noncomputable def sLp (l : Nat → Int) (c : Cf) (st : Int) (B : Int → Int → Int → Int) (t : Nat) (i : Int) : Int := @ite _ (DS l c st B t i) (Classical.propDecidable _) ((t : Int) + 1) (sLs l c st B t)
theorem sLp_c {l : Nat → Int} {c : Cf} {st : Int} {B : Int → Int → Int → Int} {t : Nat} {i j : Int} (hij : i ≤ j) (h : ∀ p n, i ≤ p * 13 + n → p * 13 + n < j → vs l st t p n → sRe l B (sMy l st) st 0 (l 6) st t p n → sEnd l t p n = 0 → sOm l c st B t p n) : sLp l c st B t j = sLp l c st B t i := by
  unfold sLp
  by_cases q : DS l c st B t i
  · obtain ⟨p, n, a, b⟩ := id q
    rw [if_pos q, if_pos (show DS l c st B t j from ⟨p, n, by omega, b⟩)]
  · rw [if_neg q, if_neg]
    rintro ⟨p, n, a, b1, b2, b3, b4⟩
    by_cases z : p * 13 + n < i
    · exact q ⟨p, n, z, b1, b2, b3, b4⟩
    · exact b4 (h p n (by omega) a b1 b2 b3)
theorem sLp_y {l : Nat → Int} {c : Cf} {st p n i : Int} {B : Int → Int → Int → Int} {t : Nat} (h1 : vs l st t p n) (h2 : sRe l B (sMy l st) st 0 (l 6) st t p n) (h3 : sEnd l t p n = 0) (h4 : ¬ sOm l c st B t p n) (hi : p * 13 + n < i) : sLp l c st B t i = (t : Int) + 1 := if_pos ⟨p, n, hi, h1, h2, h3, h4⟩
theorem sLp_0 {l : Nat → Int} {c : Cf} {st : Int} {B : Int → Int → Int → Int} {t : Nat} : sLp l c st B t 0 = sLs l c st B t := by
  refine if_neg ?_
  rintro ⟨p, n, a, b, _⟩
  unfold vs at b
  omega
set_option maxRecDepth 100000 in
theorem l_196_80 {Q : Rs → Mm → Prop} {c : Cf} {B : Int → Int → Int → Int} {st : Int} {t p : Nat} {S : FS} {F : FI} {G : FJ} (hv : LV (F 100)) (hs : 0 ≤ st) (hst : st ≤ 12) (e31 : F 97 31 = st) (hO : OT F G c st B) (ht : (t : Int) < F 100 3) (hp2 : (p : Int) < F 100 0)
    (hq : ∀ F2, RI (F 100) B (sMy (F 100) st) st 0 (F 100 6) st (F2 126) t (((p : Int) + 1) * 13) 0 → (∀ a, a ≠ 126 → F2 a = F a) → wph 8 196 67 [.inr (.inr (.inl 97)), .inl (sLp (F 100) c st B t (((p : Int) + 1) * 13)), .inl (t : Int), .inl ((p : Int) + 1)] [] (mm S F2 G) (0, 0) Q) :
    ∀ (K n : Nat) (F1 : FI), (K : Int) = st + 1 - n → RI (F 100) B (sMy (F 100) st) st 0 (F 100 6) st (F1 126) t ((p : Int) * 13 + n) 0 → (∀ a, a ≠ 126 → F1 a = F a) → wph 8 196 80 [.inr (.inr (.inl 97)), .inl (sLp (F 100) c st B t ((p : Int) * 13 + n)), .inl (t : Int), .inl (p : Int), .inl (n : Int)] [] (mm S F1 G) (0, 0) Q := by
  obtain ⟨⟨hv1, hv2⟩, ⟨hv3, hv4⟩, ⟨hv5, hv6⟩, ⟨hv7, hv8⟩, ⟨hv9, hv10⟩, ⟨hv11, hv12⟩, ⟨hv13, hv14⟩, hvw, hvs, hvk, hvc, hvx⟩ := id hv
  intro K
  induction K with
  | zero =>
    intro n F1 hK hi ho
    have f31 : F1 97 31 = st := by rw [ho 97 (by decide)]; exact e31
    refine sg_196_80 ?_
    try simp (disch := omega) only [wr_id]
    rw [f31]
    refine cn_i (fun _ => ?_) (fun g => by omega)
    have hq := hq F1 (RI_k hi (by omega) (fun q s w a b _ _ => by unfold vs at w; omega)) ho
    rw [sLp_c (i := (p : Int) * 13 + n) (by omega) (fun q s a b w _ _ => by unfold vs at w; omega)] at hq
    exact hq
  | succ K ih =>
    intro n F1 hK hi ho
    have f100 : F1 100 = F 100 := ho 100 (by decide)
    have f31 : F1 97 31 = st := by rw [ho 97 (by decide)]; exact e31
    have hn' : ((n + 1 : Nat) : Int) = (n : Int) + 1 := by omega
    have w : vs (F 100) st t p n := ⟨by omega, by omega, by omega, hp2, by omega, by omega⟩
    have w0 : vs (F 100) st (0 + (t : Int)) p n := by rw [Int.zero_add]; exact w
    have i0 := hi t p n w
    have ir : F1 126 (((t : Int) * 12 + p) * 13 + (n : Int)).toNat = 1 ↔ sRe (F 100) B (sMy (F 100) st) st 0 (F 100 6) st t p n := by
      rw [i0.2, show ((t : Int) - 0).toNat = t by omega]
      exact ⟨fun r => r.elim (fun y => y.2.2) (fun y => by omega), fun r => Or.inl ⟨by omega, by omega, r⟩⟩
    have nxt : ∀ F2 cnt, cnt = sLp (F 100) c st B t ((p : Int) * 13 + n + 1) → RI (F 100) B (sMy (F 100) st) st 0 (F 100 6) st (F2 126) t ((p : Int) * 13 + n + 1) 0 → (∀ a, a ≠ 126 → F2 a = F a) → wph 8 196 80 [.inr (.inr (.inl 97)), .inl cnt, .inl (t : Int), .inl (p : Int), .inl ((n : Int) + 1)] [] (mm S F2 G) (0, 0) Q := by
      intro F2 cnt e a b
      have ih := ih (n + 1) F2 (by omega) (by rw [hn', ← Int.add_assoc]; exact a) b
      rw [hn', ← Int.add_assoc, ← e] at ih
      exact ih
    have sk : (sRe (F 100) B (sMy (F 100) st) st 0 (F 100 6) st t p n → sEnd (F 100) t p n = 0 → False) → wph 8 196 80 [.inr (.inr (.inl 97)), .inl (sLp (F 100) c st B t ((p : Int) * 13 + n)), .inl (t : Int), .inl (p : Int), .inl ((n : Int) + 1)] [] (mm S F1 G) (0, 0) Q := by
      intro z
      refine nxt F1 _ ?_ (RI_k hi (by omega) (fun q s w' a b r e => ?_)) ho
      · exact (sLp_c (by omega) (fun q s a b w' r e => ((by
          unfold vs at w'
          have e1 : q = p := by omega
          have e2 : s = n := by omega
          rw [e1, e2] at r e
          exact z r e) : False).elim)).symm
      · rw [Int.zero_add] at w' e
        unfold vs at w'
        have e1 : q = p := by omega
        have e2 : s = n := by omega
        rw [e1, e2] at r e
        exact z r e
    refine sg_196_80 ?_
    try simp (disch := omega) only [wr_id]
    rw [f31]
    refine cn_i (fun g => by omega) (fun _ => ?_)
    refine c_123 (by omega) (by omega) (by omega) (by omega) (by omega) (by omega) (fun _ ev => ?_)
    subst ev
    refine ck_i (by (first | exact jb_i (by (first | assumption | omega | (simp (disch := omega) only [wr_id]; omega))) (by (first | assumption | omega | (simp (disch := omega) only [wr_id]; omega))) | exact jo_i (by omega) | exact jz_i (by omega) | rfl | (simp only [*]; first | rfl | exact jb_i (by (first | assumption | omega | (simp (disch := omega) only [wr_id]; omega))) (by (first | assumption | omega | (simp (disch := omega) only [wr_id]; omega)))))) (cn_i (fun g => ?_) (fun g => ?_))
    · exact sk (fun r _ => by have := ir.2 r; omega)
    · have hr := ir.1 (by have := i0.1; omega)
      refine c_124 (by omega) (by omega) (fun v2 e2 => ?_)
      rw [f100] at e2
      refine cn_i (fun g2 => ?_) (fun g2 => ?_)
      · have he : sEnd (F 100) t p n = 0 := e2.symm.trans g2
        have ce := sEnd_n he
        obtain ⟨b1, b2, b3, b4⟩ := hO.1 t p n w he
        have f114 : F1 114 = F 114 := ho 114 (by decide)
        have f116 : F1 116 = F 116 := ho 116 (by decide)
        have he0 : sEnd (F 100) (0 + (t : Int)) p n = 0 := by rw [Int.zero_add]; exact he
        have go : ∀ cnt, cnt = sLp (F 100) c st B t ((p : Int) * 13 + n + 1) → wph 8 196 155 [.inr (.inr (.inl 97)), .inl cnt, .inl (t : Int), .inl (p : Int), .inl (n : Int), .inl (B t p n), .inl 0] [] (mm S F1 G) (0, 0) Q := fun cnt e =>
          l_196_155 (F := F) (h0 := 0) (p0 := F 100 6) (n0 := st) hv hs hst e31 (Int.zero_add _).symm (Int.le_refl _) w he hr ⟨b3, b4⟩ (fun F2 a b => nxt F2 cnt e a b) (F 100 1 + 1).toNat 0 F1 (by omega) hi ho
        refine c_195 (c := c) (st := st) (B := B) (by rw [f100]; exact hv) hs hst f31 (OT_o hO ho) (by rw [f100]; exact w) (by rw [f100]; exact he) (fun om => ?_) (fun om => ?_)
        · rw [f100] at om
          refine cn_i (fun r => absurd r (by decide)) (fun _ => ?_)
          refine ck_i (by (first | exact jb_i (by (first | assumption | omega | (simp (disch := omega) only [wr_id]; omega))) (by (first | assumption | omega | (simp (disch := omega) only [wr_id]; omega))) | exact jo_i (by omega) | exact jz_i (by omega) | rfl | (simp only [*]; first | rfl | exact jb_i (by (first | assumption | omega | (simp (disch := omega) only [wr_id]; omega))) (by (first | assumption | omega | (simp (disch := omega) only [wr_id]; omega)))))) ?_
          refine c_123 (by omega) (by omega) (by omega) (by omega) (by omega) (by omega) (fun _ ev => ?_)
          subst ev
          rw [f114]
          refine c_130 b1.1 b1.2 (by omega) (by omega) (fun v4 e4 => ?_)
          rw [f116, b2] at e4
          subst e4
          exact go _ (sLp_c (by omega) (fun q s a b w' r e => by
            unfold vs at w'
            have e1 : q = p := by omega
            have e2 : s = n := by omega
            rw [e1, e2]
            exact om)).symm
        · rw [f100] at om
          refine cn_i (fun _ => ?_) (fun r => absurd rfl r)
          refine ck_i (by (first | exact jb_i (by (first | assumption | omega | (simp (disch := omega) only [wr_id]; omega))) (by (first | assumption | omega | (simp (disch := omega) only [wr_id]; omega))) | exact jo_i (by omega) | exact jz_i (by omega) | rfl | (simp only [*]; first | rfl | exact jb_i (by (first | assumption | omega | (simp (disch := omega) only [wr_id]; omega))) (by (first | assumption | omega | (simp (disch := omega) only [wr_id]; omega)))))) ?_
          refine c_123 (by omega) (by omega) (by omega) (by omega) (by omega) (by omega) (fun _ ev => ?_)
          subst ev
          rw [f114]
          refine c_130 b1.1 b1.2 (by omega) (by omega) (fun v4 e4 => ?_)
          rw [f116, b2] at e4
          subst e4
          exact go _ (sLp_y w hr he om (by omega)).symm
      · exact sk (fun _ e => g2 (e2.trans e))
theorem l_196_67 {Q : Rs → Mm → Prop} {c : Cf} {B : Int → Int → Int → Int} {st : Int} {t : Nat} {S : FS} {F : FI} {G : FJ} (hv : LV (F 100)) (hs : 0 ≤ st) (hst : st ≤ 12) (e31 : F 97 31 = st) (hO : OT F G c st B) (ht : (t : Int) < F 100 3)
    (hq : ∀ F2, RI (F 100) B (sMy (F 100) st) st 0 (F 100 6) st (F2 126) (t + 1) 0 0 → (∀ a, a ≠ 126 → F2 a = F a) → wph 8 196 55 [.inr (.inr (.inl 97)), .inl (sLp (F 100) c st B t 156), .inl ((t : Int) + 1)] [] (mm S F2 G) (0, 0) Q) :
    ∀ (K p : Nat) (F1 : FI), (K : Int) = F 100 0 - p → RI (F 100) B (sMy (F 100) st) st 0 (F 100 6) st (F1 126) t ((p : Int) * 13) 0 → (∀ a, a ≠ 126 → F1 a = F a) → wph 8 196 67 [.inr (.inr (.inl 97)), .inl (sLp (F 100) c st B t ((p : Int) * 13)), .inl (t : Int), .inl (p : Int)] [] (mm S F1 G) (0, 0) Q := by
  obtain ⟨⟨hv1, hv2⟩, ⟨hv3, hv4⟩, ⟨hv5, hv6⟩, ⟨hv7, hv8⟩, ⟨hv9, hv10⟩, ⟨hv11, hv12⟩, ⟨hv13, hv14⟩, hvw, hvs, hvk, hvc, hvx⟩ := id hv
  intro K
  induction K with
  | zero =>
    intro p F1 hK hi ho
    have f100 : F1 100 = F 100 := ho 100 (by decide)
    refine sg_196_67 ?_
    try simp (disch := omega) only [wr_id]
    rw [f100]
    refine cn_i (fun g => by omega) (fun _ => ?_)
    have hq := hq F1 (RI_n hv hst (RI_k hi (by omega) (fun q s w a b _ _ => by unfold vs at w; omega))) ho
    rw [sLp_c (i := (p : Int) * 13) (by omega) (fun q s a b w _ _ => by unfold vs at w; omega)] at hq
    exact hq
  | succ K ih =>
    intro p F1 hK hi ho
    have f100 : F1 100 = F 100 := ho 100 (by decide)
    refine sg_196_67 ?_
    rw [f100]
    refine cn_i (fun _ => ?_) (fun g => by omega)
    have z := l_196_80 (c := c) hv hs hst e31 hO ht (by omega) (fun F2 a b => ih (p + 1) F2 (by omega) a b) (st + 1).toNat 0 F1 (by omega) (by rw [show (p : Int) * 13 + ((0 : Nat) : Int) = (p : Int) * 13 by omega]; exact hi) ho
    rw [show (p : Int) * 13 + ((0 : Nat) : Int) = (p : Int) * 13 by omega] at z
    exact z
theorem l_196_55 {Q : Rs → Mm → Prop} {c : Cf} {B : Int → Int → Int → Int} {st : Int} {S : FS} {F : FI} {G : FJ} (hv : LV (F 100)) (hs : 0 ≤ st) (hst : st ≤ 12) (e31 : F 97 31 = st) (hO : OT F G c st B)
    (hq : ∀ F2, (∀ a, a ≠ 126 → F2 a = F a) → Q (.inl (some (.inl (sLs (F 100) c st B (F 100 3).toNat)))) (mm S F2 G)) :
    ∀ (K t : Nat) (F1 : FI), (K : Int) = F 100 3 - t → RI (F 100) B (sMy (F 100) st) st 0 (F 100 6) st (F1 126) t 0 0 → (∀ a, a ≠ 126 → F1 a = F a) → wph 8 196 55 [.inr (.inr (.inl 97)), .inl (sLs (F 100) c st B t), .inl (t : Int)] [] (mm S F1 G) (0, 0) Q := by
  obtain ⟨⟨hv1, hv2⟩, ⟨hv3, hv4⟩, ⟨hv5, hv6⟩, ⟨hv7, hv8⟩, ⟨hv9, hv10⟩, ⟨hv11, hv12⟩, ⟨hv13, hv14⟩, hvw, hvs, hvk, hvc, hvx⟩ := id hv
  intro K
  induction K with
  | zero =>
    intro t F1 hK hi ho
    have f100 : F1 100 = F 100 := ho 100 (by decide)
    refine sg_196_55 ?_
    rw [f100]
    refine cn_i (fun g => by omega) (fun _ => ?_)
    have := hq F1 ho
    rw [show (F 100 3).toNat = t by omega] at this
    exact this
  | succ K ih =>
    intro t F1 hK hi ho
    have f100 : F1 100 = F 100 := ho 100 (by decide)
    refine sg_196_55 ?_
    rw [f100]
    refine cn_i (fun _ => ?_) (fun g => by omega)
    have z := l_196_67 (c := c) hv hs hst e31 hO (by omega) (fun F2 a b => ih (t + 1) F2 (by omega) a b) (F 100 0).toNat 0 F1 (by omega) hi ho
    rw [show ((0 : Nat) : Int) * 13 = 0 by omega, sLp_0] at z
    exact z
set_option maxRecDepth 100000 in
theorem l_196_21 {Q : Rs → Mm → Prop} {S : FS} {F : FI} {G : FJ} (hv : LV (F 100)) (hs : 0 ≤ F 97 31) (hst : F 97 31 ≤ 12)
    (hq : ∀ F2 : FI, (∀ i : Nat, (i : Int) < 3900 → F2 126 i = if (i : Int) = (0 * 12 + F 100 6) * 13 + F 97 31 then 1 else 0) → (∀ a, a ≠ 126 → F2 a = F a) → wph 8 196 55 [.inr (.inr (.inl 97)), .inl 0, .inl 0] [] (mm S F2 G) (0, 0) Q) :
    ∀ (K x : Nat) (F1 : FI), (K : Int) = 3900 - x → (∀ i : Nat, i < x → F1 126 i = 0) → (∀ a, a ≠ 126 → F1 a = F a) → wph 8 196 21 [.inr (.inr (.inl 97)), .inl (x : Int)] [] (mm S F1 G) (0, 0) Q := by
  obtain ⟨⟨hv1, hv2⟩, ⟨hv3, hv4⟩, ⟨hv5, hv6⟩, ⟨hv7, hv8⟩, ⟨hv9, hv10⟩, ⟨hv11, hv12⟩, ⟨hv13, hv14⟩, hvw, hvs, hvk, hvc, hvx⟩ := id hv
  intro K
  induction K with
  | zero =>
    intro x F1 hK hf ho
    have f100 : F1 100 = F 100 := ho 100 (by decide)
    have f97 : F1 97 = F 97 := ho 97 (by decide)
    refine sg_196_21 ?_
    try simp (disch := omega) only [wr_id]
    refine cn_i (fun g => by omega) (fun g => ?_)
    refine c_145 (by rw [f100]; exact hv) (by rw [f97]; exact hs) (by rw [f97]; exact hst) (fun v e => ?_)
    rw [f100, f97] at e
    refine ck_i (by (first | exact jb_i (by (first | assumption | omega | (simp (disch := omega) only [wr_id]; omega))) (by (first | assumption | omega | (simp (disch := omega) only [wr_id]; omega))) | exact jo_i (by omega) | exact jz_i (by omega) | rfl | (simp only [*]; first | rfl | exact jb_i (by (first | assumption | omega | (simp (disch := omega) only [wr_id]; omega))) (by (first | assumption | omega | (simp (disch := omega) only [wr_id]; omega)))))) (hq _ (fun i hi => ?_) (fun a q => by rw [u2_o q]; exact ho a q))
    rw [u2_k]
    by_cases q : i = v.toNat
    · rw [if_pos q, if_pos (by omega)]
    · rw [if_neg q, if_neg (by omega)]; exact hf i (by omega)
  | succ K ih =>
    intro x F1 hK hf ho
    refine sg_196_21 ?_
    try simp (disch := omega) only [wr_id]
    refine cn_i (fun g => ?_) (fun g => by omega)
    refine ck_i (by (first | exact jb_i (by (first | assumption | omega | (simp (disch := omega) only [wr_id]; omega))) (by (first | assumption | omega | (simp (disch := omega) only [wr_id]; omega))) | exact jo_i (by omega) | exact jz_i (by omega) | rfl | (simp only [*]; first | rfl | exact jb_i (by (first | assumption | omega | (simp (disch := omega) only [wr_id]; omega))) (by (first | assumption | omega | (simp (disch := omega) only [wr_id]; omega)))))) (ih (x + 1) _ (by omega) (fun i hi => ?_) (fun a q => by rw [u2_o q]; exact ho a q))
    rw [u2_k]
    by_cases q : i = ((x : Int)).toNat
    · rw [if_pos q]
    · rw [if_neg q]; exact hf i (by omega)
theorem q_196 {k : Int → FS → FI → FJ → Prop} {S : FS} {F : FI} {G : FJ} (hM : F 97 12 ≠ 0 → MV F G) (noL : F 97 12 = 0 → k 0 S (rfs (zF F) 1 3) G)
    (ok : F 97 12 ≠ 0 → ∀ F' G', QP F F' G G' → k (sLs (F 100) (cBs F) (F 100 4) (sBt (cBs F)) (F 100 3).toNat) S F' G') : calI 8 196 [.inr (.inr (.inl 97))] (mm S F G) k nof := by
  refine sg_196_0 ?_
  rw [show u2 F 97 0 0 = zF F from rfl]
  refine c_109 z_0 (by decide) (fun hl => cn_1 ?_) (fun hl => cn_0 ⟨_, _, _, rfl, noL (here_z hl)⟩)
  have hl := here_n hl
  have hm := hM hl
  have hv := hm.1
  have hz := MV_z hm
  obtain ⟨⟨hv1, hv2⟩, ⟨hv3, hv4⟩, ⟨hv5, hv6⟩, ⟨hv7, hv8⟩, ⟨hv9, hv10⟩, ⟨hv11, hv12⟩, ⟨hv13, hv14⟩, hvw, hvs, hvk, hvc, hvx⟩ := id hv
  have e0 : zF F 100 = F 100 := z_n (by decide)
  have cv : CV (F 100) (F 100 4) (cBs F) := sCf_v (w := mL F) (F 100 4) hv hm.2.1
  refine c_144 hz (fun F1 G1 hd ht => ?_)
  rw [show sCf (zF F 100) (zF F 112) (mL (zF F)) = cBs F from z_B F] at hd ht
  have hb := HB_d (by rw [e0]; exact hv) hd (by rw [e0]; exact cv)
  rw [e0] at hb ht
  have f100 : F1 100 = F 100 := (hd.1.1 100 kp100).trans e0
  have f31 : F1 97 31 = F 100 4 := hd.2.2.2.1.trans (by rw [e0])
  have r122 := hd.2.2.2.2.2.1.2.1
  rw [e0] at r122
  have hO : OT F1 G1 (cBs F) (F 100 4) (sBt (cBs F)) := by
    refine ⟨hb, ?_, hd.2.2.2.2.2.2.1, ?_⟩
    · rw [f100]; exact r122
    · rw [f100]; exact ht.2
  refine l_196_21 (by rw [f100]; exact hv) (by rw [f31]; omega) (by rw [f31]; omega) (fun F2 h2 ho => ?_) 3900 0 F1 (by omega) (fun i a => by omega) (fun _ _ => rfl)
  rw [f100, f31] at h2
  have g100 : F2 100 = F 100 := (ho 100 (by decide)).trans f100
  have g31 : F2 97 31 = F 100 4 := by rw [ho 97 (by decide)]; exact f31
  refine l_196_55 (c := cBs F) (B := sBt (cBs F)) (st := F 100 4) (by rw [g100]; exact hv) (by omega) (by omega) g31 (OT_o hO ho) (fun F3 ho3 => ⟨_, _, _, rfl, ?_⟩) (F 100 3).toNat 0 F2 (by rw [g100]; omega) (by rw [g100]; exact RI_0 hv (by omega) ⟨by omega, by omega, hv13, hv14, by omega, Int.le_refl _⟩ h2) (fun _ _ => rfl)
  rw [g100]
  have k2 : ∀ a, a ≠ 126 → F3 a = F1 a := fun a q => (ho3 a q).trans (ho a q)
  have f97 : F3 97 = F1 97 := k2 97 (by decide)
  refine ok hl F3 G1 ⟨⟨fun a h => ?_, fun i h => by rw [f97]; exact hd.1.2.1 i h, hd.1.2.2⟩, ?_, hd.2.2.2.2.2.2⟩
  · rw [k2 a (by unfold kpM at h; omega)]; exact hd.1.1 a h
  · obtain ⟨⟨o1, o2, o3, o4⟩, k1, k3⟩ := RD_K hd rfl
    refine ⟨by unfold OM; rw [f97]; exact ⟨o1, o2, o3, o4⟩, by rw [f97]; exact k1, fun q => ?_⟩
    rw [f97] at q
    have fL : mL F3 = mL F1 := mL_c (by rw [f97]) (k2 _ (by decide)) (k2 _ (by decide)) (k2 _ (by decide)) (k2 _ (by decide))
    rw [k2 100 (by decide), fL]
    exact RDY_c (k3 q) (k2 _ (by decide)) (k2 _ (by decide)) rfl rfl
