/-! ===== the reference answers: whether they may ever be there ===== -/
/-- somebody is there at an hour -/
def sHit (l : Nat → Int) (B : Int → Int → Int → Int) (E : Int → Int → Int → Int → Int → Int → Prop) (st h0 p0 n0 : Int) (t : Nat) : Prop := ∃ p n, vs l st (h0 + t) p n ∧ sRe l B E st h0 p0 n0 t p n ∧ sEnd l (h0 + t) p n = 1
/-- the lawful moves as they stand -/
def HB (F : FI) (st : Int) (B : Int → Int → Int → Int) : Prop := ∀ h p n, vs (F 100) st h p n → sEnd (F 100) h p n = 0 → (0 ≤ F 114 h.toNat ∧ F 114 h.toNat < 5) ∧ (if F 116 (F 114 h.toNat * 3900 + ((h * 12 + p) * 13 + n)).toNat = 0 then 1 else F 116 (F 114 h.toNat * 3900 + ((h * 12 + p) * 13 + n)).toNat) = B h p n ∧ 0 ≤ B h p n ∧ B h p n < 33554432
set_option maxRecDepth 100000 in
theorem l_178_188 {Q : Rs → Mm → Prop} {B : Int → Int → Int → Int} {st h0 p0 n0 h p n : Int} {t : Nat} {S : FS} {F : FI} {G : FJ} (hv : LV (F 100)) (hs : 0 ≤ st) (hst : st ≤ 12) (e31 : F 97 31 = st) (hh : h = h0 + t) (h00 : 0 ≤ h0) (hw : vs (F 100) st h p n) (he : sEnd (F 100) h p n = 0) (hr : sRe (F 100) B (sGo (F 100) st) st h0 p0 n0 t p n) (hb0 : 0 ≤ B h p n ∧ B h p n < 33554432)
    (hq : ∀ F2, RI (F 100) B (sGo (F 100) st) st h0 p0 n0 (F2 126) t (p * 13 + n + 1) 0 → (∀ a, a ≠ 126 → F2 a = F a) → wph 7 178 103 [.inr (.inr (.inl 97)), jk, .inl h0, jk, .inl h, .inl p, .inl (n + 1)] [] (mm S F2 G) (0, 0) Q) :
    ∀ (K m : Nat) (F1 : FI), (K : Int) = F 100 1 + 1 - m → RI (F 100) B (sGo (F 100) st) st h0 p0 n0 (F1 126) t (p * 13 + n) m → (∀ a, a ≠ 126 → F1 a = F a) → wph 7 178 188 [.inr (.inr (.inl 97)), jk, .inl h0, jk, .inl h, .inl p, .inl n, jk, .inl (B h p n), .inl (m : Int)] [] (mm S F1 G) (0, 0) Q := by
  obtain ⟨⟨hv1, hv2⟩, ⟨hv3, hv4⟩, ⟨hv5, hv6⟩, ⟨hv7, hv8⟩, ⟨hv9, hv10⟩, ⟨hv11, hv12⟩, ⟨hv13, hv14⟩, hvw, hvs, hvk, hvc, hvx⟩ := id hv
  obtain ⟨w1, w2, w3, w4, w5, w6⟩ := id hw
  have ce := sEnd_n he
  intro K
  induction K with
  | zero =>
    intro m F1 hK hi ho
    have f100 : F1 100 = F 100 := ho 100 (by decide)
    refine sg_178_188 ?_
    try simp (disch := omega) only [wr_id]
    rw [f100]
    refine cn_i (fun _ => ?_) (fun g => by omega)
    exact hq F1 (RI_e hi (by omega)) ho
  | succ K ih =>
    intro m F1 hK hi ho
    have f100 : F1 100 = F 100 := ho 100 (by decide)
    have f31 : F1 97 31 = st := by rw [ho 97 (by decide)]; exact e31
    have hm' : ((m + 1 : Nat) : Int) = (m : Int) + 1 := by omega
    have nx : bit (B h p n) m → ∀ q : Int, 0 ≤ q → q < F 100 0 → (if (m : Int) = 0 ∨ sSn (F 100) ((m : Int) - 1) h = 16 then p else sOth (F 100) ((m : Int) - 1) p) = q → calI 1 131 [.inr (.inr (.inl 97)), .inl h, .inl p, .inl n, .inl q] (mm S F1 G) (fun v1 S1 F1 G1 => chk (ib v1 3900) (wph 7 178 188 [.inr (.inr (.inl 97)), jk, .inl h0, jk, .inl h, .inl p, .inl n, jk, .inl (B h p n), .inl ((m : Int) + 1)] [] (mm S1 (u2 F1 126 ((v1).toNat) 1) G1) (0, 0) Q)) nof := by
      intro hb q q1 q2 eq
      have ab := sAf_b (l := F 100) (q := q) (st := st) (n := n) hs hst (by omega) (by omega)
      refine c_131 (by omega) (by omega) (by omega) (by omega) (by omega) (by omega) (by omega) (fun _ e => ?_)
      subst e
      rw [f100, f31]
      refine ck_i (by (first | exact jb_i (by (first | assumption | omega | (simp (disch := omega) only [wr_id]; omega))) (by (first | assumption | omega | (simp (disch := omega) only [wr_id]; omega))) | exact jo_i (by omega) | exact jz_i (by omega) | rfl | (simp only [*]; first | rfl | exact jb_i (by (first | assumption | omega | (simp (disch := omega) only [wr_id]; omega))) (by (first | assumption | omega | (simp (disch := omega) only [wr_id]; omega)))))) ?_
      have ih := ih (m + 1) (u2 F1 126 (((h + 1) * 12 + q) * 13 + sAf (F 100) st q n).toNat 1) (by omega) (by
        rw [hm']
        rw [hh] at hw he hb
        refine RI_s hst hi hw hr he ⟨by omega, by omega, hb⟩ h00 (fun h' p' n' w e => ?_) (fun h' p' n' w e => ?_)
        · have i0 := hi h' p' n' w
          have w' := w
          unfold vs at w'
          rw [u2_k, ← hh]
          have sg : sGo (F 100) st h p n m p' n' ↔ p' = q ∧ n' = sAf (F 100) st q n := by
            unfold sGo
            rw [eq]
            constructor
            · rintro ⟨a, b⟩; exact ⟨a, by rw [← a]; exact b⟩
            · rintro ⟨a, b⟩; exact ⟨a, by rw [a]; exact b⟩
          rw [sg]
          by_cases z : p' = q ∧ n' = sAf (F 100) st q n
          · rw [if_pos (by omega)]
            exact ⟨Or.inr rfl, fun _ => Or.inr z, fun _ => rfl⟩
          · rw [if_neg (by omega)]
            exact ⟨i0.1, fun x => Or.inl x, fun x => x.elim id (fun y => absurd y z)⟩
        · unfold vs at w
          rw [u2_n (by omega)]) (fun a ha => by rw [u2_o ha]; exact ho a ha)
      rw [hm'] at ih
      exact ih
    refine sg_178_188 ?_
    try simp (disch := omega) only [wr_id]
    rw [f100]
    refine cn_i (fun g => by omega) (fun _ => ?_)
    refine cn_i (fun g => ?_) (fun g => ?_)
    · have nb := (bit_z hb0.1 (by omega) (by omega) (by omega)).1 g
      have ih := ih (m + 1) F1 (by omega) (by
        rw [hm']
        rw [hh] at hw nb
        exact RI_b hst hw hi nb) ho
      rw [hm'] at ih
      exact ih
    · have hb : bit (B h p n) m := Classical.byContradiction fun r => g ((bit_z hb0.1 (by omega) (by omega) (by omega)).2 r)
      have nx := nx hb
      refine cn_i (fun m0 => ?_) (fun m0 => ?_)
      · refine ck_i (by (first | exact jb_i (by (first | assumption | omega | (simp (disch := omega) only [wr_id]; omega))) (by (first | assumption | omega | (simp (disch := omega) only [wr_id]; omega))) | exact jo_i (by omega) | exact jz_i (by omega) | rfl | (simp only [*]; first | rfl | exact jb_i (by (first | assumption | omega | (simp (disch := omega) only [wr_id]; omega))) (by (first | assumption | omega | (simp (disch := omega) only [wr_id]; omega)))))) (cn_i (fun z => cn_i (fun r => by omega) (fun _ => ?_)) (fun z => cn_i (fun r => by omega) (fun _ => ?_)))
        · exact nx p w3 w4 (if_pos (Or.inr z))
        · have ob := sOth_b (p := p) (w := (m : Int) - 1) hv (by omega) (by omega)
          refine c_125 (by omega) (by omega) (fun v e => ?_)
          rw [f100] at e
          subst e
          refine nx _ ob.1 ob.2 (if_neg (fun r => ?_))
          rcases r with r | r
          · omega
          · exact z r
      · exact cn_i (fun z => nx p w3 w4 (if_pos (Or.inl z))) (fun z => by omega)
set_option maxRecDepth 100000 in
theorem l_178_103 {Q : Rs → Mm → Prop} {B : Int → Int → Int → Int} {st h0 p0 n0 h p : Int} {t : Nat} {S : FS} {F : FI} {G : FJ} (hv : LV (F 100)) (hs : 0 ≤ st) (hst : st ≤ 12) (e31 : F 97 31 = st) (hB : HB F st B) (hh : h = h0 + t) (h00 : 0 ≤ h0) (h2 : h ≤ F 100 3) (hp1 : 0 ≤ p) (hp2 : p < F 100 0)
    (hit : ∀ F2, (∀ a, a ≠ 126 → F2 a = F a) → sHit (F 100) B (sGo (F 100) st) st h0 p0 n0 t → Q (.inl (some (.inl (h - h0)))) (mm S F2 G))
    (hq : ∀ F2, RI (F 100) B (sGo (F 100) st) st h0 p0 n0 (F2 126) t ((p + 1) * 13) 0 → (∀ p' n', vs (F 100) st h p' n' → p' < p + 1 → sRe (F 100) B (sGo (F 100) st) st h0 p0 n0 t p' n' → sEnd (F 100) h p' n' ≠ 1) → (∀ a, a ≠ 126 → F2 a = F a) → wph 7 178 89 [.inr (.inr (.inl 97)), jk, .inl h0, jk, .inl h, .inl (p + 1)] [] (mm S F2 G) (0, 0) Q) :
    ∀ (K n : Nat) (F1 : FI), (K : Int) = st + 1 - n → RI (F 100) B (sGo (F 100) st) st h0 p0 n0 (F1 126) t (p * 13 + n) 0 → (∀ p' n', vs (F 100) st h p' n' → (p' < p ∨ p' = p ∧ n' < n) → sRe (F 100) B (sGo (F 100) st) st h0 p0 n0 t p' n' → sEnd (F 100) h p' n' ≠ 1) → (∀ a, a ≠ 126 → F1 a = F a) → wph 7 178 103 [.inr (.inr (.inl 97)), jk, .inl h0, jk, .inl h, .inl p, .inl (n : Int)] [] (mm S F1 G) (0, 0) Q := by
  obtain ⟨⟨hv1, hv2⟩, ⟨hv3, hv4⟩, ⟨hv5, hv6⟩, ⟨hv7, hv8⟩, ⟨hv9, hv10⟩, ⟨hv11, hv12⟩, ⟨hv13, hv14⟩, hvw, hvs, hvk, hvc, hvx⟩ := id hv
  intro K
  induction K with
  | zero =>
    intro n F1 hK hi hn ho
    have f31 : F1 97 31 = st := by rw [ho 97 (by decide)]; exact e31
    refine sg_178_103 ?_
    try simp (disch := omega) only [wr_id]
    rw [f31]
    refine cn_i (fun _ => ?_) (fun g => by omega)
    refine hq F1 (RI_k hi (by omega) (fun q s w a b _ _ => ?_)) (fun p' n' w a => hn p' n' w ?_) ho
    · unfold vs at w
      omega
    · unfold vs at w
      omega
  | succ K ih =>
    intro n F1 hK hi hn ho
    have f100 : F1 100 = F 100 := ho 100 (by decide)
    have f31 : F1 97 31 = st := by rw [ho 97 (by decide)]; exact e31
    have hn' : ((n + 1 : Nat) : Int) = (n : Int) + 1 := by omega
    have w : vs (F 100) st h p n := ⟨by omega, h2, hp1, hp2, by omega, by omega⟩
    have i0 := hi h p n w
    have ir : F1 126 ((h * 12 + p) * 13 + (n : Int)).toNat = 1 ↔ sRe (F 100) B (sGo (F 100) st) st h0 p0 n0 t p n := by
      rw [i0.2, show (h - h0).toNat = t by omega]
      exact ⟨fun r => r.elim (fun y => y.2.2) (fun y => by omega), fun r => Or.inl ⟨by omega, by omega, r⟩⟩
    have nxt : ∀ F2, RI (F 100) B (sGo (F 100) st) st h0 p0 n0 (F2 126) t (p * 13 + n + 1) 0 → ¬ (sRe (F 100) B (sGo (F 100) st) st h0 p0 n0 t p n ∧ sEnd (F 100) h p n = 1) → (∀ a, a ≠ 126 → F2 a = F a) → wph 7 178 103 [.inr (.inr (.inl 97)), jk, .inl h0, jk, .inl h, .inl p, .inl ((n : Int) + 1)] [] (mm S F2 G) (0, 0) Q := by
      intro F2 a b c
      have ih := ih (n + 1) F2 (by omega) (by rw [hn', ← Int.add_assoc]; exact a) (fun p' n' w' d r => ?_) c
      · rw [hn'] at ih
        exact ih
      · by_cases z : p' = p ∧ n' = n
        · rw [z.1, z.2] at r ⊢
          exact fun y => b ⟨r, y⟩
        · exact hn p' n' w' (by omega) r
    have sk : (sRe (F 100) B (sGo (F 100) st) st h0 p0 n0 t p n → sEnd (F 100) h p n = 0 → False) → RI (F 100) B (sGo (F 100) st) st h0 p0 n0 (F1 126) t (p * 13 + n + 1) 0 := by
      intro z
      refine RI_k hi (by omega) (fun q s w' a b r e => ?_)
      rw [← hh] at w' e
      unfold vs at w'
      have e1 : q = p := by omega
      have e2 : s = n := by omega
      rw [e1, e2] at r e
      exact z r e
    refine sg_178_103 ?_
    try simp (disch := omega) only [wr_id]
    rw [f31]
    refine cn_i (fun g => by omega) (fun _ => ?_)
    refine c_123 (by omega) (by omega) (by omega) (by omega) (by omega) (by omega) (fun _ ev => ?_)
    subst ev
    refine ck_i (by (first | exact jb_i (by (first | assumption | omega | (simp (disch := omega) only [wr_id]; omega))) (by (first | assumption | omega | (simp (disch := omega) only [wr_id]; omega))) | exact jo_i (by omega) | exact jz_i (by omega) | rfl | (simp only [*]; first | rfl | exact jb_i (by (first | assumption | omega | (simp (disch := omega) only [wr_id]; omega))) (by (first | assumption | omega | (simp (disch := omega) only [wr_id]; omega)))))) (cn_i (fun g => ?_) (fun g => ?_))
    · have nr : ¬ sRe (F 100) B (sGo (F 100) st) st h0 p0 n0 t p n := fun r => by have := ir.2 r; omega
      exact nxt F1 (sk (fun r _ => nr r)) (fun r => nr r.1) ho
    · have hr := ir.1 (by have := i0.1; omega)
      refine c_124 (by omega) (by omega) (fun v2 e2 => ?_)
      rw [f100] at e2
      refine cn_i (fun g1 => ?_) (fun g1 => ?_)
      · exact hit F1 ho ⟨p, n, by rw [← hh]; exact w, hr, by rw [← hh]; exact e2.symm.trans g1⟩
      · refine cn_i (fun g2 => ?_) (fun g2 => ?_)
        · have he : sEnd (F 100) h p n = 0 := e2.symm.trans g2
          have ce := sEnd_n he
          obtain ⟨b1, b2, b3, b4⟩ := hB h p n w he
          have f114 : F1 114 = F 114 := ho 114 (by decide)
          have f116 : F1 116 = F 116 := ho 116 (by decide)
          refine ck_i (by (first | exact jb_i (by (first | assumption | omega | (simp (disch := omega) only [wr_id]; omega))) (by (first | assumption | omega | (simp (disch := omega) only [wr_id]; omega))) | exact jo_i (by omega) | exact jz_i (by omega) | rfl | (simp only [*]; first | rfl | exact jb_i (by (first | assumption | omega | (simp (disch := omega) only [wr_id]; omega))) (by (first | assumption | omega | (simp (disch := omega) only [wr_id]; omega)))))) ?_
          refine c_123 (by omega) (by omega) (by omega) (by omega) (by omega) (by omega) (fun _ ev => ?_)
          subst ev
          rw [f114]
          refine c_130 b1.1 b1.2 (by omega) (by omega) (fun v4 e4 => ?_)
          rw [f116, b2] at e4
          subst e4
          exact l_178_188 (F := F) hv hs hst e31 hh h00 w he hr ⟨b3, b4⟩ (fun F2 a c => nxt F2 a (fun r => g1 (e2.trans r.2)) c) (F 100 1 + 1).toNat 0 F1 (by omega) hi ho
        · exact nxt F1 (sk (fun _ e => g2 (e2.trans e))) (fun r => g1 (e2.trans r.2)) ho
theorem l_178_89 {Q : Rs → Mm → Prop} {B : Int → Int → Int → Int} {st h0 p0 n0 h : Int} {t : Nat} {S : FS} {F : FI} {G : FJ} (hv : LV (F 100)) (hs : 0 ≤ st) (hst : st ≤ 12) (e31 : F 97 31 = st) (hB : HB F st B) (hh : h = h0 + t) (h00 : 0 ≤ h0) (h2 : h ≤ F 100 3)
    (hit : ∀ F2, (∀ a, a ≠ 126 → F2 a = F a) → sHit (F 100) B (sGo (F 100) st) st h0 p0 n0 t → Q (.inl (some (.inl (h - h0)))) (mm S F2 G))
    (hq : ∀ F2, RI (F 100) B (sGo (F 100) st) st h0 p0 n0 (F2 126) (t + 1) 0 0 → ¬ sHit (F 100) B (sGo (F 100) st) st h0 p0 n0 t → (∀ a, a ≠ 126 → F2 a = F a) → wph 7 178 75 [.inr (.inr (.inl 97)), jk, .inl h0, jk, .inl (h + 1)] [] (mm S F2 G) (0, 0) Q) :
    ∀ (K p : Nat) (F1 : FI), (K : Int) = F 100 0 - p → RI (F 100) B (sGo (F 100) st) st h0 p0 n0 (F1 126) t (p * 13) 0 → (∀ p' n', vs (F 100) st h p' n' → p' < p → sRe (F 100) B (sGo (F 100) st) st h0 p0 n0 t p' n' → sEnd (F 100) h p' n' ≠ 1) → (∀ a, a ≠ 126 → F1 a = F a) → wph 7 178 89 [.inr (.inr (.inl 97)), jk, .inl h0, jk, .inl h, .inl (p : Int)] [] (mm S F1 G) (0, 0) Q := by
  obtain ⟨⟨hv1, hv2⟩, ⟨hv3, hv4⟩, ⟨hv5, hv6⟩, ⟨hv7, hv8⟩, ⟨hv9, hv10⟩, ⟨hv11, hv12⟩, ⟨hv13, hv14⟩, hvw, hvs, hvk, hvc, hvx⟩ := id hv
  intro K
  induction K with
  | zero =>
    intro p F1 hK hi hn ho
    have f100 : F1 100 = F 100 := ho 100 (by decide)
    refine sg_178_89 ?_
    try simp (disch := omega) only [wr_id]
    rw [f100]
    refine cn_i (fun g => by omega) (fun _ => ?_)
    refine hq F1 (RI_n hv hst (RI_k hi (by omega) (fun q s w a b _ _ => ?_))) (fun ⟨p', n', w, r, e⟩ => ?_) ho
    · unfold vs at w
      omega
    · rw [← hh] at w e
      exact hn p' n' w (by unfold vs at w; omega) r e
  | succ K ih =>
    intro p F1 hK hi hn ho
    have f100 : F1 100 = F 100 := ho 100 (by decide)
    have hp' : ((p + 1 : Nat) : Int) = (p : Int) + 1 := by omega
    refine sg_178_89 ?_
    rw [f100]
    refine cn_i (fun _ => ?_) (fun g => by omega)
    refine l_178_103 hv hs hst e31 hB hh h00 h2 (by omega) (by omega) hit (fun F2 a b c => ?_) (st + 1).toNat 0 F1 (by omega) (by rw [show (p : Int) * 13 + ((0 : Nat) : Int) = (p : Int) * 13 by omega]; exact hi) (fun p' n' w d r => hn p' n' w (by unfold vs at w; omega) r) ho
    have ih := ih (p + 1) F2 (by omega) (by rw [hp']; exact a) (by rw [hp']; exact b) c
    rw [hp'] at ih
    exact ih
theorem l_178_75 {Q : Rs → Mm → Prop} {B : Int → Int → Int → Int} {st h0 p0 n0 : Int} {S : FS} {F : FI} {G : FJ} (hv : LV (F 100)) (hs : 0 ≤ st) (hst : st ≤ 12) (e31 : F 97 31 = st) (hB : HB F st B) (h00 : 0 ≤ h0) (h01 : h0 ≤ F 100 3)
    (hq : ∀ F2, (∀ a, a ≠ 126 → F2 a = F a) → Q (.inl (some (.inl (sFst (sHit (F 100) B (sGo (F 100) st) st h0 p0 n0) (F 100 3 - h0 + 1).toNat)))) (mm S F2 G)) :
    ∀ (K t : Nat) (F1 : FI), (K : Int) = F 100 3 + 1 - h0 - t → RI (F 100) B (sGo (F 100) st) st h0 p0 n0 (F1 126) t 0 0 → (∀ i, i < t → ¬ sHit (F 100) B (sGo (F 100) st) st h0 p0 n0 i) → (∀ a, a ≠ 126 → F1 a = F a) → wph 7 178 75 [.inr (.inr (.inl 97)), jk, .inl h0, jk, .inl (h0 + t)] [] (mm S F1 G) (0, 0) Q := by
  obtain ⟨⟨hv1, hv2⟩, ⟨hv3, hv4⟩, ⟨hv5, hv6⟩, ⟨hv7, hv8⟩, ⟨hv9, hv10⟩, ⟨hv11, hv12⟩, ⟨hv13, hv14⟩, hvw, hvs, hvk, hvc, hvx⟩ := id hv
  intro K
  induction K with
  | zero =>
    intro t F1 hK hi hn ho
    have f100 : F1 100 = F 100 := ho 100 (by decide)
    refine sg_178_75 ?_
    rw [f100]
    refine cn_i (fun _ => ?_) (fun g => by omega)
    have := hq F1 ho
    rw [sFst_n (fun i a => hn i (by omega))] at this
    exact this
  | succ K ih =>
    intro t F1 hK hi hn ho
    have f100 : F1 100 = F 100 := ho 100 (by decide)
    refine sg_178_75 ?_
    rw [f100]
    refine cn_i (fun g => by omega) (fun _ => ?_)
    refine l_178_89 hv hs hst e31 hB rfl h00 (by omega) (fun F2 c x => ?_) (fun F2 a b c => ?_) (F 100 0).toNat 0 F1 (by omega) hi (fun p' n' w d => by unfold vs at w; omega) ho
    · have := hq F2 c
      rw [sFst_y x hn (by omega)] at this
      rw [show h0 + (t : Int) - h0 = (t : Int) by omega]
      exact this
    · have ih := ih (t + 1) F2 (by omega) a (fun i d => ?_) c
      · rw [show h0 + ((t + 1 : Nat) : Int) = h0 + (t : Int) + 1 by omega] at ih
        exact ih
      · by_cases z : i = t
        · rw [z]; exact b
        · exact hn i (by omega)
theorem e_178_75 {Q : Rs → Mm → Prop} {B : Int → Int → Int → Int} {st h0 p0 n0 : Int} {S : FS} {F : FI} {G : FJ} (hv : LV (F 100)) (hs : 0 ≤ st) (hst : st ≤ 12) (e31 : F 97 31 = st) (hB : HB F st B) (h00 : 0 ≤ h0) (h01 : h0 ≤ F 100 3)
    (hq : ∀ F2, (∀ a, a ≠ 126 → F2 a = F a) → Q (.inl (some (.inl (sFst (sHit (F 100) B (sGo (F 100) st) st h0 p0 n0) (F 100 3 - h0 + 1).toNat)))) (mm S F2 G))
    (hi : RI (F 100) B (sGo (F 100) st) st h0 p0 n0 (F 126) 0 0 0) : wph 7 178 75 [.inr (.inr (.inl 97)), jk, .inl h0, jk, .inl h0] [] (mm S F G) (0, 0) Q := by
  have z := l_178_75 hv hs hst e31 hB h00 h01 hq (F 100 3 + 1 - h0).toNat 0 F (by omega) hi (fun i a => by omega) (fun _ _ => rfl)
  rw [show h0 + ((0 : Nat) : Int) = h0 by omega] at z
  exact z
set_option maxRecDepth 100000 in
theorem l_178_38 {Q : Rs → Mm → Prop} {p0 h0 n0 : Int} {S : FS} {F : FI} {G : FJ} (h1 : 0 ≤ h0) (h2 : h0 < 25) (h3 : 0 ≤ p0) (h4 : p0 < 12) (h5 : 0 ≤ n0) (h6 : n0 < 13)
    (hq : ∀ F2 : FI, (∀ i : Nat, (i : Int) < 3900 → F2 126 i = if (i : Int) = (h0 * 12 + p0) * 13 + n0 then 1 else 0) → (∀ a, a ≠ 126 → F2 a = F a) → wph 7 178 75 [.inr (.inr (.inl 97)), jk, .inl h0, jk, .inl h0] [] (mm S F2 G) (0, 0) Q) :
    ∀ (K x : Nat) (F1 : FI), (K : Int) = 3900 - x → (∀ i : Nat, i < x → F1 126 i = 0) → (∀ a, a ≠ 126 → F1 a = F a) → wph 7 178 38 [.inr (.inr (.inl 97)), .inl p0, .inl h0, .inl n0, .inl (x : Int)] [] (mm S F1 G) (0, 0) Q := by
  intro K
  induction K with
  | zero =>
    intro x F1 hK hf ho
    refine sg_178_38 ?_
    try simp (disch := omega) only [wr_id]
    refine cn_i (fun g => by omega) (fun g => ?_)
    refine c_123 (by omega) (by omega) (by omega) (by omega) (by omega) (by omega) (fun v e => ?_)
    refine ck_i (by (first | exact jb_i (by (first | assumption | omega | (simp (disch := omega) only [wr_id]; omega))) (by (first | assumption | omega | (simp (disch := omega) only [wr_id]; omega))) | exact jo_i (by omega) | exact jz_i (by omega) | rfl | (simp only [*]; first | rfl | exact jb_i (by (first | assumption | omega | (simp (disch := omega) only [wr_id]; omega))) (by (first | assumption | omega | (simp (disch := omega) only [wr_id]; omega)))))) (hq _ (fun i hi => ?_) (fun a q => by rw [u2_o q]; exact ho a q))
    rw [u2_k]
    by_cases q : i = v.toNat
    · rw [if_pos q, if_pos (by omega)]
    · rw [if_neg q, if_neg (by omega)]; exact hf i (by omega)
  | succ K ih =>
    intro x F1 hK hf ho
    refine sg_178_38 ?_
    try simp (disch := omega) only [wr_id]
    refine cn_i (fun g => ?_) (fun g => by omega)
    refine ck_i (by (first | exact jb_i (by (first | assumption | omega | (simp (disch := omega) only [wr_id]; omega))) (by (first | assumption | omega | (simp (disch := omega) only [wr_id]; omega))) | exact jo_i (by omega) | exact jz_i (by omega) | rfl | (simp only [*]; first | rfl | exact jb_i (by (first | assumption | omega | (simp (disch := omega) only [wr_id]; omega))) (by (first | assumption | omega | (simp (disch := omega) only [wr_id]; omega)))))) (ih (x + 1) _ (by omega) (fun i hi => ?_) (fun a q => by rw [u2_o q]; exact ho a q))
    rw [u2_k]
    by_cases q : i = ((x : Int)).toNat
    · rw [if_pos q]
    · rw [if_neg q]; exact hf i (by omega)
/-- the lawful moves of who leads -/
def sBt (c : Cf) (h p n : Int) : Int := c.2.2.2.1 (c.1 h) h p n
/-- in how many hours they may be there; -1: never -/
noncomputable def sEver (F : FI) (p h n : Int) : Int := sFst (sHit (F 100) (sBt (cBs F)) (sGo (F 100) (F 100 4)) (F 100 4) h p n) (F 100 3 - h + 1).toNat
theorem HB_d {F F1 : FI} {G G1 : FJ} {c : Cf} (hv : LV (F 100)) (hd : RD F F1 G G1 c) (hc : CV (F 100) (F 100 4) c) : HB F1 (F 100 4) (sBt c) := by
  obtain ⟨⟨hv1, hv2⟩, ⟨hv3, hv4⟩, ⟨hv5, hv6⟩, ⟨hv7, hv8⟩, ⟨hv9, hv10⟩, ⟨hv11, hv12⟩, ⟨hv13, hv14⟩, hvw, hvs, hvk, hvc, hvx⟩ := id hv
  obtain ⟨d1, d2, d3, d4, ⟨e1, e2, e3, e4, e5⟩, d6, d7⟩ := hd
  have f100 := d1.1 100 kp100
  intro h p n w he
  rw [f100] at w he
  have w' := w
  unfold vs at w'
  have ce := sEnd_n he
  have cl := hc.1 h (by omega) (by omega)
  have el : F1 114 h.toNat = c.1 h := e1 h (by omega) (by omega)
  have em := e4 (c.1 h) h p n cl.1 cl.2 w he
  have mf := d6.1 (c.1 h) h p n cl.1 cl.2 w he
  have mb := hc.2.2.1 (c.1 h) h p n cl.1 cl.2 (by omega) (by omega) (by omega) (by omega) (by omega) (by omega) he
  rw [el]
  refine ⟨⟨cl.1, by omega⟩, ?_, mb.1, mb.2.1⟩
  exact mf.trans em
theorem q_178 {k : Int → FS → FI → FJ → Prop} {x1 x2 x3 : Int} {S : FS} {F : FI} {G : FJ} (hM : F 97 12 ≠ 0 → MV F G) (noL : F 97 12 = 0 → k 0 S (rfs (zF F) 2 3) G) (noA : F 97 12 ≠ 0 → ¬ isSt (F 100) x1 x2 x3 → k 0 S (rfs (zF F) 1 2) G)
    (ok : F 97 12 ≠ 0 → isSt (F 100) x1 x2 x3 → ∀ F' G', QP F F' G G' → k (sEver F x1 x2 x3) S F' G') : calI 7 178 [.inr (.inr (.inl 97)), .inl x1, .inl x2, .inl x3] (mm S F G) k nof := by
  refine sg_178_0 ?_
  rw [show u2 F 97 0 0 = zF F from rfl]
  refine c_109 z_0 (by decide) (fun hl => cn_1 ?_) (fun hl => cn_0 ⟨_, _, _, rfl, noL (here_z hl)⟩)
  have hl := here_n hl
  have hm := hM hl
  have hv := hm.1
  have hz := MV_z hm
  obtain ⟨⟨hv1, hv2⟩, ⟨hv3, hv4⟩, ⟨hv5, hv6⟩, ⟨hv7, hv8⟩, ⟨hv9, hv10⟩, ⟨hv11, hv12⟩, ⟨hv13, hv14⟩, hvw, hvs, hvk, hvc, hvx⟩ := id hv
  have e0 : zF F 100 = F 100 := z_n (by decide)
  have cv : CV (F 100) (F 100 4) (cBs F) := sCf_v (w := mL F) (F 100 4) hv hm.2.1
  refine c_149 (by rw [e0]; omega) (by rw [e0]; omega) (fun ha => ?_) (fun ha => ?_)
  · rw [e0] at ha
    have ha' := ha
    unfold isSt at ha'
    refine c_69 z_0 (by decide) (by decide) (by decide) (fun _ => cn_1 ?_) (fun q => absurd q (by decide))
    refine c_143 hz (fun F1 G1 hd => ?_)
    rw [show sCf (zF F 100) (zF F 112) (mL (zF F)) = cBs F from z_B F] at hd
    have hb := HB_d (by rw [e0]; exact hv) hd (by rw [e0]; exact cv)
    rw [e0] at hb
    have f100 : F1 100 = F 100 := (hd.1.1 100 kp100).trans e0
    have f31 : F1 97 31 = F 100 4 := hd.2.2.2.1.trans (by rw [e0])
    refine l_178_38 (by omega) (by omega) (by omega) (by omega) (by omega) (by omega) (fun F2 h2 ho => ?_) 3900 0 F1 (by omega) (fun i a => by omega) (fun _ _ => rfl)
    have g100 : F2 100 = F 100 := (ho 100 (by decide)).trans f100
    have g31 : F2 97 31 = F 100 4 := by rw [ho 97 (by decide)]; exact f31
    have hb2 : HB F2 (F 100 4) (sBt (cBs F)) := by
      unfold HB at hb ⊢
      rw [g100, ho 114 (by decide), ho 116 (by decide)]
      rw [f100] at hb
      exact hb
    refine e_178_75 (B := sBt (cBs F)) (st := F 100 4) (by rw [g100]; exact hv) (by omega) (by omega) g31 hb2 (by omega) (by rw [g100]; omega) (fun F3 ho3 => ⟨_, _, _, rfl, ?_⟩) (by rw [g100]; exact RI_0 hv (by omega) (vs_of ha) h2)
    rw [g100]
    have k2 : ∀ a, a ≠ 126 → F3 a = F1 a := fun a q => (ho3 a q).trans (ho a q)
    have f97 : F3 97 = F1 97 := k2 97 (by decide)
    refine ok hl ha F3 G1 ⟨⟨fun a h => ?_, fun i h => by rw [f97]; exact hd.1.2.1 i h, hd.1.2.2⟩, ?_, hd.2.2.2.2.2.2⟩
    · rw [k2 a (by unfold kpM at h; omega)]; exact hd.1.1 a h
    · obtain ⟨⟨o1, o2, o3, o4⟩, k1, k3⟩ := RD_K hd rfl
      refine ⟨by unfold OM; rw [f97]; exact ⟨o1, o2, o3, o4⟩, by rw [f97]; exact k1, fun q => ?_⟩
      rw [f97] at q
      have fL : mL F3 = mL F1 := mL_c (by rw [f97]) (k2 _ (by decide)) (k2 _ (by decide)) (k2 _ (by decide)) (k2 _ (by decide))
      rw [k2 100 (by decide), fL]
      exact RDY_c (k3 q) (k2 _ (by decide)) (k2 _ (by decide)) rfl rfl
  · rw [e0] at ha
    exact c_69 z_0 (by decide) (by decide) (by decide) (fun q => absurd rfl q) (fun _ => cn_0 ⟨_, _, _, rfl, noA hl ha⟩)
