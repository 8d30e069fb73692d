/-! ===== the reference answers: of one mind ===== -/
/-- what one would best do -/
noncomputable def sBp (l : Nat → Int) (c : Cf) (st : Int) (B : Int → Int → Int → Int) (h p n k : Int) : Int := bst (fun m => sBr l st h p n m (sW l c st (l 3 - (h + 1)).toNat k)) (B h p n) (l 1 + 1).toNat
def sOm (l : Nat → Int) (c : Cf) (st : Int) (B : Int → Int → Int → Int) (h p n : Int) : Prop := ∀ k, 0 ≤ k → k < l 2 → sBp l c st B h p n k = sBp l c st B h p n 0
/-- the tables as they are wanted here -/
def OT (F : FI) (G : FJ) (c : Cf) (st : Int) (B : Int → Int → Int → Int) : Prop := HB F st B ∧ (∀ h, 0 ≤ h → h < F 100 3 → F 122 h.toNat = sSy (F 100) h) ∧ (∀ i, B5 (G 119 i)) ∧ (∀ k h p n, 0 ≤ k → k < F 100 2 → vs (F 100) st h p n → G 119 (k * 3900 + ((h * 12 + p) * 13 + n)).toNat = sW (F 100) c st (F 100 3 - h).toNat k p n)
theorem c_bp {k : Int → FS → FI → FJ → Prop} {c : Cf} {st h p n j x2 : Int} {B : Int → Int → Int → Int} {S : FS} {F : FI} {G : FJ} (hv : LV (F 100)) (hs : 0 ≤ st) (hst : st ≤ 12) (e31 : F 97 31 = st) (ho : OT F G c st B) (hw : vs (F 100) st h p n) (he : sEnd (F 100) h p n = 0) (h0 : 0 ≤ j) (h1 : j < F 100 2) (e2 : x2 = j * 3900)
    (hk : ∀ v, v = sBp (F 100) c st B h p n j → k v S F G) : calI 3 134 [.inr (.inr (.inl 97)), .inr (.inr (.inl 119)), .inl x2, .inl (B h p n), .inl h, .inl p, .inl n, .inl 0] (mm S F G) k nof := by
  obtain ⟨⟨hv1, hv2⟩, ⟨hv3, hv4⟩, ⟨hv5, hv6⟩, ⟨hv7, hv8⟩, ⟨hv9, hv10⟩, ⟨hv11, hv12⟩, ⟨hv13, hv14⟩, hvw, hvs, hvk, hvc, hvx⟩ := id hv
  obtain ⟨o1, o2, o3, o4⟩ := ho
  obtain ⟨w1, w2, w3, w4, w5, w6⟩ := id hw
  have ce := sEnd_n he
  obtain ⟨b1, b2, b3, b4⟩ := o1 h p n hw he
  refine c_134 hv rfl rfl (by omega) (by omega) (by omega) (by omega) (by omega) (by omega) (by omega) (by omega) (by omega) b3 (by omega) (Or.inl rfl) o2 o3 (fun v e => hk v (e.trans ?_))
  rw [bst_1, e31, e2]
  refine bst_c (fun m m1 m2 _ => ?_)
  refine sBr_c hv hs w3 w4 (by omega) w6 m1 (by omega) hst (fun q s q1 q2 s1 s2 => ?_)
  exact o4 j (h + 1) q s h0 h1 ⟨by omega, by omega, q1, q2, s1, s2⟩
theorem l_195_38 {Q : Rs → Mm → Prop} {c : Cf} {st h p n : Int} {B : Int → Int → Int → Int} {S : FS} {F : FI} {G : FJ} (hv : LV (F 100)) (hs : 0 ≤ st) (hst : st ≤ 12) (e31 : F 97 31 = st) (ho : OT F G c st B) (hw : vs (F 100) st h p n) (he : sEnd (F 100) h p n = 0)
    (h1 : sOm (F 100) c st B h p n → Q (.inl (some (.inl 1))) (mm S F G)) (h2 : ¬ sOm (F 100) c st B h p n → Q (.inl (some (.inl 0))) (mm S F G)) :
    ∀ (K k : Nat), (K : Int) = F 100 2 - k → (∀ j : Int, 0 ≤ j → j < k → sBp (F 100) c st B h p n j = sBp (F 100) c st B h p n 0) → wph 4 195 38 [.inr (.inr (.inl 97)), .inl h, .inl p, .inl n, .inl (B h p n), .inl (sBp (F 100) c st B h p n 0), .inl (k : Int)] [] (mm S F G) (0, 0) Q := by
  obtain ⟨⟨hv1, hv2⟩, ⟨hv3, hv4⟩, ⟨hv5, hv6⟩, ⟨hv7, hv8⟩, ⟨hv9, hv10⟩, ⟨hv11, hv12⟩, ⟨hv13, hv14⟩, hvw, hvs, hvk, hvc, hvx⟩ := id hv
  intro K
  induction K with
  | zero =>
    intro k hK hp
    refine sg_195_38 ?_
    exact cn_i (fun g => by omega) (fun _ => h1 (fun j a b => hp j a (by omega)))
  | succ K ih =>
    intro k hK hp
    refine sg_195_38 ?_
    refine cn_i (fun _ => ?_) (fun g => by omega)
    try simp (disch := omega) only [wr_id]
    refine c_bp hv hs hst e31 ho hw he (j := k) (by omega) (by omega) rfl (fun v e => ?_)
    subst e
    refine cn_i (fun g => ?_) (fun g => h2 (fun r => g (r k (by omega) (by omega))))
    have ih := ih (k + 1) (by omega) (fun j a b => by
      by_cases z : j = k
      · rw [z]; exact g
      · exact hp j a (by omega))
    rw [show ((k + 1 : Nat) : Int) = (k : Int) + 1 by omega] at ih
    exact ih
theorem c_195 {k : Int → FS → FI → FJ → Prop} {c : Cf} {st h p n : Int} {B : Int → Int → Int → Int} {S : FS} {F : FI} {G : FJ} (hv : LV (F 100)) (hs : 0 ≤ st) (hst : st ≤ 12) (e31 : F 97 31 = st) (ho : OT F G c st B) (hw : vs (F 100) st h p n) (he : sEnd (F 100) h p n = 0)
    (h1 : sOm (F 100) c st B h p n → k 1 S F G) (h2 : ¬ sOm (F 100) c st B h p n → k 0 S F G) : calI 4 195 [.inr (.inr (.inl 97)), .inl h, .inl p, .inl n] (mm S F G) k nof := by
  obtain ⟨⟨hv1, hv2⟩, ⟨hv3, hv4⟩, ⟨hv5, hv6⟩, ⟨hv7, hv8⟩, ⟨hv9, hv10⟩, ⟨hv11, hv12⟩, ⟨hv13, hv14⟩, hvw, hvs, hvk, hvc, hvx⟩ := id hv
  obtain ⟨w1, w2, w3, w4, w5, w6⟩ := id hw
  have ce := sEnd_n he
  obtain ⟨b1, b2, b3, b4⟩ := ho.1 h p n hw he
  refine sg_195_0 ?_
  refine ck_i (by (first | exact jb_i (by (first | assumption | omega | (simp (disch := omega) only [wr_id]; omega))) (by (first | assumption | omega | (simp (disch := omega) only [wr_id]; omega))) | exact jo_i (by omega) | exact jz_i (by omega) | rfl | (simp only [*]; first | rfl | exact jb_i (by (first | assumption | omega | (simp (disch := omega) only [wr_id]; omega))) (by (first | assumption | omega | (simp (disch := omega) only [wr_id]; omega)))))) ?_
  refine c_123 (by omega) (by omega) (by omega) (by omega) (by omega) (by omega) (fun _ ev => ?_)
  subst ev
  refine c_130 b1.1 b1.2 (by omega) (by omega) (fun v e => ?_)
  rw [b2] at e
  subst e
  refine c_bp hv hs hst e31 ho hw he (j := 0) (by omega) (by omega) rfl (fun v e => ?_)
  subst e
  exact l_195_38 hv hs hst e31 ho hw he (fun r => ⟨_, _, _, rfl, h1 r⟩) (fun r => ⟨_, _, _, rfl, h2 r⟩) (F 100 2 - 1).toNat 1 (by omega) (fun j a b => by rw [show j = 0 by omega])
theorem mk1 {g g' : Int} {e A : Prop} [Decidable e] (hg : g = 0 ∨ g = 1) (h : g' = if e then 1 else g) (hA : e ↔ A) : (g' = 0 ∨ g' = 1) ∧ (g' = 1 ↔ g = 1 ∨ A) := by
  rw [h]
  by_cases q : e
  · rw [if_pos q]; exact ⟨Or.inr rfl, fun _ => Or.inr (hA.1 q), fun _ => rfl⟩
  · rw [if_neg q]; exact ⟨hg, fun x => Or.inl x, fun x => x.elim id (fun y => absurd (hA.2 y) q)⟩
set_option maxRecDepth 100000 in
theorem l_196_155 {Q : Rs → Mm → Prop} {B : Int → Int → Int → Int} {st h0 p0 n0 h p n cnt : Int} {t : Nat} {S : FS} {F : FI} {G : FJ} (hv : LV (F 100)) (hs : 0 ≤ st) (hst : st ≤ 12) (e31 : F 97 31 = st) (hh : h = h0 + t) (h00 : 0 ≤ h0) (hw : vs (F 100) st h p n) (he : sEnd (F 100) h p n = 0) (hr : sRe (F 100) B (sMy (F 100) st) st h0 p0 n0 t p n) (hb0 : 0 ≤ B h p n ∧ B h p n < 33554432)
    (hq : ∀ F2, RI (F 100) B (sMy (F 100) st) st h0 p0 n0 (F2 126) t (p * 13 + n + 1) 0 → (∀ a, a ≠ 126 → F2 a = F a) → wph 8 196 80 [.inr (.inr (.inl 97)), .inl cnt, .inl h, .inl p, .inl (n + 1)] [] (mm S F2 G) (0, 0) Q) :
    ∀ (K m : Nat) (F1 : FI), (K : Int) = F 100 1 + 1 - m → RI (F 100) B (sMy (F 100) st) st h0 p0 n0 (F1 126) t (p * 13 + n) m → (∀ a, a ≠ 126 → F1 a = F a) → wph 8 196 155 [.inr (.inr (.inl 97)), .inl cnt, .inl h, .inl p, .inl n, .inl (B h p n), .inl (m : Int)] [] (mm S F1 G) (0, 0) Q := by
  obtain ⟨⟨hv1, hv2⟩, ⟨hv3, hv4⟩, ⟨hv5, hv6⟩, ⟨hv7, hv8⟩, ⟨hv9, hv10⟩, ⟨hv11, hv12⟩, ⟨hv13, hv14⟩, hvw, hvs, hvk, hvc, hvx⟩ := id hv
  obtain ⟨w1, w2, w3, w4, w5, w6⟩ := id hw
  have ce := sEnd_n he
  intro K
  induction K with
  | zero =>
    intro m F1 hK hi ho
    have f100 : F1 100 = F 100 := ho 100 (by decide)
    refine sg_196_155 ?_
    try simp (disch := omega) only [wr_id]
    rw [f100]
    refine cn_i (fun _ => ?_) (fun g => by omega)
    exact hq F1 (RI_e hi (by omega)) ho
  | succ K ih =>
    intro m F1 hK hi ho
    have f100 : F1 100 = F 100 := ho 100 (by decide)
    have f31 : F1 97 31 = st := by rw [ho 97 (by decide)]; exact e31
    have hm' : ((m + 1 : Nat) : Int) = (m : Int) + 1 := by omega
    have ab := sAf_b (l := F 100) (q := p) (st := st) (n := n) hs hst (by omega) (by omega)
    have nx : bit (B h p n) m → ∀ F2 : FI, (∀ a, a ≠ 126 → F2 a = F1 a) → (∀ h' p' n', vs (F 100) st h' p' n' → h' = h + 1 → (F2 126 ((h' * 12 + p') * 13 + n').toNat = 0 ∨ F2 126 ((h' * 12 + p') * 13 + n').toNat = 1) ∧ (F2 126 ((h' * 12 + p') * 13 + n').toNat = 1 ↔ F1 126 ((h' * 12 + p') * 13 + n').toNat = 1 ∨ sMy (F 100) st h p n m p' n')) →
        (∀ h' p' n', vs (F 100) st h' p' n' → h' ≠ h + 1 → F2 126 ((h' * 12 + p') * 13 + n').toNat = F1 126 ((h' * 12 + p') * 13 + n').toNat) → wph 8 196 155 [.inr (.inr (.inl 97)), .inl cnt, .inl h, .inl p, .inl n, .inl (B h p n), .inl ((m : Int) + 1)] [] (mm S F2 G) (0, 0) Q := by
      intro hb F2 o2 g1 g2
      have ih := ih (m + 1) F2 (by omega) (by
        rw [hm']
        rw [hh] at hw he hb g1 g2
        exact RI_s hst hi hw hr he ⟨by omega, by omega, hb⟩ h00 g1 g2) (fun a ha => (o2 a ha).trans (ho a ha))
      rw [hm'] at ih
      exact ih
    refine sg_196_155 ?_
    try simp (disch := omega) only [wr_id]
    rw [f100]
    refine cn_i (fun g => by omega) (fun _ => ?_)
    refine cn_i (fun g => ?_) (fun g => ?_)
    · have nb := (bit_z hb0.1 (by omega) (by omega) (by omega)).1 g
      have ih := ih (m + 1) F1 (by omega) (by
        rw [hm']
        rw [hh] at hw nb
        exact RI_b hst hw hi nb) ho
      rw [hm'] at ih
      exact ih
    · have hb : bit (B h p n) m := Classical.byContradiction fun r => g ((bit_z hb0.1 (by omega) (by omega) (by omega)).2 r)
      have nx := nx hb
      have i01 : ∀ h' p' n', vs (F 100) st h' p' n' → F1 126 ((h' * 12 + p') * 13 + n').toNat = 0 ∨ F1 126 ((h' * 12 + p') * 13 + n').toNat = 1 := fun h' p' n' w => (hi h' p' n' w).1
      refine cn_i (fun m0 => ?_) (fun m0 => ?_)
      · refine c_131 (by omega) (by omega) (by omega) (by omega) (by omega) (by omega) (by omega) (fun _ e => ?_)
        subst e
        rw [f100, f31]
        refine ck_i (by (first | exact jb_i (by (first | assumption | omega | (simp (disch := omega) only [wr_id]; omega))) (by (first | assumption | omega | (simp (disch := omega) only [wr_id]; omega))) | exact jo_i (by omega) | exact jz_i (by omega) | rfl | (simp only [*]; first | rfl | exact jb_i (by (first | assumption | omega | (simp (disch := omega) only [wr_id]; omega))) (by (first | assumption | omega | (simp (disch := omega) only [wr_id]; omega)))))) (nx _ (fun a ha => u2_o ha) (fun h' p' n' w e => ?_) (fun h' p' n' w e => ?_))
        · refine mk1 (i01 h' p' n' w) (u2_k _) ?_
          unfold vs at w
          unfold sMy
          omega
        · unfold vs at w
          rw [u2_n (by omega)]
      · have ob := sOth_b (p := p) (w := (m : Int) - 1) hv (by omega) (by omega)
        have ab2 := sAf_b (l := F 100) (q := sOth (F 100) ((m : Int) - 1) p) (st := st) (n := n) hs hst (by omega) (by omega)
        refine ck_i (by (first | exact jb_i (by (first | assumption | omega | (simp (disch := omega) only [wr_id]; omega))) (by (first | assumption | omega | (simp (disch := omega) only [wr_id]; omega))) | exact jo_i (by omega) | exact jz_i (by omega) | rfl | (simp only [*]; first | rfl | exact jb_i (by (first | assumption | omega | (simp (disch := omega) only [wr_id]; omega))) (by (first | assumption | omega | (simp (disch := omega) only [wr_id]; omega)))))) (cn_i (fun z => ?_) (fun z => ?_))
        · have z' : 0 < sSn (F 100) ((m : Int) - 1) h := z
          refine c_131 (by omega) (by omega) (by omega) (by omega) (by omega) (by omega) (by omega) (fun _ e => ?_)
          subst e
          rw [f100, f31]
          refine ck_i (by (first | exact jb_i (by (first | assumption | omega | (simp (disch := omega) only [wr_id]; omega))) (by (first | assumption | omega | (simp (disch := omega) only [wr_id]; omega))) | exact jo_i (by omega) | exact jz_i (by omega) | rfl | (simp only [*]; first | rfl | exact jb_i (by (first | assumption | omega | (simp (disch := omega) only [wr_id]; omega))) (by (first | assumption | omega | (simp (disch := omega) only [wr_id]; omega)))))) (cn_i (fun y => ?_) (fun y => ?_))
          · have y' : sSn (F 100) ((m : Int) - 1) h < 16 := y
            refine c_125 (by omega) (by omega) (fun v e => ?_)
            rw [u2_o (by decide), f100] at e
            subst e
            refine c_131 (by omega) (by omega) (by omega) (by omega) (by omega) (by rw [u2_o (by decide)]; omega) (by rw [u2_o (by decide)]; omega) (fun _ e => ?_)
            rw [u2_o (by decide), u2_o (by decide), f100, f31] at e
            subst e
            refine ck_i (by (first | exact jb_i (by (first | assumption | omega | (simp (disch := omega) only [wr_id]; omega))) (by (first | assumption | omega | (simp (disch := omega) only [wr_id]; omega))) | exact jo_i (by omega) | exact jz_i (by omega) | rfl | (simp only [*]; first | rfl | exact jb_i (by (first | assumption | omega | (simp (disch := omega) only [wr_id]; omega))) (by (first | assumption | omega | (simp (disch := omega) only [wr_id]; omega)))))) (nx _ (fun a ha => by rw [u2_o ha, u2_o ha]) (fun h' p' n' w e => ?_) (fun h' p' n' w e => ?_))
            · have s1 := mk1 (A := p' = p ∧ n' = sAf (F 100) st p n) (i01 h' p' n' w) (u2_k (f := F1) (k := 126) (i := (((h + 1) * 12 + p) * 13 + sAf (F 100) st p n).toNat) (v := 1) ((h' * 12 + p') * 13 + n').toNat) (by unfold vs at w; omega)
              have s2 := mk1 (A := p' = sOth (F 100) ((m : Int) - 1) p ∧ n' = sAf (F 100) st (sOth (F 100) ((m : Int) - 1) p) n) s1.1 (u2_k (f := u2 F1 126 (((h + 1) * 12 + p) * 13 + sAf (F 100) st p n).toNat 1) (k := 126) (i := (((h + 1) * 12 + sOth (F 100) ((m : Int) - 1) p) * 13 + sAf (F 100) st (sOth (F 100) ((m : Int) - 1) p) n).toNat) (v := 1) ((h' * 12 + p') * 13 + n').toNat) (by unfold vs at w; omega)
              refine ⟨s2.1, ?_⟩
              rw [s2.2, s1.2]
              unfold sMy
              constructor
              · rintro ((a | a) | a)
                · exact Or.inl a
                · exact Or.inr (Or.inl ⟨Or.inr z', a⟩)
                · exact Or.inr (Or.inr ⟨⟨by omega, y'⟩, a⟩)
              · rintro (a | ⟨_, a⟩ | ⟨_, a⟩)
                · exact Or.inl (Or.inl a)
                · exact Or.inl (Or.inr a)
                · exact Or.inr a
            · unfold vs at w
              rw [u2_n (by omega), u2_n (by omega)]
          · refine nx _ (fun a ha => u2_o ha) (fun h' p' n' w e => ?_) (fun h' p' n' w e => ?_)
            · have y' : ¬ sSn (F 100) ((m : Int) - 1) h < 16 := y
              refine mk1 (i01 h' p' n' w) (u2_k _) ?_
              unfold vs at w
              unfold sMy
              omega
            · unfold vs at w
              rw [u2_n (by omega)]
        · have z' : ¬ 0 < sSn (F 100) ((m : Int) - 1) h := z
          refine cn_i (fun y => ?_) (fun y => ?_)
          · have y' : sSn (F 100) ((m : Int) - 1) h < 16 := y
            refine c_125 (by omega) (by omega) (fun v e => ?_)
            rw [f100] at e
            subst e
            refine c_131 (by omega) (by omega) (by omega) (by omega) (by omega) (by omega) (by omega) (fun _ e => ?_)
            subst e
            rw [f100, f31]
            refine ck_i (by (first | exact jb_i (by (first | assumption | omega | (simp (disch := omega) only [wr_id]; omega))) (by (first | assumption | omega | (simp (disch := omega) only [wr_id]; omega))) | exact jo_i (by omega) | exact jz_i (by omega) | rfl | (simp only [*]; first | rfl | exact jb_i (by (first | assumption | omega | (simp (disch := omega) only [wr_id]; omega))) (by (first | assumption | omega | (simp (disch := omega) only [wr_id]; omega)))))) (nx _ (fun a ha => u2_o ha) (fun h' p' n' w e => ?_) (fun h' p' n' w e => ?_))
            · refine mk1 (i01 h' p' n' w) (u2_k _) ?_
              unfold vs at w
              unfold sMy
              omega
            · unfold vs at w
              rw [u2_n (by omega)]
          · exact absurd (show sSn (F 100) ((m : Int) - 1) h < 16 by omega) y
