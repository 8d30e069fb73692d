/-! ===== the class: a table is worked, from the last hour back ===== -/
/-- of a table's live hours all that is done and can come is right -/
def TD (G : FJ) (d : Nat) (l : Nat → Int) (g : Cf) (st : Int) (R : Int → Int → Int → Prop) (h p n : Int) : Prop := ∀ h' p' n', vs l st h' p' n' → R h' p' n' → dn h p n h' p' n' → (d = 16 ∨ h' ≤ h + 1) → GS G d l g st h' p' n'
def TMv (F : FI) (d : Nat) (l : Nat → Int) (g : Cf) (st h p n : Int) : Prop := d = 16 → ∀ h' p' n', vs l st h' p' n' → dn h p n h' p' n' → F (d + 2) (sp d h' p' n').toNat = sTk l g st h' p' n'
/-- what can come is closed under moves -/
def RC (l : Nat → Int) (st : Int) (R : Int → Int → Int → Prop) : Prop := ∀ h p n m, vs l st h p n → R h p n → sEnd l h p n = 0 → AM l p m → R (h + 1) (sTo1 l p m) (sAf l st (sTo1 l p m) n)
/-- what a sweep leaves as it is -/
def KE (b d : Nat) (F F0 : FI) : Prop := (∀ c, c ≠ 22 → c ≠ 23 → c ≠ 25 → c ≠ b + 4 → c ≠ b + 5 → c ≠ d + 2 → F c = F0 c) ∧ ∀ j, j < 8 → F 22 j = F0 22 j
theorem KE_r {b d : Nat} {F : FI} : KE b d F F := ⟨fun _ _ _ _ _ _ _ => rfl, fun _ _ => rfl⟩
theorem KE_t {b d : Nat} {F F1 F2 : FI} (h1 : KE b d F1 F) (h2 : KE b d F2 F1) : KE b d F2 F := ⟨fun c a1 a2 a3 a4 a5 a6 => (h2.1 c a1 a2 a3 a4 a5 a6).trans (h1.1 c a1 a2 a3 a4 a5 a6), fun j h => (h2.2 j h).trans (h1.2 j h)⟩
theorem YX_e {S : FS} {F F' : FI} {G G' : FJ} {a b c d : Nat} {l : Nat → Int} {w : La} {st : Int} (h : YX S F G a b c d l w st) (hF : KE b d F' F) (hG : ∀ i, i ≠ d + 1 → G' i = G i) : YX S F' G' a b c d l w st := YX_k h hF.1 hG
theorem SR_e {F F' : FI} {b d e : Nat} {l : Nat → Int} {w : La} {c : Cf} (h : SR F e l w c) (he : oC e) (hb : oW b) (hd : oT d) (hF : KE b d F' F) : SR F' e l w c := SR_c h (fun i hi => hF.1 _ (by omega) (by omega) (by omega) (by omega) (by omega) (by omega))
theorem TD_n {G : FJ} {d : Nat} {l : Nat → Int} {g : Cf} {st : Int} {R : Int → Int → Int → Prop} {h p n : Int} (ht : TD G d l g st R h p n) (hn : st < n) : TD G d l g st R h (p + 1) 0 := by
  intro h' p' n' hw hr hd hl
  refine ht h' p' n' hw hr ?_ hl
  unfold vs at hw
  unfold dn at hd ⊢
  omega
theorem TD_p {G : FJ} {d : Nat} {l : Nat → Int} {g : Cf} {st : Int} {R : Int → Int → Int → Prop} {h p : Int} (ht : TD G d l g st R h p 0) (hp : l 0 ≤ p) : TD G d l g st R (h - 1) 0 0 := by
  intro h' p' n' hw hr hd hl
  unfold vs at hw
  unfold dn at hd
  refine ht h' p' n' ?_ hr ?_ ?_
  · unfold vs
    omega
  · unfold dn
    omega
  · omega
theorem TD_k {G : FJ} {d : Nat} {l : Nat → Int} {g : Cf} {st : Int} {R : Int → Int → Int → Prop} {h p n : Int} (ht : TD G d l g st R h p n) (hn : ¬ R h p n) : TD G d l g st R h p (n + 1) := by
  intro h' p' n' hw hr hd hl
  refine ht h' p' n' hw hr ?_ hl
  unfold dn at hd ⊢
  by_cases c : h' = h ∧ p' = p ∧ n' = n
  · rw [c.1, c.2.1, c.2.2] at hr
    exact absurd hr hn
  · omega
theorem TD_s {G G' : FJ} {d : Nat} {l : Nat → Int} {g : Cf} {st : Int} {R : Int → Int → Int → Prop} {h p n : Int} (hv : LV l) (hd : oT d) (hst : st ≤ 12) (hw : vs l st h p n) (ht : TD G d l g st R h p n) (hG : GX G' G d (sp d h p n)) (hs : GS G' d l g st h p n) : TD G' d l g st R h p (n + 1) := by
  obtain ⟨⟨hv1, hv2⟩, ⟨hv3, hv4⟩, ⟨hv5, hv6⟩, ⟨hv7, hv8⟩, ⟨hv9, hv10⟩, ⟨hv11, hv12⟩, ⟨hv13, hv14⟩, hvw, hvs, hvk, hvc, hvx⟩ := id hv
  intro h' p' n' hw' hr hdn hl
  by_cases c : h' = h ∧ p' = p ∧ n' = n
  · rw [c.1, c.2.1, c.2.2]
    exact hs
  · have hdn' : dn h p n h' p' n' := by
      unfold dn at hdn ⊢
      omega
    have old := ht h' p' n' hw' hr hdn' hl
    intro o ho
    have ho' := ho
    unfold YV at ho'
    unfold vs at hw hw'
    unfold dn at hdn'
    have ne := sp_n (h := h) (h' := h') (p := p) (n := n) (q := p') (s := n') hd (by omega) (by omega) (by omega) (by omega) (by omega) (by omega) (by omega) (by omega) (by omega) (by omega)
    have b1 := sp_b (h := h') (p := p') (n := n') hd (by omega) (by omega) (by omega) (by omega) (by omega) (by omega)
    have b2 := sp_b (h := h) (p := p) (n := n) hd (by omega) (by omega) (by omega) (by omega) (by omega) (by omega)
    rw [hG.2 _ (by omega)]
    exact old o ho
theorem TM_n {F : FI} {d : Nat} {l : Nat → Int} {g : Cf} {st h p n : Int} (ht : TMv F d l g st h p n) (hn : st < n) : TMv F d l g st h (p + 1) 0 := by
  intro e h' p' n' hw hd
  refine ht e h' p' n' hw ?_
  unfold vs at hw
  unfold dn at hd ⊢
  omega
theorem TM_p {F : FI} {d : Nat} {l : Nat → Int} {g : Cf} {st h p : Int} (ht : TMv F d l g st h p 0) (hp : l 0 ≤ p) : TMv F d l g st (h - 1) 0 0 := by
  intro e h' p' n' hw hd
  refine ht e h' p' n' hw ?_
  unfold vs at hw
  unfold dn at hd ⊢
  omega
theorem TM_s {F F' : FI} {b d : Nat} {l : Nat → Int} {g : Cf} {st h p n : Int} (hv : LV l) (hd : oT d) (hst : st ≤ 12) (hw : vs l st h p n) (ht : TMv F d l g st h p n) (hF : KD b d (sp d h p n) F' F) (hs : F' (d + 2) (sp d h p n).toNat = sTk l g st h p n) : TMv F' d l g st h p (n + 1) := by
  obtain ⟨⟨hv1, hv2⟩, ⟨hv3, hv4⟩, ⟨hv5, hv6⟩, ⟨hv7, hv8⟩, ⟨hv9, hv10⟩, ⟨hv11, hv12⟩, ⟨hv13, hv14⟩, hvw, hvs, hvk, hvc, hvx⟩ := id hv
  intro e h' p' n' hw' hdn
  by_cases c : h' = h ∧ p' = p ∧ n' = n
  · rw [c.1, c.2.1, c.2.2]
    exact hs
  · have hdn' : dn h p n h' p' n' := by
      unfold dn at hdn ⊢
      omega
    rw [← ht e h' p' n' hw' hdn']
    unfold vs at hw hw'
    unfold dn at hdn'
    have ne := sp_n (h := h) (h' := h') (p := p) (n := n) (q := p') (s := n') hd (by omega) (by omega) (by omega) (by omega) (by omega) (by omega) (by omega) (by omega) (by omega) (by omega)
    have b1 := sp_b (h := h') (p := p') (n := n') hd (by omega) (by omega) (by omega) (by omega) (by omega) (by omega)
    exact hF.2.2 _ (by omega)
theorem TD_y {G : FJ} {d : Nat} {l : Nat → Int} {g : Cf} {st : Int} {R : Int → Int → Int → Prop} {h p n : Int} (hv : LV l) (hs : 0 ≤ st) (hst : st ≤ 12) (hw : vs l st h p n) (ht : TD G d l g st R h p n) (hr : R h p n) (hc : RC l st R) (he : sEnd l h p n = 0) : YS G d l g st h p n := by
  have hv' := hv
  obtain ⟨⟨hv1, hv2⟩, ⟨hv3, hv4⟩, ⟨hv5, hv6⟩, ⟨hv7, hv8⟩, ⟨hv9, hv10⟩, ⟨hv11, hv12⟩, ⟨hv13, hv14⟩, hvw, hvs, hvk, hvc, hvx⟩ := id hv
  obtain ⟨c1, c2⟩ := sEnd_n he
  obtain ⟨w1, w2, w3, w4, w5, w6⟩ := id hw
  have one : ∀ m, AM l p m → ∀ o, YV l g o → G (d + 1) (sp d (h + 1) (sTo1 l p m) (sAf l st (sTo1 l p m) n) * 12 + o).toNat = fC l g st (l 3 - (h + 1)).toNat o (sTo1 l p m) (sAf l st (sTo1 l p m) n) := by
    intro m am
    have tb := sTo1_a hv w3 w4 am
    have ab := sAf_b (l := l) (st := st) (q := sTo1 l p m) (n := n) hs hst (by omega) w6
    exact ht (h + 1) _ _ ⟨by omega, by omega, tb.1, tb.2, ab.1, ab.2⟩ (hc h p n m hw hr he am) (Or.inl (by omega)) (Or.inr (by omega))
  intro q hq o ho
  rcases hq with hq | ⟨m, am, m1, hq⟩
  · have := one 0 (Or.inl rfl) o ho
    rw [hq]
    exact this
  · have := one m am o ho
    unfold sTo1 at this
    rw [if_neg (by omega), ← hq] at this
    exact this
theorem l_257_102 {Q : Rs → Mm → Prop} {a b c d : Nat} {l : Nat → Int} {w : La} {g : Cf} {R : Int → Int → Int → Prop} {st x4 x5 x6 x7 : Int} {S : FS} {F F0 : FI} {G G0 : FJ} (hx : YX S F0 G0 a b c d l w st) (hr : SR F0 c l w g) (hc : CV l st g) (hcw : CW l g) (hR : RC l st R) (h4 : 0 ≤ x4) (h4' : x4 ≤ l 3) (h5 : 0 ≤ x5) (h5' : x5 < l 0) (h7 : 0 ≤ x7) (h7' : x7 ≤ st + 1)
    (h6 : 0 ≤ x6) (h6' : x6 < 2147483648) (hb6 : ∀ n, 0 ≤ n → n ≤ 12 → (bit x6 n ↔ R x4 x5 n)) (hF : KE b d F F0) (hG : ∀ i, i ≠ d + 1 → G i = G0 i) (hmc : MC (F 23) l w) (ht : TD G d l g st R x4 x5 x7) (hm : TMv F d l g st x4 x5 x7) (hdR : d = 16 → ∀ h p n, R h p n)
    (hk : ∀ F' G', KE b d F' F0 → (∀ i, i ≠ d + 1 → G' i = G0 i) → MC (F' 23) l w → TD G' d l g st R x4 (x5 + 1) 0 → TMv F' d l g st x4 (x5 + 1) 0 → wph 6 257 56 [.inr (.inr (.inl 22)), jk, jk, jk, .inl x4, .inl (x5 + 1)] [] (mm S F' G') (0, 0) Q) :
    wph 6 257 102 [.inr (.inr (.inl 22)), jk, jk, jk, .inl x4, .inl x5, .inl x6, .inl x7] [] (mm S F G) (0, 0) Q := by
  have hxF := YX_e hx hF hG
  obtain ⟨ha, hb, hc', hd, ⟨s0, s1, s2, s3⟩, hv, hw', hl, hrw, hst', htw, hs1, hs2⟩ := id hxF
  have hv' := hv
  obtain ⟨⟨hv1, hv2⟩, ⟨hv3, hv4⟩, ⟨hv5, hv6⟩, ⟨hv7, hv8⟩, ⟨hv9, hv10⟩, ⟨hv11, hv12⟩, ⟨hv13, hv14⟩, hvw, hvs, hvk, hvc, hvx⟩ := id hv
  refine sg_257_102 ?_
  simp only [s2, ck_ hc', ck1 hc', ck2 hc', ck3 hc', ck4 hc', cr0 hc', cr1 hc', cr2 hc', cr3 hc', hst']
  rw [wr_id (a := x7 + 1) (by omega) (by omega), wr_id (a := x5 + 1) (by omega) (by omega)]
  refine ck_i rfl (cn_i (fun z => ?_) (fun z => cn_i (fun y => ?_) (fun y => ?_)))
  · exact hk F G hF hG hmc (TD_n ht z) (TM_n hm z)
  · rw [bit_z h6 h6' h7 (by omega), hb6 x7 h7 (by omega)] at y
    refine l_257_102 hx hr hc hcw hR h4 h4' h5 h5' (by omega) (by omega) h6 h6' hb6 hF hG hmc (TD_k ht y) (fun e => absurd (hdR e x4 x5 x7) y) hdR hk
  · rw [bit_z h6 h6' h7 (by omega), Classical.not_not, hb6 x7 h7 (by omega)] at y
    have hw : vs l st x4 x5 x7 := ⟨h4, h4', h5, h5', h7, by omega⟩
    refine c_260 hxF (SR_e hr hc' hb hd hF) hc hcw hmc hw (fun he => TD_y hv hs1 hs2 hw ht y hR he) (fun F' G' k1 mc1 g1 g2 m1 => ?_)
    refine l_257_102 hx hr hc hcw hR h4 h4' h5 h5' (by omega) (by omega) h6 h6' hb6 (KE_t hF ⟨k1.1, k1.2.1⟩) (fun i hi => (g1.1 i hi).trans (hG i hi)) mc1 (TD_s hv hd hs2 hw ht g1 g2) (TM_s hv hd hs2 hw hm k1 m1) hdR hk
termination_by (st + 1 - x7).toNat
decreasing_by all_goals omega
theorem bit_81 : ∀ n : Nat, n ≤ 12 → (8191 : Nat).testBit n = true := by decide
theorem l_257_56 {Q : Rs → Mm → Prop} {a b c d : Nat} {l : Nat → Int} {w : La} {g : Cf} {R : Int → Int → Int → Prop} {st x4 x5 : Int} {S : FS} {F F0 : FI} {G G0 : FJ} (hx : YX S F0 G0 a b c d l w st) (hr : SR F0 c l w g) (hc : CV l st g) (hcw : CW l g) (hR : RC l st R) (h4 : 0 ≤ x4) (h4' : x4 ≤ l 3) (h5 : 0 ≤ x5) (h5' : x5 ≤ l 0)
    (hF : KE b d F F0) (hG : ∀ i, i ≠ d + 1 → G i = G0 i) (hmc : MC (F 23) l w) (ht : TD G d l g st R x4 x5 0) (hm : TMv F d l g st x4 x5 0) (hdR : d = 16 → ∀ h p n, R h p n) (hdr : d = 19 → RB (F0 24) ∧ ∀ h p n, R h p n ↔ Rm (F0 24) h p n)
    (hk : ∀ F' G', KE b d F' F0 → (∀ i, i ≠ d + 1 → G' i = G0 i) → MC (F' 23) l w → TD G' d l g st R (x4 - 1) 0 0 → TMv F' d l g st (x4 - 1) 0 0 → wph 6 257 48 [.inr (.inr (.inl 22)), jk, jk, jk, .inl (x4 - 1)] [] (mm S F' G') (0, 0) Q) :
    wph 6 257 56 [.inr (.inr (.inl 22)), jk, jk, jk, .inl x4, .inl x5] [] (mm S F G) (0, 0) Q := by
  have hxF := YX_e hx hF hG
  obtain ⟨ha, hb, hc', hd, ⟨s0, s1, s2, s3⟩, hv, hw', hl, hrw, hst', htw, hs1, hs2⟩ := id hxF
  have hv' := hv
  obtain ⟨⟨hv1, hv2⟩, ⟨hv3, hv4⟩, ⟨hv5, hv6⟩, ⟨hv7, hv8⟩, ⟨hv9, hv10⟩, ⟨hv11, hv12⟩, ⟨hv13, hv14⟩, hvw, hvs, hvk, hvc, hvx⟩ := id hv
  have next : ∀ F' G', KE b d F' F0 → (∀ i, i ≠ d + 1 → G' i = G0 i) → MC (F' 23) l w → TD G' d l g st R x4 (x5 + 1) 0 → TMv F' d l g st x4 (x5 + 1) 0 → x5 < l 0 → wph 6 257 56 [.inr (.inr (.inl 22)), jk, jk, jk, .inl x4, .inl (x5 + 1)] [] (mm S F' G') (0, 0) Q := by
    intro F' G' k1 k2 k3 k4 k5 z
    exact l_257_56 hx hr hc hcw hR h4 h4' (by omega) (by omega) k1 k2 k3 k4 k5 hdR hdr hk
  refine sg_257_56 ?_
  have z1 : wr (wr (x4 * 12) + x5) = x4 * 12 + x5 := by
    rw [wr_id (a := x4 * 12) (by omega) (by omega), wr_id (by omega) (by omega)]
  simp only [s0, s3, lk ha, lk1 ha, lk2 ha, lk3 ha, lk4 ha, lk5 ha, lk6 ha, lk7 ha, lk8 ha, lk9 ha, lr0 ha, lr1 ha, lr2 ha, lr3 ha, lr4 ha, lr5 ha, lr6 ha, lr7 ha, lr8 ha, tk hd, tk1 hd, tk2 hd, tr1 hd, tr2 hd, hl.1.1, htw, z1]
  refine ck_i rfl (cn_i (fun z => ?_) (fun z => ?_))
  · refine ck_i rfl ?_
    rcases hd with e | e
    · refine cd_f (by rw [e]; decide) ?_
      refine l_257_102 hx hr hc hcw hR h4 h4' h5 z (by omega) (by omega) (by omega) (by omega) (fun n n0 n1 => ?_) hF hG hmc ht hm hdR (fun F' G' k1 k2 k3 k4 k5 => next F' G' k1 k2 k3 k4 k5 z)
      obtain ⟨N, rfl⟩ := Int.eq_ofNat_of_zero_le n0
      rw [show (8191 : Int) = ((8191 : Nat) : Int) from rfl, bit_tb]
      exact ⟨fun _ => hdR e _ _ _, fun _ => bit_81 N (by omega)⟩
    · refine cd_t (by rw [e]; rfl) ?_
      have e24 : F 24 = F0 24 := hF.1 24 (by decide) (by decide) (by decide) (by omega) (by omega) (by omega)
      obtain ⟨rb, rm⟩ := hdr e
      have b0 := rb (x4 * 12 + x5).toNat (by omega)
      rw [e24]
      refine ck_i (jb_i (by omega) (by omega)) ?_
      refine l_257_102 hx hr hc hcw hR h4 h4' h5 z (by omega) (by omega) b0.1 (by omega) (fun n n0 n1 => ?_) hF hG hmc ht hm hdR (fun F' G' k1 k2 k3 k4 k5 => next F' G' k1 k2 k3 k4 k5 z)
      rw [rm]
      rfl
  · rw [wr_id (a := x4 + -1) (by omega) (by omega), show x4 + -1 = x4 - 1 by omega]
    exact hk F G hF hG hmc (TD_p ht (by omega)) (TM_p hm (by omega))
termination_by (l 0 - x5).toNat
decreasing_by omega
theorem l_257_48 {Q : Rs → Mm → Prop} {a b c d : Nat} {l : Nat → Int} {w : La} {g : Cf} {R : Int → Int → Int → Prop} {st x4 : Int} {S : FS} {F F0 : FI} {G G0 : FJ} (hx : YX S F0 G0 a b c d l w st) (hr : SR F0 c l w g) (hc : CV l st g) (hcw : CW l g) (hR : RC l st R) (h4 : -1 ≤ x4) (h4' : x4 ≤ l 3)
    (hF : KE b d F F0) (hG : ∀ i, i ≠ d + 1 → G i = G0 i) (hmc : MC (F 23) l w) (ht : TD G d l g st R x4 0 0) (hm : TMv F d l g st x4 0 0) (hdR : d = 16 → ∀ h p n, R h p n) (hdr : d = 19 → RB (F0 24) ∧ ∀ h p n, R h p n ↔ Rm (F0 24) h p n)
    (hk : ∀ F' G', KE b d F' F0 → (∀ i, i ≠ d + 1 → G' i = G0 i) → MC (F' 23) l w → TD G' d l g st R (-1) 0 0 → TMv F' d l g st (-1) 0 0 → Q (.inl none) (mm S F' G')) :
    wph 6 257 48 [.inr (.inr (.inl 22)), jk, jk, jk, .inl x4] [] (mm S F G) (0, 0) Q := by
  have hv := hx.2.2.2.2.2.1
  obtain ⟨⟨hv1, hv2⟩, ⟨hv3, hv4⟩, ⟨hv5, hv6⟩, ⟨hv7, hv8⟩, ⟨hv9, hv10⟩, ⟨hv11, hv12⟩, ⟨hv13, hv14⟩, hvw, hvs, hvk, hvc, hvx⟩ := id hv
  refine sg_257_48 (cn_i (fun z => ?_) (fun z => ?_))
  · rw [show x4 = -1 by omega] at ht hm
    exact hk F G hF hG hmc ht hm
  · exact l_257_56 hx hr hc hcw hR (by omega) h4' (by omega) (by omega) hF hG hmc ht hm hdR hdr (fun F' G' k1 k2 k3 k4 k5 => l_257_48 hx hr hc hcw hR (by omega) (by omega) k1 k2 k3 k4 k5 hdR hdr hk)
termination_by (x4 + 1).toNat
decreasing_by omega
/-- the class looks at a scene and a table -/
abbrev lk2S (S : FS) (c d : Nat) : FS := u2 (u2 S 22 2 c) 22 3 d
/-- the marks are of a store -/
def RK (F : FI) (l : Nat → Int) (st : Int) : Prop := RB (F 24) ∧ RI2 l st (F 24) (fun _ _ _ => True) ∧ Rm (F 24) 0 (l 6) st
/-- the whole table -/
theorem c_257w {k : FS → FI → FJ → Prop} {a b c : Nat} {l : Nat → Int} {w : La} {g : Cf} {st : Int} {S : FS} {F : FI} {G : FJ} (hx : YX (lk2S S c 16) F G a b c 16 l w st) (hr : SR F c l w g) (hc : CV l st g) (hcw : CW l g) (hmc : MC (F 23) l w)
    (hk : ∀ F' G', KE b 16 F' F → (∀ i, i ≠ 17 → G' i = G i) → MC (F' 23) l w → (∀ h p n, vs l st h p n → GS G' 16 l g st h p n) → (∀ h p n, vs l st h p n → F' 18 (sp 16 h p n).toNat = sTk l g st h p n) → k (lk2S S c 16) F' G') : calV 6 257 [.inr (.inr (.inl 22)), .inr (.inr (.inl c)), .inr (.inr (.inl 16)), .inl (l 3)] (mm S F G) k nof := by
  obtain ⟨ha, hb, hc', hd, ⟨s0, s1, s2, s3⟩, hv, hw', hl, hrw, hst', htw, hs1, hs2⟩ := id hx
  have hv' := hv
  obtain ⟨⟨hv1, hv2⟩, ⟨hv3, hv4⟩, ⟨hv5, hv6⟩, ⟨hv7, hv8⟩, ⟨hv9, hv10⟩, ⟨hv11, hv12⟩, ⟨hv13, hv14⟩, hvw, hvs, hvk, hvc, hvx⟩ := id hv
  refine sg_257_0 (sg_255_0 (ck_i (Nat.ble_eq_true_of_le (by omega)) (ck_i rfl ⟨_, _, _, rfl, ?_⟩)))
  have e3 : u2 (u2 S 22 2 c) 22 3 16 22 3 = 16 := u2_s
  simp only [e3, htw]
  refine ck_i rfl (cd_f (by decide) ?_)
  refine l_257_48 (R := fun _ _ _ => True) hx hr hc hcw (fun _ _ _ _ _ _ _ _ => trivial) (by omega) (by omega) KE_r (fun _ _ => rfl) hmc (fun h' p' n' a1 _ a3 _ => ?_) (fun _ h' p' n' a1 a2 => ?_) (fun _ _ _ _ => trivial) (fun e => absurd e (by decide)) (fun F' G' k1 k2 k3 k4 k5 => ⟨_, _, _, rfl, hk F' G' k1 k2 k3 (fun h p n hw => k4 h p n hw trivial (Or.inl (by have := hw.1; omega)) (Or.inl rfl)) (fun h p n hw => k5 rfl h p n hw (Or.inl (by have := hw.1; omega)))⟩)
  · unfold vs at a1
    unfold dn at a3
    omega
  · unfold vs at a1
    unfold dn at a2
    omega
theorem RC_k {F : FI} {l : Nat → Int} {st : Int} (h : RK F l st) : RC l st (Rm (F 24)) := fun h' p n m a b c d => h.2.1 h' p n m a b c d trivial
/-- the rough table: by the marks, from an hour on -/
theorem c_257r {k : FS → FI → FJ → Prop} {a b c : Nat} {l : Nat → Int} {w : La} {g : Cf} {st x3 : Int} {S : FS} {F : FI} {G : FJ} (hx : YX (lk2S S c 19) F G a b c 19 l w st) (hr : SR F c l w g) (hc : CV l st g) (hcw : CW l g) (hmc : MC (F 23) l w) (hrk : F 22 6 = -1 ∨ 0 ≤ F 22 6 ∧ RK F l (F 22 6)) (h3 : -1 ≤ x3) (h3' : x3 ≤ l 3)
    (ht : x3 < l 3 → ∀ p n, vs l st (x3 + 1) p n → GS G 19 l g st (x3 + 1) p n)
    (hk : ∀ F' G', (∀ i, i ≠ 22 → i ≠ 23 → i ≠ 24 → i ≠ 25 → i ≠ b + 4 → i ≠ b + 5 → i ≠ 21 → F' i = F i) → (∀ j, j < 6 → F' 22 j = F 22 j) → F' 22 7 = F 22 7 → (F' 22 6 = st ∧ RK F' l st) → (∀ i, i ≠ 20 → G' i = G i) → MC (F' 23) l w → GS G' 19 l g st 0 (l 6) st → k (lk2S S c 19) F' G') : calV 6 257 [.inr (.inr (.inl 22)), .inr (.inr (.inl c)), .inr (.inr (.inl 19)), .inl x3] (mm S F G) k nof := by
  obtain ⟨ha, hb, hc', hd, ⟨s0, s1, s2, s3⟩, hv, hw', hl, hrw, hst', htw, hs1, hs2⟩ := id hx
  have hv' := hv
  obtain ⟨⟨hv1, hv2⟩, ⟨hv3, hv4⟩, ⟨hv5, hv6⟩, ⟨hv7, hv8⟩, ⟨hv9, hv10⟩, ⟨hv11, hv12⟩, ⟨hv13, hv14⟩, hvw, hvs, hvk, hvc, hvx⟩ := id hv
  refine sg_257_0 (sg_255_0 (ck_i (Nat.ble_eq_true_of_le (by omega)) (ck_i rfl ⟨_, _, _, rfl, ?_⟩)))
  have e3 : u2 (u2 S 22 2 c) 22 3 19 22 3 = 19 := u2_s
  have e2 : u2 (u2 S 22 2 c) 22 3 19 22 2 = c := by rw [u2_n (by decide), u2_s]
  simp only [e3, e2, htw, ck_ hc', ck1 hc', ck2 hc', ck3 hc', ck4 hc', cr0 hc', cr1 hc', cr2 hc', cr3 hc', hst']
  have go : ∀ F1 : FI, (∀ i, i ≠ 22 → i ≠ 24 → F1 i = F i) → (∀ j, j < 6 → F1 22 j = F 22 j) → F1 22 7 = F 22 7 → F1 22 6 = st → RK F1 l st → ∀ Q : Rs → Mm → Prop, (∀ F' G', (∀ i, i ≠ 22 → i ≠ 23 → i ≠ 24 → i ≠ 25 → i ≠ b + 4 → i ≠ b + 5 → i ≠ 21 → F' i = F i) → (∀ j, j < 6 → F' 22 j = F 22 j) → F' 22 7 = F 22 7 → (F' 22 6 = st ∧ RK F' l st) → (∀ i, i ≠ 20 → G' i = G i) → MC (F' 23) l w → GS G' 19 l g st 0 (l 6) st → Q (.inl none) (mm (lk2S S c 19) F' G')) → wph 6 257 48 [.inr (.inr (.inl 22)), jk, jk, jk, .inl x3] [] (mm (lk2S S c 19) F1 G) (0, 0) Q := by
    intro F1 f1 f2 f2' f3 f4 Q hQ
    have hx1 : YX (lk2S S c 19) F1 G a b c 19 l w st := ⟨ha, hb, hc', hd, ⟨s0, s1, s2, s3⟩, hv, hw', LR_c hl (fun i hi => f1 _ (by omega) (by omega)) rfl, WR_c hrw (fun i hi => f1 _ (by omega) (by omega)), by rw [f1 c (by omega) (by omega)]; exact hst', by rw [f1 19 (by omega) (by omega)]; exact htw, hs1, hs2⟩
    refine l_257_48 (R := Rm (F1 24)) hx1 (SR_c hr (fun i hi => f1 _ (by omega) (by omega))) hc hcw (RC_k f4) h3 h3' KE_r (fun _ _ => rfl) (by rw [f1 23 (by decide) (by decide)]; exact hmc) (fun h' p' n' a1 _ a3 a4 => ?_) (fun e => absurd e (by decide)) (fun e => absurd e (by decide)) (fun _ => ⟨f4.1, fun _ _ _ => Iff.rfl⟩) (fun F' G' k1 k2 k3 k4 k5 => ?_)
    · have hh : h' = x3 + 1 := by
        unfold vs at a1
        unfold dn at a3
        omega
      rw [hh] at a1 ⊢
      exact ht (by have := a1.2.1; omega) p' n' a1
    · have e24 : F' 24 = F1 24 := k1.1 24 (by decide) (by decide) (by decide) (by omega) (by omega) (by decide)
      refine hQ F' G' (fun i i1 i2 i3 i4 i5 i6 i7 => (k1.1 i i1 i2 i4 i5 i6 i7).trans (f1 i i1 i3)) (fun j hj => (k1.2 j (by omega)).trans (f2 j hj)) ((k1.2 7 (by decide)).trans f2') ⟨(k1.2 6 (by decide)).trans f3, ?_⟩ k2 k3 (k4 0 (l 6) st ⟨by omega, by omega, hv13, hv14, hs1, Int.le_refl _⟩ f4.2.2 (Or.inl (by omega)) (Or.inr (by omega)))
      unfold RK
      rw [e24]
      exact f4
  refine ck_i rfl (cd_t rfl (ck_i rfl (cn_i (fun z => ?_) (fun z => ?_))))
  · have hh : RK F l st := by
      rcases hrk with u | u
      · omega
      · rw [z] at u
        exact u.2
    exact go F (fun _ _ _ => rfl) (fun _ _ => rfl) rfl z hh _ (fun F' G' k1 k2 k2' k3 k4 k5 k6 => ⟨_, _, _, rfl, hk F' G' k1 k2 k2' k3 k4 k5 k6⟩)
  · refine c_258 hx (fun F1 k1 rb ri rs => ?_)
    have e2c : F1 c 4 = st := by rw [k1 c (by omega)]; exact hst'
    simp only [e2, ck_ hc', ck1 hc', ck2 hc', ck3 hc', ck4 hc', cr0 hc', cr1 hc', cr2 hc', cr3 hc', e2c]
    refine ck_i rfl (go _ (fun i i1 i2 => by rw [u2_o i1]; exact k1 i i2) (fun j hj => by rw [u2_n (by omega), k1 22 (by decide)]) (by rw [u2_n (by omega), k1 22 (by decide)]) u2_s ?_ _ (fun F' G' k1 k2 k2' k3 k4 k5 k6 => ⟨_, _, _, rfl, hk F' G' k1 k2 k2' k3 k4 k5 k6⟩))
    unfold RK
    rw [u2_o (by decide)]
    exact ⟨rb, ri, rs⟩
