/-! ===== the class: a state is filled ===== -/
theorem bst_max {v : Int → Int} {b : Int} : ∀ {n : Nat} {m : Int}, 0 ≤ m → m < n → bit b m → v m ≤ v (bst v b n) := by
  intro n
  induction n with
  | zero => intro m h1 h2; omega
  | succ j ih =>
    intro m h0 h1 hb
    by_cases c : m = j
    · have e := bst_t (v := v) (b := b) (i := (j : Int)) (by omega) (c ▸ hb)
      rw [show ((j : Int) + 1).toNat = j + 1 by omega, show ((j : Int)).toNat = j by omega] at e
      rw [e, c]
      split
      · exact Int.le_refl _
      · omega
    · have i := ih h0 (by omega) hb
      by_cases q : bit b j
      · have e := bst_t (v := v) (b := b) (i := (j : Int)) (by omega) q
        rw [show ((j : Int) + 1).toNat = j + 1 by omega, show ((j : Int)).toNat = j by omega] at e
        rw [e]
        have ne := bst_ne (v := v) (n := j) h0 (by omega) hb
        split
        · omega
        · exact i
      · have e := bst_f (v := v) (b := b) (i := (j : Int)) (by omega) q
        rw [show ((j : Int) + 1).toNat = j + 1 by omega, show ((j : Int)).toNat = j by omega] at e
        rw [e]
        exact i
theorem sVt_x {b : Int → Int} {m : Int} : ∀ n : Nat, 0 < sVt b m n → ∃ k : Int, 0 ≤ k ∧ k < n ∧ b k = m := by
  intro n
  induction n with
  | zero => intro h; simp [sVt] at h
  | succ j ih =>
    intro h
    by_cases c : b j = m
    · exact ⟨j, by omega, by omega, c⟩
    · have e : sVt b m (j + 1) = sVt b m j := by
        show sVt b m j + (if _ then 1 else 0) = _
        rw [if_neg c, Int.add_zero]
      rw [e] at h
      obtain ⟨k, k0, k1, k2⟩ := ih h
      exact ⟨k, k0, by omega, k2⟩
theorem sVt_m {b : Int → Int} : ∀ n : Nat, 1 ≤ n → 1 ≤ sVt b (b 0) n := by
  intro n
  induction n with
  | zero => intro h; omega
  | succ j ih =>
    intro _
    have hb := sVt_b b (b 0) j
    show 1 ≤ sVt b (b 0) j + (if _ then 1 else 0)
    by_cases c : j = 0
    · rw [c]
      simp [sVt]
    · have := ih (by omega)
      split <;> omega
/-- the move taken is one of the lawful -/
theorem tk_bit {l : Nat → Int} {g : Cf} {st h p n : Int} (hv : LV l) (hc : CV l st g) (hw : vs l st h p n) (he : sEnd l h p n = 0) : bit (g.2.2.2.1 (g.1 h) h p n) (sTk l g st h p n) := by
  obtain ⟨⟨hv1, hv2⟩, ⟨hv3, hv4⟩, ⟨hv5, hv6⟩, ⟨hv7, hv8⟩, ⟨hv9, hv10⟩, ⟨hv11, hv12⟩, ⟨hv13, hv14⟩, hvw, hvs, hvk, hvc, hvx⟩ := id hv
  obtain ⟨w1, w2, w3, w4, w5, w6⟩ := id hw
  obtain ⟨c1, c2⟩ := sEnd_n he
  have lh := hc.1 h w1 (by omega)
  have mk := (hc.2.2.1 _ h p n lh.1 lh.2 w1 (by omega) w3 w4 w5 w6 he).2.2
  rw [sTk_g (by omega) he]
  have bi := fun v => (bst_in (v := v) hv3 mk).2.2
  unfold sPick
  split
  · have b0 := fun k => bst_in (v := fun m => sBr l st h p n m (sW l g st (l 3 - (h + 1)).toNat k)) hv3 mk
    have mx := bst_max (v := fun m => sVt (fun k => bst (fun m => sBr l st h p n m (sW l g st (l 3 - (h + 1)).toNat k)) (g.2.2.2.1 (g.1 h) h p n) (l 1 + 1).toNat) m (l 2).toNat) (b := 33554431) (n := (l 1 + 1).toNat) (b0 0).1 (by have := (b0 0).2.1; omega) (bit_all (b0 0).1 (by have := (b0 0).2.1; omega))
    have v1 := sVt_m (b := fun k => bst (fun m => sBr l st h p n m (sW l g st (l 3 - (h + 1)).toNat k)) (g.2.2.2.1 (g.1 h) h p n) (l 1 + 1).toNat) (l 2).toNat (by omega)
    obtain ⟨k, k0, k1, k2⟩ := sVt_x (l 2).toNat (Int.lt_of_lt_of_le (by omega : (0 : Int) < _) (Int.le_trans v1 mx))
    rw [← k2]
    exact (b0 k).2.2
  split
  · exact bi _
  split
  · exact bi _
  split
  · exact bi _
  split
  · exact bi _
  split
  · exact bi _
  split
  · exact bi _
  split
  · rename_i q
    exact q
  · exact bi _
/-- a table's rows but one are as they were -/
def GX (G' G : FJ) (d : Nat) (s : Int) : Prop := (∀ a, a ≠ d + 1 → G' a = G a) ∧ ∀ i : Nat, (i : Int) < s * 12 ∨ s * 12 + 12 ≤ i → G' (d + 1) i = G (d + 1) i
theorem GX_r {G : FJ} {d : Nat} {s : Int} : GX G G d s := ⟨fun _ _ => rfl, fun _ _ => rfl⟩
theorem GX_t {G G1 G2 : FJ} {d : Nat} {s : Int} (h1 : GX G1 G d s) (h2 : GX G2 G1 d s) : GX G2 G d s := ⟨fun a h => (h2.1 a h).trans (h1.1 a h), fun i h => (h2.2 i h).trans (h1.2 i h)⟩
theorem GX_u {G G0 : FJ} {d i : Nat} {s v : Int} (h : GX G G0 d s) (h1 : s * 12 ≤ i) (h2 : (i : Int) < s * 12 + 12) : GX (u2 G (d + 1) i v) G0 d s := ⟨fun a ha => by rw [u2_o ha]; exact h.1 a ha, fun j hj => by rw [u2_n (by omega)]; exact h.2 j hj⟩
theorem YX_g {S : FS} {F : FI} {G G' : FJ} {a b c d : Nat} {l : Nat → Int} {w : La} {st s : Int} (h : YX S F G a b c d l w st) (hG : GX G' G d s) : YX S F G' a b c d l w st := YX_k h (fun _ _ _ _ _ _ _ => rfl) hG.1
theorem l_261 {Q : Rs → Mm → Prop} {a b c d : Nat} {l : Nat → Int} {w : La} {st h p n s x4 x8 v0 v1 : Int} {S : FS} {F : FI} {G G0 : FJ} (hx : YX S F G0 a b c d l w st) (h1 : 0 ≤ p) (h1' : p < l 0) (h2 : 0 ≤ h) (h2' : h ≤ l 3) (h3 : 0 ≤ n) (h3' : n ≤ st) (es : s = sp d h p n) (h8 : 0 ≤ x8) (h8' : x8 ≤ l 2) (hG : GX G G0 d s)
    (g0 : G (d + 1) (s * 12).toNat = v0) (g1 : G (d + 1) (s * 12 + 1).toNat = v1) (gk : ∀ k, 0 ≤ k → k < x8 → G (d + 1) (s * 12 + (2 + k)).toNat = sEv l k h p x4 ∧ G (d + 1) (s * 12 + (7 + k)).toNat = sEv l k h p x4)
    (hk : ∀ G', GX G' G0 d s → G' (d + 1) (s * 12).toNat = v0 → G' (d + 1) (s * 12 + 1).toNat = v1 → (∀ k, 0 ≤ k → k < l 2 → G' (d + 1) (s * 12 + (2 + k)).toNat = sEv l k h p x4 ∧ G' (d + 1) (s * 12 + (7 + k)).toNat = sEv l k h p x4) → Q (.inl none) (mm S F G')) :
    wph 1 261 78 [.inr (.inr (.inl 22)), jk, .inl p, .inl h, .inl x4, .inr (.inl (sScH l h)), jk, .inl (s * 12), .inl x8] [] (mm S F G) (0, 0) Q := by
  obtain ⟨ha, hb, hc', hd, ⟨s0, s1, s2, s3⟩, hv, hw', hl, hrw, hst', htw, hs1, hs2⟩ := id (YX_g hx hG)
  have hv' := hv
  obtain ⟨⟨hv1, hv2⟩, ⟨hv3, hv4⟩, ⟨hv5, hv6⟩, ⟨hv7, hv8⟩, ⟨hv9, hv10⟩, ⟨hv11, hv12⟩, ⟨hv13, hv14⟩, hvw, hvs, hvk, hvc, hvx⟩ := id hv
  have sb := sp_b (h := h) (p := p) (n := n) hd h2 (by omega) h1 (by omega) (by omega) (by omega)
  rw [← es] at sb
  refine sg_261_78 ?_
  simp only [s0, lk ha, hl.1.2.2.1]
  refine ck_i rfl (cn_i (fun z => ?_) (fun z => ?_))
  · refine ck_i rfl (c_209 ha hl hv h8 z h1 h1' h2 h2' (fun v ev => ?_))
    have eb := WB_5 hv (t := (l 3 - h).toNat) (by omega) (sEv_b (e := x4) hv h8 z h2 h2' h1 h1')
    unfold B5 at eb
    have e0 : wl (sScH l h * v) = sEv l x8 h p x4 := by
      rw [ev, Int.mul_comm]
      exact wl_id (by unfold sEv at eb; omega) (by unfold sEv at eb; omega)
    have z1 : wr (wr (s * 12 + 2) + x8) = s * 12 + (2 + x8) := by
      rw [wr_id (a := s * 12 + 2) (by omega) (by omega), wr_id (by omega) (by omega)]
      omega
    have z2 : wr (wr (s * 12 + 7) + x8) = s * 12 + (7 + x8) := by
      rw [wr_id (a := s * 12 + 7) (by omega) (by omega), wr_id (by omega) (by omega)]
      omega
    simp only [s3, tk hd, tk1 hd, tk2 hd, tr1 hd, tr2 hd, z1, z2, e0]
    rw [wr_id (a := x8 + 1) (by omega) (by omega)]
    refine ck_i rfl (ck_i rfl (ck_i (jb_i (by omega) (by omega)) (ck_i rfl (ck_i rfl (ck_i (jb_i (by omega) (by omega)) ?_)))))
    refine l_261 hx h1 h1' h2 h2' h3 h3' es (by omega) (by omega) (GX_u (GX_u hG (by omega) (by omega)) (by omega) (by omega)) ?_ ?_ (fun k k0 k1 => ?_) hk
    · rw [u2_n (by omega), u2_n (by omega)]
      exact g0
    · rw [u2_n (by omega), u2_n (by omega)]
      exact g1
    · rw [u2_k, u2_k, u2_k, u2_k]
      by_cases y : k = x8
      · rw [y, if_neg (by omega), if_pos rfl, if_pos rfl]
        exact ⟨rfl, rfl⟩
      · have := gk k k0 (by omega)
        rw [if_neg (by omega), if_neg (by omega), if_neg (by omega), if_neg (by omega)]
        exact this
  · rw [show x8 = l 2 by omega] at gk
    exact hk G hG g0 g1 gk
termination_by (l 2 - x8).toNat
decreasing_by omega
/-- the row of a state holds what comes of it -/
def GS (G : FJ) (d : Nat) (l : Nat → Int) (g : Cf) (st h p n : Int) : Prop := ∀ o, YV l g o → G (d + 1) (sp d h p n * 12 + o).toNat = fC l g st (l 3 - h).toNat o p n
theorem c_261 {k : FS → FI → FJ → Prop} {a b c d : Nat} {l : Nat → Int} {w : La} {g : Cf} {st h p n x1 x4 : Int} {S : FS} {F : FI} {G : FJ} (hx : YX S F G a b c d l w st) (h1 : 0 ≤ p) (h1' : p < l 0) (h2 : 0 ≤ h) (h2' : h ≤ l 3) (h3 : 0 ≤ n) (h3' : n ≤ st) (es : x1 = sp d h p n) (e4 : x4 = sEnd l h p n) (he : x4 ≠ 0)
    (hk : ∀ G', GX G' G d (sp d h p n) → GS G' d l g st h p n → k S (u2 F (d + 2) (sp d h p n).toNat (-1)) G') : calV 1 261 [.inr (.inr (.inl 22)), .inl x1, .inl p, .inl h, .inl x4] (mm S F G) k nof := by
  subst es
  obtain ⟨ha, hb, hc', hd, ⟨s0, s1, s2, s3⟩, hv, hw', hl, hrw, hst', htw, hs1, hs2⟩ := id hx
  have hv' := hv
  obtain ⟨⟨hv1, hv2⟩, ⟨hv3, hv4⟩, ⟨hv5, hv6⟩, ⟨hv7, hv8⟩, ⟨hv9, hv10⟩, ⟨hv11, hv12⟩, ⟨hv13, hv14⟩, hvw, hvs, hvk, hvc, hvx⟩ := id hv
  have sb := sp_b (h := h) (p := p) (n := n) hd h2 (by omega) h1 (by omega) (by omega) (by omega)
  have scl := hl.2.2.2.2.2.2.1 h h2 h2'
  have z0 : wr (sp d h p n * 12) = sp d h p n * 12 := wr_id (by omega) (by omega)
  have z1 : wr (sp d h p n * 12 + 0) = sp d h p n * 12 := by
    rw [Int.add_zero]
    exact z0
  have z2 : wr (sp d h p n * 12 + 1) = sp d h p n * 12 + 1 := wr_id (by omega) (by omega)
  have xF : YX S (u2 F (d + 2) (sp d h p n).toNat (-1)) G a b c d l w st := YX_k hx (fun j _ _ _ _ _ h6 => u2_o h6) (fun _ _ => rfl)
  refine sg_261_0 ?_
  simp only [s0, s3, lk ha, lk1 ha, lk2 ha, lk3 ha, lk4 ha, lk5 ha, lk6 ha, lk7 ha, lk8 ha, lk9 ha, lr0 ha, lr1 ha, lr2 ha, lr3 ha, lr4 ha, lr5 ha, lr6 ha, lr7 ha, lr8 ha, tk hd, tk1 hd, tk2 hd, tr1 hd, tr2 hd, scl, z0, z1, z2]
  have fin : ∀ v0 v1 : Int, v0 = (if x4 = 1 then sScH l h else 0) → v1 = (if x4 = 2 then sScH l h else 0) → ∀ Q : Rs → Mm → Prop, (∀ G', GX G' G d (sp d h p n) → GS G' d l g st h p n → Q (.inl none) (mm S (u2 F (d + 2) (sp d h p n).toNat (-1)) G')) →
      wph 1 261 78 [.inr (.inr (.inl 22)), jk, .inl p, .inl h, .inl x4, .inr (.inl (sScH l h)), jk, .inl (sp d h p n * 12), .inl 0] [] (mm S (u2 F (d + 2) (sp d h p n).toNat (-1)) (u2 (u2 G (d + 1) (sp d h p n * 12).toNat v0) (d + 1) (sp d h p n * 12 + 1).toNat v1)) (0, 0) Q := by
    intro v0 v1 w0 w1 Q hQ
    refine l_261 (v0 := v0) (v1 := v1) xF h1 h1' h2 h2' h3 h3' rfl (by omega) (by omega) (GX_u (GX_u GX_r (by omega) (by omega)) (by omega) (by omega)) (by rw [u2_n (by omega), u2_s]) (by rw [u2_s]) (fun k a b => by omega) (fun G' hG g0 g1 gk => hQ G' hG ?_)
    intro o ho
    unfold YV at ho
    rw [fC_e h2' (by rw [← e4]; exact he) (by omega), ← e4]
    split
    · rename_i y
      rw [y, Int.add_zero, g0, w0]
    split
    · rename_i y
      rw [y, g1, w1]
    split
    · have := (gk (o - 2) (by omega) (by omega)).1
      rw [show 2 + (o - 2) = o by omega] at this
      exact this
    · have := (gk (o - 7) (by omega) (by omega)).2
      rw [show 7 + (o - 7) = o by omega] at this
      exact this
  refine ck_i rfl (ck_i rfl (ck_i (jb_i h2 (by omega)) (ck_i rfl (ck_i rfl (ck_i (jb_i (by omega) (by omega)) (ck_i rfl (cn_i (fun y => ?_) (fun y => ?_))))))))
  · refine ck_i rfl (ck_i (jb_i (by omega) (by omega)) (ck_i rfl (cd_f (by omega) (ck_i rfl (ck_i (jb_i (by omega) (by omega)) ?_)))))
    exact fin _ _ (if_pos y).symm (if_neg (by omega)).symm _ (fun G' x1 x2 => ⟨_, _, _, rfl, hk G' x1 x2⟩)
  · refine ck_i rfl (ck_i (jb_i (by omega) (by omega)) (ck_i rfl (cn_i (fun q => ?_) (fun q => ?_))))
    · refine ck_i rfl (ck_i (jb_i (by omega) (by omega)) ?_)
      exact fin _ _ (if_neg y).symm (if_pos q).symm _ (fun G' x1 x2 => ⟨_, _, _, rfl, hk G' x1 x2⟩)
    · refine ck_i rfl (ck_i (jb_i (by omega) (by omega)) ?_)
      exact fin _ _ (if_neg y).symm (if_neg q).symm _ (fun G' x1 x2 => ⟨_, _, _, rfl, hk G' x1 x2⟩)
