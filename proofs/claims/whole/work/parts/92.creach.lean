/-! ===== the class: which states can come, whatever the law ===== -/
theorem bit_or {a b j : Int} (ha : 0 ≤ a) (ha2 : a < 2147483648) (hb : 0 ≤ b) (hb2 : b < 2147483648) (hj : 0 ≤ j) : bit (orr a b) j ↔ bit a j ∨ bit b j := by
  obtain ⟨A, rfl⟩ := Int.eq_ofNat_of_zero_le ha
  obtain ⟨B, rfl⟩ := Int.eq_ofNat_of_zero_le hb
  obtain ⟨J, rfl⟩ := Int.eq_ofNat_of_zero_le hj
  rw [orr_n (by omega) (by omega), bit_tb, bit_tb, bit_tb, Nat.testBit_or, Bool.or_eq_true]
theorem or_b {a b : Int} (ha : 0 ≤ a) (ha2 : a < 8192) (hb : 0 ≤ b) (hb2 : b < 8192) : 0 ≤ orr a b ∧ orr a b < 8192 := by
  obtain ⟨A, rfl⟩ := Int.eq_ofNat_of_zero_le ha
  obtain ⟨B, rfl⟩ := Int.eq_ofNat_of_zero_le hb
  rw [orr_n (by omega) (by omega)]
  have := Nat.or_lt_two_pow (n := 13) (x := A) (y := B) (by omega) (by omega)
  omega
theorem an_m2 {a : Int} (ha : 0 ≤ a) (ha2 : a < 2147483648) : 0 ≤ an a (-2) ∧ an a (-2) ≤ a ∧ ∀ j, 0 ≤ j → (bit (an a (-2)) j ↔ bit a j ∧ j ≠ 0) := by
  obtain ⟨A, rfl⟩ := Int.eq_ofNat_of_zero_le ha
  have e : an (A : Int) (-2) = ((A &&& 4294967294 : Nat) : Int) := by
    unfold an
    have h2 : A &&& 4294967294 ≤ A := Nat.and_le_left
    rw [ofI_n, show (-2 : Int) = -((2 : Nat) : Int) from rfl, ofI_neg (by decide), nI_an, show (4294967296 - 2 : Nat) = 4294967294 from rfl, nI_toInt (by omega)]
  have h2 : A &&& 4294967294 ≤ A := Nat.and_le_left
  rw [e]
  refine ⟨by omega, by omega, fun j hj => ?_⟩
  obtain ⟨J, rfl⟩ := Int.eq_ofNat_of_zero_le hj
  rw [bit_tb, bit_tb, Nat.testBit_and, show (4294967294 : Nat) = 2 ^ 32 - (1 + 1) from rfl, Nat.testBit_two_pow_sub_succ (by decide)]
  by_cases q : J = 0
  · rw [q]
    simp
  · have t1 : (1 : Nat).testBit J = false := Nat.testBit_lt_two_pow (Nat.one_lt_two_pow q)
    rw [t1]
    by_cases y : J < 32
    · simp [y, q]
    · have : A.testBit J = false := by
        have hp : 2 ^ 32 ≤ 2 ^ J := Nat.pow_le_pow_right (by decide) (by omega)
        exact Nat.testBit_lt_two_pow (by omega)
      simp [this]
theorem sar_1 {a : Int} (ha : 0 ≤ a) (ha2 : a < 2147483648) : 0 ≤ sar a 1 ∧ sar a 1 ≤ a ∧ ∀ j, 0 ≤ j → (bit (sar a 1) j ↔ bit a (j + 1)) := by
  obtain ⟨A, rfl⟩ := Int.eq_ofNat_of_zero_le ha
  have e : sar (A : Int) 1 = ((A / 2 : Nat) : Int) := sar_n (k := 1) (by decide) (by omega)
  rw [e]
  refine ⟨by omega, by omega, fun j hj => ?_⟩
  obtain ⟨J, rfl⟩ := Int.eq_ofNat_of_zero_le hj
  rw [bit_tb, show (J : Int) + 1 = ((J + 1 : Nat) : Int) by omega, bit_tb, Nat.testBit_succ]
theorem shl_st {st : Int} (h0 : 0 ≤ st) (h1 : st ≤ 12) : 0 ≤ shl 1 st ∧ shl 1 st < 8192 ∧ ∀ j, 0 ≤ j → (bit (shl 1 st) j ↔ j = st) := by
  obtain ⟨I, rfl⟩ := Int.eq_ofNat_of_zero_le h0
  have hp : 2 ^ I ≤ 2 ^ 12 := Nat.pow_le_pow_right (by decide) (by omega)
  have hp1 := Nat.two_pow_pos I
  have e := shl_n (a := 1) (k := I) (by omega) (by omega)
  rw [Nat.one_mul] at e
  have e' : shl 1 (I : Int) = ((2 ^ I : Nat) : Int) := e
  rw [e']
  refine ⟨by omega, by omega, fun j hj => ?_⟩
  have := bit_p (i := (I : Int)) (k := j) (by omega) hj
  rw [show ((I : Int)).toNat = I by omega] at this
  exact this
def RB (g : Nat → Int) : Prop := ∀ i, i < 300 → 0 ≤ g i ∧ g i < 8192
/-- marked -/
def Rm (g : Nat → Int) (h p n : Int) : Prop := bit (g (h * 12 + p).toNat) n
theorem c_259 {k : FS → FI → FJ → Prop} {a b c d : Nat} {l : Nat → Int} {w : La} {st x1 x2 x3 : Int} {S : FS} {F : FI} {G : FJ} (hx : YX S F G a b c d l w st) (h1 : 0 ≤ x1) (h1' : x1 < l 0) (h2 : 0 ≤ x2) (h2' : x2 ≤ 24) (hb0 : RB (F 24)) (h3 : 0 ≤ x3) (h3' : x3 < 8192)
    (hk : ∀ v, 0 ≤ v → v < 8192 → (∀ j, 0 ≤ j → (bit v j ↔ Rm (F 24) x2 x1 j ∨ ∃ n, 0 ≤ n ∧ bit x3 n ∧ 1 ≤ n ∧ l (7 + x1).toNat ≠ 1 ∧ j = n - 1 ∨ l (7 + x1).toNat = 1 ∧ j = st)) → k S (u2 F 24 (x2 * 12 + x1).toNat v) G) : calV 0 259 [.inr (.inr (.inl 22)), .inl x1, .inl x2, .inl x3] (mm S F G) k nof := by
  obtain ⟨ha, hb, hc', hd, ⟨s0, s1, s2, s3⟩, hv, hw', hl, hrw, hst', htw, hs1, hs2⟩ := id hx
  have hv' := hv
  obtain ⟨⟨hv1, hv2⟩, ⟨hv3, hv4⟩, ⟨hv5, hv6⟩, ⟨hv7, hv8⟩, ⟨hv9, hv10⟩, ⟨hv11, hv12⟩, ⟨hv13, hv14⟩, hvw, hvs, hvk, hvc, hvx⟩ := id hv
  have so := hl.2.1 x1 h1 h1'
  have z : wr (wr (x2 * 12) + x1) = x2 * 12 + x1 := by
    rw [wr_id (a := x2 * 12) (by omega) (by omega), wr_id (by omega) (by omega)]
  have g0 := hb0 (x2 * 12 + x1).toNat (by omega)
  have a1 := sar_1 (a := x3) h3 (by omega)
  have a2 := shl_st hs1 hs2
  have o1 := or_b g0.1 g0.2 a2.1 a2.2.1
  have o2 := or_b g0.1 g0.2 a1.1 (by omega : sar x3 1 < 8192)
  refine sg_259_0 ?_
  simp only [s0, s2, lk ha, lk1 ha, lk2 ha, lk3 ha, lk4 ha, lk5 ha, lk6 ha, lk7 ha, lk8 ha, lk9 ha, lr0 ha, lr1 ha, lr2 ha, lr3 ha, lr4 ha, lr5 ha, lr6 ha, lr7 ha, lr8 ha, ck_ hc', ck1 hc', ck2 hc', ck3 hc', ck4 hc', cr0 hc', cr1 hc', cr2 hc', cr3 hc', z, so, hst']
  refine ck_i (jb_i (by omega) (by omega)) (ck_i rfl (ck_i rfl (ck_i (jb_i h1 (by omega)) (cn_i (fun q => ?_) (fun q => ?_)))))
  · refine ck_i rfl (ck_i (jb_i (by omega) (by omega)) ⟨_, _, _, rfl, hk _ o1.1 o1.2 (fun j hj => ?_)⟩)
    rw [bit_or g0.1 (by omega) a2.1 (by omega) hj, a2.2.2 j hj]
    constructor
    · intro u
      rcases u with u | u
      · exact Or.inl u
      · exact Or.inr ⟨0, Or.inr ⟨q, u⟩⟩
    · intro u
      rcases u with u | ⟨n, u | u⟩
      · exact Or.inl u
      · exact absurd q u.2.2.2.1
      · exact Or.inr u.2
  · refine ck_i (jb_i (by omega) (by omega)) ⟨_, _, _, rfl, hk _ o2.1 o2.2 (fun j hj => ?_)⟩
    rw [bit_or g0.1 (by omega) a1.1 (by omega) hj, a1.2.2 j hj]
    constructor
    · intro u
      rcases u with u | u
      · exact Or.inl u
      · exact Or.inr ⟨j + 1, Or.inl ⟨by omega, u, by omega, q, by omega⟩⟩
    · intro u
      rcases u with u | ⟨n, u | u⟩
      · exact Or.inl u
      · obtain ⟨u1, u2, u3, u4, u5⟩ := u
        right
        rw [u5, show n - 1 + 1 = n by omega]
        exact u2
      · exact absurd u.1 q
/-- marks are closed under moves, as far as they were gone through -/
def RI2 (l : Nat → Int) (st : Int) (g : Nat → Int) (D : Int → Int → Int → Prop) : Prop := ∀ h p n m, vs l st h p n → Rm g h p n → sEnd l h p n = 0 → AM l p m → D h p m → Rm g (h + 1) (sTo1 l p m) (sAf l st (sTo1 l p m) n)
theorem sTo1_a {l : Nat → Int} {p m : Int} (hv : LV l) (h0 : 0 ≤ p) (h1 : p < l 0) (hm : AM l p m) : 0 ≤ sTo1 l p m ∧ sTo1 l p m < l 0 := by
  unfold sTo1
  unfold AM at hm
  split
  · omega
  · exact sOth_b hv (by omega) (by omega)
/-- marks grow in the hour behind h0 alone: what is closed stays so -/
theorem RI2_s {l : Nat → Int} {st : Int} {g : Nat → Int} {D D' : Int → Int → Int → Prop} {h0 q v p0 m0 : Int} (hv : LV l) (hs : 0 ≤ st) (hst : st ≤ 12) (hi : RI2 l st g D) (h00 : 0 ≤ h0) (q0 : 0 ≤ q) (q1 : q < 12) (hD : ∀ h p m, vs l st h p 0 → D h p m → h ≤ h0) (hvv : ∀ j, 0 ≤ j → Rm g (h0 + 1) q j → bit v j)
    (hD' : ∀ h p m, AM l p m → D' h p m → D h p m ∨ h = h0 ∧ p = p0 ∧ m = m0) (hnew : ∀ n, vs l st h0 p0 n → Rm g h0 p0 n → sEnd l h0 p0 n = 0 → AM l p0 m0 → sTo1 l p0 m0 = q ∧ bit v (sAf l st q n)) :
    RI2 l st (fun i => if i = ((h0 + 1) * 12 + q).toNat then v else g i) D' := by
  have hv' := hv
  obtain ⟨⟨hv1, hv2⟩, ⟨hv3, hv4⟩, ⟨hv5, hv6⟩, ⟨hv7, hv8⟩, ⟨hv9, hv10⟩, ⟨hv11, hv12⟩, ⟨hv13, hv14⟩, hvw, hvs, hvk, hvc, hvx⟩ := id hv
  intro h p n m hw hr he am hd
  obtain ⟨w1, w2, w3, w4, w5, w6⟩ := id hw
  obtain ⟨c1, c2⟩ := sEnd_n he
  have tb := sTo1_a hv w3 w4 am
  have ab := sAf_b (l := l) (st := st) (q := sTo1 l p m) (n := n) hs hst (by omega) w6
  have hh : h ≤ h0 := by
    rcases hD' h p m am hd with u | u
    · exact hD h p m ⟨w1, w2, w3, w4, by omega, hs⟩ u
    · omega
  have src : Rm g h p n := by
    have : Rm (fun i => if i = ((h0 + 1) * 12 + q).toNat then v else g i) h p n := hr
    unfold Rm at this ⊢
    dsimp only at this
    rw [if_neg (by omega)] at this
    exact this
  unfold Rm
  have grow : Rm g (h + 1) (sTo1 l p m) (sAf l st (sTo1 l p m) n) → bit (if ((h + 1) * 12 + sTo1 l p m).toNat = ((h0 + 1) * 12 + q).toNat then v else g ((h + 1) * 12 + sTo1 l p m).toNat) (sAf l st (sTo1 l p m) n) := by
    intro u
    split
    · rename_i y
      have : h = h0 ∧ sTo1 l p m = q := by omega
      refine hvv _ ab.1 ?_
      rw [this.1, this.2] at u
      rw [this.2]
      exact u
    · exact u
  rcases hD' h p m am hd with u | ⟨u1, u2, u3⟩
  · exact grow (hi h p n m hw src he am u)
  · rw [u1, u2] at src he hw
    rw [u2, u3] at am
    obtain ⟨y1, y2⟩ := hnew n hw src he am
    dsimp only
    rw [u1, u2, u3, y1, if_pos rfl]
    exact y2
/-- how far the marking has come: an hour, a place in it, moves of that place -/
def Dm (x1 x2 x3 : Int) (h p m : Int) : Prop := h < x1 ∨ h = x1 ∧ (p < x2 ∨ p = x2 ∧ m < x3)
theorem RI2_w {l : Nat → Int} {st : Int} {g : Nat → Int} {D D' : Int → Int → Int → Prop} (hi : RI2 l st g D) (h : ∀ h p n m, vs l st h p n → Rm g h p n → sEnd l h p n = 0 → AM l p m → D' h p m → D h p m) : RI2 l st g D' := fun a b c d e f g i j => hi a b c d e f g i (h a b c d e f g i j)
theorem RB_s {g : Nat → Int} {i : Nat} {v : Int} (h : RB g) (h0 : 0 ≤ v) (h1 : v < 8192) : RB (fun j => if j = i then v else g j) := by
  intro j hj
  dsimp only
  split
  · exact ⟨h0, h1⟩
  · exact h j hj
/-- only the marks have changed -/
def KM (F F0 : FI) : Prop := ∀ c, c ≠ 24 → F c = F0 c
theorem YX_m {S : FS} {F F' : FI} {G : FJ} {a b c d : Nat} {l : Nat → Int} {w : La} {st : Int} (h : YX S F G a b c d l w st) (hF : KM F' F) : YX S F' G a b c d l w st := by
  obtain ⟨ha, hb, hc, hd, hs, hv, hw, h1, h2, h3, h4, h5⟩ := h
  exact ⟨ha, hb, hc, hd, hs, hv, hw, LR_c h1 (fun i hi => hF _ (by omega)) rfl, WR_c h2 (fun i hi => hF _ (by omega)), by rw [hF c (by omega)]; exact h3, by rw [hF d (by omega)]; exact h4, h5⟩
theorem u24 {F : FI} {i : Nat} {v : Int} : u2 F 24 i v 24 = fun j => if j = i then v else F 24 j := by
  funext j
  exact u2_k j
theorem KM_u {F F0 : FI} {i : Nat} {v : Int} (h : KM F F0) : KM (u2 F 24 i v) F0 := fun c hc => (u2_o hc).trans (h c hc)
/-- a place's mark, once the move m0 of it is followed -/
theorem mk_step {l : Nat → Int} {st x1 p0 m0 q v x3 : Int} {g : Nat → Int} (hv : LV l) (hs : 0 ≤ st) (hst : st ≤ 12) (hi : RI2 l st g (Dm x1 p0 m0)) (h1 : 0 ≤ x1) (h1' : x1 < l 3) (hp : 0 ≤ p0) (hp' : p0 < l 0) (hq : q = sTo1 l p0 m0) (q0 : 0 ≤ q) (q1 : q < 12) (hm : 0 ≤ m0)
    (hx3 : ∀ j, 0 ≤ j → (bit x3 j ↔ Rm g x1 p0 j ∧ j ≠ 0)) (hvv : ∀ j, 0 ≤ j → (bit v j ↔ Rm g (x1 + 1) q j ∨ ∃ n, 0 ≤ n ∧ bit x3 n ∧ 1 ≤ n ∧ l (7 + q).toNat ≠ 1 ∧ j = n - 1 ∨ l (7 + q).toNat = 1 ∧ j = st)) :
    RI2 l st (fun i => if i = ((x1 + 1) * 12 + q).toNat then v else g i) (Dm x1 p0 (m0 + 1)) := by
  refine RI2_s (p0 := p0) (m0 := m0) hv hs hst hi h1 q0 q1 (fun h p m _ u => by unfold Dm at u; omega) (fun j hj u => (hvv j hj).mpr (Or.inl u)) (fun h p m am u => ?_) (fun n hw hr he am => ⟨hq.symm, ?_⟩)
  · unfold Dm at u ⊢
    omega
  · obtain ⟨c1, c2⟩ := sEnd_n he
    obtain ⟨w1, w2, w3, w4, w5, w6⟩ := id hw
    have ab := sAf_b (l := l) (st := st) (q := q) (n := n) hs hst (by omega) w6
    refine (hvv _ ab.1).mpr (Or.inr ?_)
    unfold sAf
    by_cases y : l (7 + q).toNat = 1
    · rw [if_pos y]
      exact ⟨0, Or.inr ⟨y, rfl⟩⟩
    · rw [if_neg y]
      exact ⟨n, Or.inl ⟨by omega, (hx3 n (by omega)).mpr ⟨hr, by omega⟩, by omega, y, rfl⟩⟩
theorem Rm_o {g : Nat → Int} {h p n h' q v : Int} (hh : 0 ≤ h) (h0 : 0 ≤ p) (h1 : p < 12) (h2 : 0 ≤ q) (h3 : q < 12) (h4 : h' ≠ h) (h5 : 0 ≤ h') : Rm (fun i => if i = (h' * 12 + q).toNat then v else g i) h p n ↔ Rm g h p n := by
  unfold Rm
  dsimp only
  rw [if_neg (by omega)]
theorem l_258_106 {Q : Rs → Mm → Prop} {a b c d : Nat} {l : Nat → Int} {w : La} {st x1 x2 x3 x4 : Int} {S : FS} {F F0 : FI} {G : FJ} (hx : YX S F0 G a b c d l w st) (hF : KM F F0) (h1 : 0 ≤ x1) (h1' : x1 < l 3) (h2 : 0 ≤ x2) (h2' : x2 < l 0) (h3 : 0 ≤ x3) (h3' : x3 < 8192) (h4 : 0 ≤ x4) (h4' : x4 ≤ l 1)
    (hb0 : RB (F 24)) (hi : RI2 l st (F 24) (Dm x1 x2 (x4 + 1))) (hs0 : Rm (F 24) 0 (l 6) st) (hx3 : ∀ j, 0 ≤ j → (bit x3 j ↔ Rm (F 24) x1 x2 j ∧ j ≠ 0))
    (hk : ∀ F', KM F' F0 → RB (F' 24) → RI2 l st (F' 24) (Dm x1 (x2 + 1) 0) → Rm (F' 24) 0 (l 6) st → wph 1 258 44 [.inr (.inr (.inl 22)), .inl x1, .inl (x2 + 1)] [] (mm S F' G) (0, 0) Q) :
    wph 1 258 106 [.inr (.inr (.inl 22)), .inl x1, .inl x2, .inl x3, .inl x4] [] (mm S F G) (0, 0) Q := by
  have hxF := YX_m hx hF
  obtain ⟨ha, hb, hc', hd, ⟨s0, s1, s2, s3⟩, hv, hw', hl, hrw, hst', htw, hs1, hs2⟩ := id hxF
  have hv' := hv
  obtain ⟨⟨hv1, hv2⟩, ⟨hv3, hv4⟩, ⟨hv5, hv6⟩, ⟨hv7, hv8⟩, ⟨hv9, hv10⟩, ⟨hv11, hv12⟩, ⟨hv13, hv14⟩, hvw, hvs, hvk, hvc, hvx⟩ := id hv
  refine sg_258_106 ?_
  simp only [s0, lk ha, lk1 ha, lk2 ha, lk3 ha, lk4 ha, lk5 ha, lk6 ha, lk7 ha, lk8 ha, lk9 ha, lr0 ha, lr1 ha, lr2 ha, lr3 ha, lr4 ha, lr5 ha, lr6 ha, lr7 ha, lr8 ha, hl.1.2.1]
  refine ck_i rfl (cn_i (fun z => ?_) (fun z => ?_))
  · have ac := hl.2.2.2.2.2.2.2 x2 x4 h2 h2' h4 z
    have z1 : wr (wr (x2 * 24) + x4) = x2 * 24 + x4 := by
      rw [wr_id (a := x2 * 24) (by omega) (by omega), wr_id (by omega) (by omega)]
    simp only [z1, ac]
    rw [wr_id (a := x4 + 1) (by omega) (by omega), wr_id (a := x1 + 1) (by omega) (by omega)]
    have ob := sOth_b (p := x2) hv h4 z
    refine ck_i rfl (ck_i rfl (ck_i (jb_i (by omega) (by omega)) (cn_i (fun q => ?_) (fun q => ?_))))
    · refine l_258_106 hx hF h1 h1' h2 h2' h3 h3' (by omega) (by omega) hb0 (RI2_w hi (fun h p n m _ _ _ am u => ?_)) hs0 hx3 hk
      unfold Dm at u ⊢
      by_cases y : h = x1 ∧ p = x2 ∧ m = x4 + 1
      · obtain ⟨y1, y2, y3⟩ := y
        have : sAt l x4 x2 = 1 := by
          rw [y2, y3] at am
          unfold AM at am
          rw [show x4 + 1 - 1 = x4 by omega] at am
          omega
        rw [if_pos this] at q
        omega
      · omega
    · have at1 : sAt l x4 x2 = 1 := by
        apply Classical.byContradiction
        intro y
        rw [if_neg y] at q
        exact q rfl
      rw [if_pos at1]
      have to : sOth l x4 x2 = sTo1 l x2 (x4 + 1) := by
        unfold sTo1
        rw [if_neg (by omega), show x4 + 1 - 1 = x4 by omega]
      refine c_259 hxF ob.1 ob.2 (by omega) (by omega) hb0 h3 h3' (fun v v0 v1 v2 => ?_)
      refine l_258_106 hx (KM_u hF) h1 h1' h2 h2' h3 h3' (by omega) (by omega) ?_ ?_ ?_ (fun j hj => ?_) hk
      · rw [u24]
        exact RB_s hb0 v0 v1
      · rw [u24]
        exact mk_step hv hs1 hs2 hi h1 h1' h2 h2' to ob.1 (by omega) (by omega) hx3 v2
      · rw [u24]
        exact (Rm_o (by omega) hv13 (by omega) ob.1 (by omega) (by omega) (by omega)).mpr hs0
      · rw [u24, Rm_o (by omega) h2 (by omega) ob.1 (by omega) (by omega) (by omega)]
        exact hx3 j hj
  · rw [wr_id (a := x2 + 1) (by omega) (by omega)]
    refine hk F hF hb0 (RI2_w hi (fun h p n m _ _ _ am u => ?_)) hs0
    unfold AM at am
    unfold Dm at u ⊢
    omega
termination_by (l 1 - x4).toNat
decreasing_by all_goals omega
theorem l_258_44 {Q : Rs → Mm → Prop} {a b c d : Nat} {l : Nat → Int} {w : La} {st x1 x2 : Int} {S : FS} {F F0 : FI} {G : FJ} (hx : YX S F0 G a b c d l w st) (hF : KM F F0) (h1 : 0 ≤ x1) (h1' : x1 < l 3) (h2 : 0 ≤ x2) (h2' : x2 ≤ l 0)
    (hb0 : RB (F 24)) (hi : RI2 l st (F 24) (Dm x1 x2 0)) (hs0 : Rm (F 24) 0 (l 6) st)
    (hk : ∀ F', KM F' F0 → RB (F' 24) → RI2 l st (F' 24) (Dm (x1 + 1) 0 0) → Rm (F' 24) 0 (l 6) st → wph 1 258 31 [.inr (.inr (.inl 22)), .inl (x1 + 1)] [] (mm S F' G) (0, 0) Q) :
    wph 1 258 44 [.inr (.inr (.inl 22)), .inl x1, .inl x2] [] (mm S F G) (0, 0) Q := by
  have hxF := YX_m hx hF
  obtain ⟨ha, hb, hc', hd, ⟨s0, s1, s2, s3⟩, hv, hw', hl, hrw, hst', htw, hs1, hs2⟩ := id hxF
  have hv' := hv
  obtain ⟨⟨hv1, hv2⟩, ⟨hv3, hv4⟩, ⟨hv5, hv6⟩, ⟨hv7, hv8⟩, ⟨hv9, hv10⟩, ⟨hv11, hv12⟩, ⟨hv13, hv14⟩, hvw, hvs, hvk, hvc, hvx⟩ := id hv
  refine sg_258_44 ?_
  simp only [s0, lk ha, lk1 ha, lk2 ha, lk3 ha, lk4 ha, lk5 ha, lk6 ha, lk7 ha, lk8 ha, lk9 ha, lr0 ha, lr1 ha, lr2 ha, lr3 ha, lr4 ha, lr5 ha, lr6 ha, lr7 ha, lr8 ha, hl.1.1]
  refine ck_i rfl (cn_i (fun z => ?_) (fun z => ?_))
  · have so := hl.2.1 x2 h2 z
    have z1 : wr (wr (x1 * 12) + x2) = x1 * 12 + x2 := by
      rw [wr_id (a := x1 * 12) (by omega) (by omega), wr_id (by omega) (by omega)]
    have g0 := hb0 (x1 * 12 + x2).toNat (by omega)
    have am2 := an_m2 (a := F 24 (x1 * 12 + x2).toNat) g0.1 (by omega)
    simp only [z1, so]
    rw [wr_id (a := x2 + 1) (by omega) (by omega), wr_id (a := x1 + 1) (by omega) (by omega)]
    refine ck_i rfl (ck_i rfl (ck_i (jb_i h2 (by omega)) (cn_i (fun q => ?_) (fun q => ?_))))
    · refine l_258_44 hx hF h1 h1' (by omega) (by omega) hb0 (RI2_w hi (fun h p n m _ _ he am u => ?_)) hs0 hk
      unfold AM at am
      unfold Dm at u ⊢
      by_cases y : h = x1 ∧ p = x2
      · rw [y.2] at he
        unfold sEnd at he
        rw [if_pos q] at he
        exact absurd he (by decide)
      · omega
    · refine ck_i (jb_i (by omega) (by omega)) (cn_i (fun y => ?_) (fun y => ?_))
      · refine l_258_44 hx hF h1 h1' (by omega) (by omega) hb0 (RI2_w hi (fun h p n m hw hr he am u => ?_)) hs0 hk
        unfold AM at am
        unfold Dm at u ⊢
        by_cases e : h = x1 ∧ p = x2
        · have b1 := (am2.2.2 n hw.2.2.2.2.1).mpr ⟨by rw [e.1, e.2] at hr; exact hr, (sEnd_n he).1⟩
          rw [y] at b1
          have b2 : ¬ bit 0 n := by
            unfold bit
            simp
          exact absurd b1 b2
        · omega
      · refine c_259 hxF h2 z (by omega) (by omega) hb0 am2.1 (by omega) (fun v v0 v1 v2 => ?_)
        refine l_258_106 hx (KM_u hF) h1 h1' h2 z am2.1 (by omega) (by omega) hv3 ?_ ?_ ?_ (fun j hj => ?_) (fun F' k1 k2 k3 k4 => l_258_44 hx k1 h1 h1' (by omega) (by omega) k2 k3 k4 hk)
        · rw [u24]
          exact RB_s hb0 v0 v1
        · rw [u24]
          exact mk_step (m0 := 0) (x3 := an (F 24 (x1 * 12 + x2).toNat) (-2)) hv hs1 hs2 hi h1 h1' h2 z (by unfold sTo1; rw [if_pos rfl]) h2 (by omega) (by omega) am2.2.2 v2
        · rw [u24]
          exact (Rm_o (by omega) hv13 (by omega) h2 (by omega) (by omega) (by omega)).mpr hs0
        · rw [u24, Rm_o (by omega) h2 (by omega) h2 (by omega) (by omega) (by omega)]
          exact am2.2.2 j hj
  · rw [wr_id (a := x1 + 1) (by omega) (by omega)]
    refine hk F hF hb0 (RI2_w hi (fun h p n m hw _ _ am u => ?_)) hs0
    have := hw.2.2.2.1
    have := hw.2.2.1
    unfold AM at am
    unfold Dm at u ⊢
    omega
termination_by (l 0 - x2).toNat
decreasing_by all_goals omega
theorem l_258_31 {Q : Rs → Mm → Prop} {a b c d : Nat} {l : Nat → Int} {w : La} {st x1 : Int} {S : FS} {F F0 : FI} {G : FJ} (hx : YX S F0 G a b c d l w st) (hF : KM F F0) (h1 : 0 ≤ x1) (h1' : x1 ≤ l 3)
    (hb0 : RB (F 24)) (hi : RI2 l st (F 24) (Dm x1 0 0)) (hs0 : Rm (F 24) 0 (l 6) st)
    (hk : ∀ F', KM F' F0 → RB (F' 24) → RI2 l st (F' 24) (fun _ _ _ => True) → Rm (F' 24) 0 (l 6) st → Q (.inl none) (mm S F' G)) :
    wph 1 258 31 [.inr (.inr (.inl 22)), .inl x1] [] (mm S F G) (0, 0) Q := by
  obtain ⟨ha, hb, hc', hd, ⟨s0, s1, s2, s3⟩, hv, hw', hl, hrw, hst', htw, hs1, hs2⟩ := id (YX_m hx hF)
  have hv' := hv
  obtain ⟨⟨hv1, hv2⟩, ⟨hv3, hv4⟩, ⟨hv5, hv6⟩, ⟨hv7, hv8⟩, ⟨hv9, hv10⟩, ⟨hv11, hv12⟩, ⟨hv13, hv14⟩, hvw, hvs, hvk, hvc, hvx⟩ := id hv
  refine sg_258_31 ?_
  simp only [s0, lk ha, lk1 ha, lk2 ha, lk3 ha, lk4 ha, lk5 ha, lk6 ha, lk7 ha, lk8 ha, lk9 ha, lr0 ha, lr1 ha, lr2 ha, lr3 ha, lr4 ha, lr5 ha, lr6 ha, lr7 ha, lr8 ha, hl.1.2.2.2.1]
  refine ck_i rfl (cn_i (fun z => ?_) (fun z => ?_))
  · exact l_258_44 hx hF h1 z (by omega) (by omega) hb0 hi hs0 (fun F' k1 k2 k3 k4 => l_258_31 hx k1 (by omega) (by omega) k2 k3 k4 hk)
  · refine hk F hF hb0 (RI2_w hi (fun h p n m hw _ he am _ => ?_)) hs0
    have := (sEnd_n he).2
    have := hw.2.1
    unfold Dm
    omega
termination_by (l 3 - x1).toNat
decreasing_by all_goals omega
theorem c_258 {k : FS → FI → FJ → Prop} {a b c d : Nat} {l : Nat → Int} {w : La} {st : Int} {S : FS} {F : FI} {G : FJ} (hx : YX S F G a b c d l w st) (hk : ∀ F', KM F' F → RB (F' 24) → RI2 l st (F' 24) (fun _ _ _ => True) → Rm (F' 24) 0 (l 6) st → k S F' G) : calV 1 258 [.inr (.inr (.inl 22))] (mm S F G) k nof := by
  have k0 : KM (yfl F 24 300 0) F := fun c hc => yfl_o hc
  obtain ⟨ha, hb, hc', hd, ⟨s0, s1, s2, s3⟩, hv, hw', hl, hrw, hst', htw, hs1, hs2⟩ := id (YX_m hx k0)
  have hv' := hv
  obtain ⟨⟨hv1, hv2⟩, ⟨hv3, hv4⟩, ⟨hv5, hv6⟩, ⟨hv7, hv8⟩, ⟨hv9, hv10⟩, ⟨hv11, hv12⟩, ⟨hv13, hv14⟩, hvw, hvs, hvk, hvc, hvx⟩ := id hv
  have a2 := shl_st hs1 hs2
  refine sg_258_0 (c_343 (n := 300) rfl (by decide) ?_)
  simp only [s0, s2, lk ha, lk1 ha, lk2 ha, lk3 ha, lk4 ha, lk5 ha, lk6 ha, lk7 ha, lk8 ha, lk9 ha, lr0 ha, lr1 ha, lr2 ha, lr3 ha, lr4 ha, lr5 ha, lr6 ha, lr7 ha, lr8 ha, ck_ hc', ck1 hc', ck2 hc', ck3 hc', ck4 hc', cr0 hc', cr1 hc', cr2 hc', cr3 hc', hl.1.2.2.2.2.2.2, hst']
  have g24 : u2 (yfl F 24 300 0) 24 (l 6).toNat (shl 1 st) 24 = fun j => if j = (l 6).toNat then shl 1 st else yfl F 24 300 0 24 j := u24
  refine ck_i rfl (ck_i rfl (ck_i (jb_i hv13 (by omega)) (l_258_31 hx (KM_u k0) (by omega) (by omega) ?_ ?_ ?_ (fun F' x1 x2 x3 x4 => ⟨_, _, _, rfl, hk F' x1 x2 x3 x4⟩))))
  · rw [g24]
    refine RB_s (fun i hi => ?_) a2.1 a2.2.1
    rw [yfl_i hi]
    decide
  · intro h p n m hw _ _ am u
    have := hw.1
    have := hw.2.2.1
    unfold AM at am
    unfold Dm at u
    omega
  · rw [g24]
    unfold Rm
    dsimp only
    rw [if_pos (by omega)]
    exact (a2.2.2 st hs1).mpr rfl
