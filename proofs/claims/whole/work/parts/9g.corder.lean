/-! ===== the class answers: journeys, the best round ===== -/
def QCJ (S S' : FS) (F F' : FI) (G G' : FJ) : Prop := (∀ c, kpC c → c ≠ 31 → c ≠ 36 → c ≠ 37 → c ≠ 38 → F' c = F c) ∧ (∀ i, i ≠ 17 → F' 1 i = F 1 i) ∧ (∀ c, ¬ (6 ≤ c ∧ c ≤ 30) → G' c = G c) ∧ ∀ x i, ¬ (x = 22 ∧ (i = 2 ∨ i = 3)) → S' x i = S x i
theorem SV_79 {l s s' : Nat → Int} (h : ∀ i, i < 79 → s' i = s i) (hs : SV l s) : SV l s' := by
  obtain ⟨s1, s2, s3, s4, s5, s6⟩ := hs
  refine ⟨fun k k0 k1 => ?_, fun k k0 k1 => ?_, fun k k0 k1 => ?_, ?_, ?_, fun k k0 k1 => ?_⟩
  · rw [h _ (by omega)]; exact s1 k k0 k1
  · rw [h _ (by omega)]; exact s2 k k0 k1
  · rw [h _ (by omega)]; exact s3 k k0 k1
  · rw [h _ (by omega)]; exact s4
  · rw [h _ (by omega)]; exact s5
  · rw [h 54 (by omega)] at k1
    rw [h _ (by omega)]; exact s6 k k0 k1
theorem sLd_79 {l s s' : Nat → Int} (h : ∀ i, i < 79 → s' i = s i) {x : Int} (h0 : 0 ≤ x) (h1 : x < 24) : sLd l s' x = sLd l s x := by
  unfold sLd
  rw [h _ (by omega), h 53 (by decide)]
theorem CE_79 {l s s' : Nat → Int} {w : La} {st : Int} (hv : LV l) (h : ∀ i, i < 79 → s' i = s i) : CE l st 0 (sCf l s w) (sCf l s' w) := by
  obtain ⟨⟨hv1, hv2⟩, ⟨hv3, hv4⟩, ⟨hv5, hv6⟩, ⟨hv7, hv8⟩, ⟨hv9, hv10⟩, ⟨hv11, hv12⟩, ⟨hv13, hv14⟩, hvw, hvs, hvk, hvc, hvx⟩ := id hv
  exact ⟨fun x a b => (sLd_79 h a (by omega)).symm, fun k a b => (h _ (by omega)).symm, fun x a b => (h _ (by omega)).symm, fun _ _ _ _ _ _ _ _ => rfl, rfl⟩
theorem SOL_79 {F : FI} {G : FJ} {l s s' : Nat → Int} {w : La} (hv : LV l) (hs : SV l s) (h : ∀ i, i < 79 → s' i = s i) (so : SOL F G l s w) : SOL F G l s' w := by
  have hv' := hv
  obtain ⟨⟨hv1, hv2⟩, ⟨hv3, hv4⟩, ⟨hv5, hv6⟩, ⟨hv7, hv8⟩, ⟨hv9, hv10⟩, ⟨hv11, hv12⟩, ⟨hv13, hv14⟩, hvw, hvs, hvk, hvc, hvx⟩ := id hv
  obtain ⟨s1, s2, s3, s4⟩ := so
  have ce := CE_79 (w := w) (st := l 4) hv' h
  have c1 := sCf_v (w := w) (l 4) hv' hs
  have c2 := sCf_v (w := w) (l 4) hv' (SV_79 h hs)
  refine ⟨fun x a b => (s1 x a b).trans (sLd_79 h a b).symm, s2, fun x p n hw o ho => ?_, fun x p n hw => (s4 x p n hw).trans (sTk_ce hv' (by omega) (by omega) (by omega) c1 c2 ce hw.1 hw)⟩
  have ho' := YV_ce ce ho
  obtain ⟨w1, w2, w3, w4, w5, w6⟩ := id hw
  rw [s3 x p n hw o ho']
  exact fC_cc hv' (by omega) (by omega) (by omega) c1 c2 ce (by omega) w3 w4 w5 w6 ho'
theorem sEnd_03 {l : Nat → Int} {h p n : Int} : 0 ≤ sEnd l h p n ∧ sEnd l h p n ≤ 3 := by
  unfold sEnd
  split
  · omega
  split
  · omega
  split <;> omega
theorem PR_J {F F1 F0 : FI} {seed : Int} {s' : Nat → Int} {L : Nat} (hs : 0 ≤ F0 112 54 ∧ F0 112 54 ≤ 24) (hp : PR F1 31 (F0 112)) (he : JE F1 F F0 seed L) (j1 : JK F0 seed s' (F0 112) L) (j2 : s' 80 = (L : Int)) (j3 : s' 81 = Int.tmod (sEnd (F0 100) L (sTr F0 seed L).2.1 (sTr F0 seed L).2.2) 3) : PR F 31 s' := by
  obtain ⟨p1, p2, p3, p4, p5, p6, p7, p8, p9, p10⟩ := hp
  obtain ⟨hL, ⟨c1, c2, c3⟩, e1, e2, e3, e4⟩ := he
  obtain ⟨i1, i2, i3, i4⟩ := j1
  simp only [show (31 : Nat) + 1 = 32 from rfl, show (31 : Nat) + 2 = 33 from rfl, show (31 : Nat) + 3 = 34 from rfl, show (31 : Nat) + 4 = 35 from rfl, show (31 : Nat) + 5 = 36 from rfl, show (31 : Nat) + 6 = 37 from rfl, show (31 : Nat) + 7 = 38 from rfl] at *
  refine ⟨fun k k0 k1 => ?_, fun k k0 k1 => ?_, fun k k0 k1 => ?_, ?_, ?_, fun k k0 k1 => ?_, ?_, fun _ => ?_, fun _ i i0 i1' => ?_, fun _ i i0 i1' => ?_⟩
  · show F 32 _ = _
    rw [c1 32 (by decide) (by decide) (by decide) (by decide), i4 _ (by omega)]
    exact p1 k k0 k1
  · show F 33 _ = _
    rw [c1 33 (by decide) (by decide) (by decide) (by decide), i4 _ (by omega)]
    exact p2 k k0 k1
  · show F 34 _ = _
    rw [c1 34 (by decide) (by decide) (by decide) (by decide), i4 _ (by omega)]
    exact p3 k k0 k1
  · rw [c2 7 (by decide) (by decide), i4 _ (by omega)]
    exact p4
  · rw [c2 8 (by decide) (by decide), i4 _ (by omega)]
    exact p5
  · rw [i4 54 (by decide)] at k1
    show F 35 _ = _
    rw [c1 35 (by decide) (by decide) (by decide) (by decide), i4 _ (by omega)]
    exact p6 k k0 k1
  · rw [e3, i1, j2]
    rfl
  · have b := sEnd_03 (l := F0 100) (h := (L : Int)) (p := (sTr F0 seed L).2.1) (n := (sTr F0 seed L).2.2)
    have z := hL.1
    rw [e4, j3]
    generalize sEnd (F0 100) L (sTr F0 seed L).2.1 (sTr F0 seed L).2.2 = e at b z ⊢
    refine ⟨by omega, ?_⟩
    have q : e = 1 ∨ e = 2 ∨ e = 3 := by omega
    rcases q with q | q | q <;> subst q <;> rfl
  · obtain ⟨N, rfl⟩ := Int.eq_ofNat_of_zero_le i0
    rw [j2] at i1'
    have a := i2 N (by omega)
    have t1 : (82 + (N : Int)).toNat = 82 + N := by omega
    have t2 : (107 + (N : Int)).toNat = 107 + N := by omega
    have t3 : ((N : Int)).toNat = N := by omega
    rw [t1, t2, t3, a.1, a.2]
    show F 36 N = _ ∧ F 37 N = _
    by_cases q : N = L
    · rw [q]
      exact ⟨e1, e2⟩
    · have := c3 N (by omega)
      exact ⟨this.1, this.2.1⟩
  · obtain ⟨N, rfl⟩ := Int.eq_ofNat_of_zero_le i0
    rw [j2] at i1'
    have t1 : (132 + (N : Int)).toNat = 132 + N := by omega
    have t3 : ((N : Int)).toNat = N := by omega
    rw [t1, t3, i3 N (by omega)]
    exact (c3 N (by omega)).2.2
theorem p_19 {k : Int → FS → FI → FJ → Prop} {kx : Nat → FS → FI → FJ → Prop} {a b : Nat} {l s : Nat → Int} {w : La} {x1 : Int} {F0 : FI} {G0 : FJ} {S : FS} {F : FI} {G : FJ} (hR : F0 100 = l ∧ F0 112 = s ∧ mL F0 = w) (hM : 1 ≤ F a 9 → MV F0 G0) (hL : hasL S F a) (hK : 1 ≤ F a 9 → YK S F G a b l s w) (noL : F a 9 < 1 → kx 3 S (rfc F 3) G)
    (ok : 1 ≤ F a 9 → ∀ S' F' G' (L : Nat), JL F0 x1 L → (∀ s', JK F0 x1 s' s L → s' 80 = (L : Int) → s' 81 = Int.tmod (sEnd l L (sTr F0 x1 L).2.1 (sTr F0 x1 L).2.2) 3 → YK S' F' G' a b l s' w) → QCJ S S' F F' G G' → k (L : Int) S' F' G') : calI 8 19 [.inr (.inr (.inl 1)), .inl x1] (mm S F G) k kx := by
  obtain ⟨rfl, rfl, rfl⟩ := hR
  refine sg_19_0 (c_51 hL.1 hL.2 (fun q => ?_) (fun q => ex_3 ⟨_, _, _, rfl, noL q⟩))
  have hk0 := hK q
  have hm := hM q
  refine c_60 hk0 (fun S1 F1 G1 y1 q1 z1 => ?_)
  obtain ⟨ha, hb, ⟨k1, k2, k3, k4⟩, hv, hs, hw, hl, hrw, hpr, v1, v2, v3, v4, v5, v6⟩ := id y1
  have hv' := hv
  obtain ⟨⟨hv1, hv2⟩, ⟨hv3, hv4⟩, ⟨hv5, hv6⟩, ⟨hv7, hv8⟩, ⟨hv9, hv10⟩, ⟨hv11, hv12⟩, ⟨hv13, hv14⟩, hvw, hvs, hvk, hvc, hvx⟩ := id hv
  obtain ⟨so1, so2, so3, so4⟩ := v6 z1
  refine sg_289_0 ?_
  simp only [k3, lk ha, lk1 ha, lk2 ha, lk3 ha, lk4 ha, lk5 ha, lk6 ha, lk7 ha, lk8 ha, lk9 ha, lr0 ha, lr1 ha, lr2 ha, lr3 ha, lr4 ha, lr5 ha, lr6 ha, lr7 ha, lr8 ha, hl.1.2.2.2.2.1, hl.1.2.2.2.2.2.2]
  refine ck_i rfl (ck_i rfl (l_289 (F0 := F0) (Fb := F1) (seed := x1) ha k3 hm hl v3 so4 (fun L F' je => ⟨_, _, _, rfl, _, _, _, rfl, ?_⟩) (F0 100 3).toNat 0 (F0 100 6) (F0 100 4) x1 F1 (by omega) rfl (fun j a => by omega) ⟨fun _ _ _ _ _ => rfl, fun _ _ _ => rfl, fun j a => by omega⟩))
  have c1 := je.2.1.1
  refine ok q S1 F' G1 L je.1 (fun s' j1 j2 j3 => ?_) ⟨fun c hc h1 h2 h3 h4 => ?_, fun i hi => ?_, q1.2.2.1, q1.2.2.2⟩
  · have i4 := j1.2.2.2
    refine ⟨ha, hb, ⟨k1, k2, k3, k4⟩, hv', SV_79 i4 hs, hw, LR_c hl (fun i hi => c1 _ (by omega) (by omega) (by omega) (by omega)) rfl, WR_c hrw (fun i hi => c1 _ (by omega) (by omega) (by omega) (by omega)), PR_J hs.2.2.2.2.1 hpr je j1 j2 j3, ?_, ?_, ?_, ?_, ?_, fun z => ?_⟩
    · rw [c1 23 (by decide) (by decide) (by decide) (by decide)]; exact v1
    · unfold RK
      rw [c1 22 (by decide) (by decide) (by decide) (by decide), c1 24 (by decide) (by decide) (by decide) (by decide)]
      exact v2
    · rw [c1 16 (by decide) (by decide) (by decide) (by decide)]; exact v3
    · rw [c1 19 (by decide) (by decide) (by decide) (by decide)]; exact v4
    · rw [c1 1 (by decide) (by decide) (by decide) (by decide)]; exact v5
    · have := SOL_79 hv' hs i4 (v6 z1)
      unfold SOL at this ⊢
      rw [c1 7 (by decide) (by decide) (by decide) (by decide), c1 6 (by decide) (by decide) (by decide) (by decide), c1 18 (by decide) (by decide) (by decide) (by decide)]
      exact this
  · rw [c1 c h1 h2 h3 h4]
    exact q1.1 c hc
  · rw [c1 1 (by decide) (by decide) (by decide) (by decide)]
    exact q1.2.1 i hi
/-! ===== rounds, one after the other ===== -/
def lowF (r : Int → Int) : Nat → Int
  | 0 => -1
  | k + 1 => if r ((k : Int) + 1) < r k then lowF r k else k
def highF (r : Int → Int) (low : Int) : Nat → Int
  | 0 => 0
  | c + 1 => if low < (c : Int) + 1 ∧ r ((c : Int) + 1) < r low then highF r low c else (c : Int) + 1
def swF (r : Int → Int) (i j : Int) : Int → Int := fun x => if x = j then r i else if x = i then r j else r x
def revF : Nat → (Int → Int) → Int → Int → Int → Int
  | 0, r, _, _ => r
  | f + 1, r, i, j => if i < j then revF f (swF r i j) (i + 1) (j - 1) else r
def nxR (n : Nat) (r : Int → Int) : Int → Int := revF 3 (swF r (lowF r (n - 1)) (highF r (lowF r (n - 1)) (n - 1))) (lowF r (n - 1) + 1) ((n : Int) - 1)
def dgS (r : Int → Int) : Nat → Int
  | 0 => 0
  | i + 1 => dgS r i * 10 + r i
def nbL (n : Nat) (d : Int) : Bool := decide (∀ j : Nat, j < n → 0 ≤ dg n d j ∧ dg n d j < n) && (decide (dgS (dg n d) n = d) && decide (0 ≤ d))
def chkL (n : Nat) : List Int → Bool
  | [] => true
  | d :: t => nbL n d && ((match t with
    | [] => decide (lowF (dg n d) (n - 1) < 0)
    | e :: _ => decide (0 ≤ lowF (dg n d) (n - 1)) && decide (∀ j : Nat, j < n → nxR n (dg n d) j = dg n e j)) && chkL n t)
def hdL (n : Nat) : List Int → Bool
  | [] => false
  | d :: t => decide (∀ j : Nat, j < n → dg n d j = j) && decide ((d :: t).length ≤ 120)
theorem rnd_all : ∀ n : Nat, n < 6 → 1 ≤ n → chkL n (pf n n 0 0) = true ∧ hdL n (pf n n 0 0) = true := by decide +kernel
