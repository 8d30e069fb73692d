/-! ===== the class tries out ===== -/
theorem sCh_cc {l : Nat → Int} {st a e : Int} {c d : Cf} (hv : LV l) (hs : 0 ≤ st) (hst : st ≤ 12) (ha : 0 ≤ a) (hc : CV l st c) (hd : CV l st d) (he : CE l st a c d) :
    ∀ t : Nat, (t : Int) ≤ l 3 - a → ∀ p n, 0 ≤ p → p < l 0 → 0 ≤ n → n ≤ st → sCh l c st e t p n = sCh l d st e t p n := by
  obtain ⟨⟨hv1, hv2⟩, ⟨hv3, hv4⟩, ⟨hv5, hv6⟩, ⟨hv7, hv8⟩, ⟨hv9, hv10⟩, ⟨hv11, hv12⟩, ⟨hv13, hv14⟩, hvw, hvs, hvk, hvc, hvx⟩ := id hv
  intro t
  induction t with
  | zero => intro _ p n _ _ _ _; rfl
  | succ t ih =>
    intro ht p n h1 h2 h3 h4
    have i := ih (by omega)
    have hh : (l 3 - (l 3 - ((t : Int) + 1))).toNat = t + 1 := by omega
    have hh2 : (l 3 - (l 3 - ((t : Int) + 1) + 1)).toNat = t := by omega
    have hw : vs l st (l 3 - ((t : Int) + 1)) p n := ⟨by omega, by omega, h1, h2, h3, h4⟩
    by_cases q : sEnd l (l 3 - ((t : Int) + 1)) p n = 0
    · obtain ⟨c1, c2⟩ := sEnd_n q
      have e1 := sCh_g (c := c) (st := st) (e := e) (by omega) q
      have e2 := sCh_g (c := d) (st := st) (e := e) (by omega) q
      rw [hh, hh2] at e1 e2
      have tk := sTk_in hv hc hw q
      rw [e1, e2, ← sTk_ce hv hs hst ha hc hd he (by omega) hw]
      exact sBr_c hv hs h1 h2 (by omega) h4 tk.1 tk.2 hst (fun q s a b c d => i q s a b c d)
    · have e1 := sCh_e (c := c) (st := st) (e := e) (by omega) q
      have e2 := sCh_e (c := d) (st := st) (e := e) (by omega) q
      rw [hh] at e1 e2
      rw [e1, e2]
theorem cK_ce {l : Nat → Int} {st a k : Int} {c d : Cf} (he : CE l st a c d) (h0 : 0 ≤ k) (h1 : k < l 2) : cK c k = cK d k := by
  obtain ⟨e1, e2, e3, e4, e5⟩ := he
  unfold cK
  rw [e5, e2 k h0 h1]
theorem fC_cc {l : Nat → Int} {st a o q s : Int} {c d : Cf} {t : Nat} (hv : LV l) (hs : 0 ≤ st) (hst : st ≤ 12) (ha : 0 ≤ a) (hc : CV l st c) (hd : CV l st d) (he : CE l st a c d) (ht : (t : Int) ≤ l 3 - a) (h1 : 0 ≤ q) (h2 : q < l 0) (h3 : 0 ≤ s) (h4 : s ≤ st) (ho : YV l c o) : fC l c st t o q s = fC l d st t o q s := by
  obtain ⟨⟨hv1, hv2⟩, ⟨hv3, hv4⟩, ⟨hv5, hv6⟩, ⟨hv7, hv8⟩, ⟨hv9, hv10⟩, ⟨hv11, hv12⟩, ⟨hv13, hv14⟩, hvw, hvs, hvk, hvc, hvx⟩ := id hv
  unfold YV at ho
  unfold fC
  rw [sCh_cc hv hs hst ha hc hd he t ht q s h1 h2 h3 h4, sCh_cc hv hs hst ha hc hd he t ht q s h1 h2 h3 h4]
  by_cases o7 : o < 7
  · rw [if_pos o7, if_pos o7]
    by_cases o0 : o = 0
    · rw [if_pos o0, if_pos o0]
    · rw [if_neg o0, if_neg o0]
      by_cases o1 : o = 1
      · rw [if_pos o1, if_pos o1]
      · rw [if_neg o1, if_neg o1, sW_cc hv hs hst ha hc hd he t ht (o - 2) q s (by omega) (by omega) h1 h2 h3 h4]
  · rw [if_neg o7, if_neg o7, if_neg (show ¬ o = 0 by omega), if_neg (show ¬ o = 0 by omega), if_neg (show ¬ o = 1 by omega), if_neg (show ¬ o = 1 by omega), cK_ce he (by omega) (by omega)]
    have m := he.2.2.2.1
    split
    · exact sDr_cc hv hs hst ha hc.2.2.1 (fun _ _ _ => ⟨by omega, by omega⟩) (fun _ _ _ => rfl) m t ht q s h1 h2 h3 h4
    · exact sDr_cc hv hs hst ha hc.2.2.1 (fun h x y => hc.1 h (by omega) y) he.1 m t ht q s h1 h2 h3 h4
theorem YV_ce {l : Nat → Int} {st a o : Int} {c d : Cf} (he : CE l st a c d) (ho : YV l d o) : YV l c o := by
  unfold YV at ho ⊢
  refine ⟨ho.1, ho.2.elim Or.inl (fun y => Or.inr ⟨y.1, ?_⟩)⟩
  rw [cK_ce he (by omega) (by omega)]
  exact y.2
/-- a tried scene is worked out -/
theorem m_try {k : FS → FI → FJ → Prop} {a b : Nat} {l s : Nat → Int} {w : La} {g : Cf} {st x3 : Int} {S : FS} {F F2 : FI} {G G2 : FJ} (hk0 : YK S F G a b l s w) (f : ∀ c, ¬ (11 ≤ c ∧ c ≤ 15) → F2 c = F c) (hG2 : ∀ i, i ≠ 20 → G2 i = G i) (hr : SR F2 11 l w g) (h4 : F2 11 4 = st) (hs0 : 0 ≤ st) (hst : st ≤ 12) (hc : CV l st g) (hcw : CW l g) (h3 : -1 ≤ x3) (h3' : x3 ≤ l 3)
    (ht : x3 < l 3 → ∀ p n, vs l st (x3 + 1) p n → GS G2 19 l g st (x3 + 1) p n)
    (hk : ∀ S' F' G', YK S' F' G' a b l s w → QC S S' F F' G G' → F' 1 17 = F 1 17 → TRY F' G' l g st → k S' F' G') : calV 6 257 [.inr (.inr (.inl 22)), .inr (.inr (.inl 11)), .inr (.inr (.inl 19)), .inl x3] (mm S F2 G2) k nof := by
  obtain ⟨ha, hb, ⟨k1, k2, k3, k4⟩, hv, hs, hw, hl, hrw, hpr, v1, v2, v3, v4, v5, v6⟩ := id hk0
  have fk : ∀ i, kpC i → F2 i = F i := fun i hi => f i (by unfold kpC at hi; omega)
  have hx := YK_Y (c := 11) (d := 19) (st := st) hk0 (Or.inr rfl) (Or.inr rfl) fk h4 (by rw [f 19 (by decide)]) hs0 hst
  have hx2 : YX (lk2S S 11 19) F2 G2 a b 11 19 l w st := YX_k hx (fun _ _ _ _ _ _ _ => rfl) hG2
  refine c_257r hx2 hr hc hcw (by rw [f 23 (by decide)]; exact v1) ?_ h3 h3' ht (fun F' G' g1 g2 g2' g3 g4 g5 g6 => ?_)
  · unfold RK
    rw [f 22 (by decide), f 24 (by decide)]
    exact v2
  · have o1 : ∀ i, i ≠ 22 → i ≠ 23 → i ≠ 24 → i ≠ 25 → i ≠ b + 4 → i ≠ b + 5 → i ≠ 21 → ¬ (11 ≤ i ∧ i ≤ 15) → F' i = F i := fun i i1 i2 i3 i4 i5 i6 i7 i8 => (g1 i i1 i2 i3 i4 i5 i6 i7).trans (f i i8)
    have q : QC S (lk2S S 11 19) F F' G G' := by
      refine QC_t (F1 := F) (G1 := G) QC_S ⟨fun c hc => ?_, fun i hi => ?_, fun c hc => (g4 c (by omega)).trans (hG2 c (by omega)), fun _ _ _ => rfl⟩
      · unfold kpC at hc
        exact o1 c (by omega) (by omega) (by omega) (by omega) (by omega) (by omega) (by omega) (by omega)
      · rw [o1 1 (by omega) (by omega) (by omega) (by omega) (by omega) (by omega) (by omega) (by omega)]
    have e1 : F' 1 = F 1 := o1 1 (by omega) (by omega) (by omega) (by omega) (by omega) (by omega) (by omega) (by omega)
    refine hk _ F' G' (YK_q hk0 q ⟨g5, Or.inr ⟨?_, ?_⟩, ?_, ?_, ?_, fun z => ?_⟩) q (by rw [e1]) ⟨?_, g6⟩
    · rw [g3.1]
      exact hs0
    · rw [g3.1]
      exact g3.2
    · rw [o1 16 (by omega) (by omega) (by omega) (by omega) (by omega) (by omega) (by omega) (by omega)]
      exact v3
    · rw [o1 19 (by omega) (by omega) (by omega) (by omega) (by omega) (by omega) (by omega) (by omega)]
      exact v4
    · rw [e1]
      exact v5
    · rw [e1] at z
      obtain ⟨s1, s2, s3, s4⟩ := v6 z
      have g17 : G' 17 = G 17 := (g4 17 (by decide)).trans (hG2 17 (by decide))
      refine ⟨?_, ?_, fun h p n hw o ho => ?_, ?_⟩
      · rw [o1 7 (by omega) (by omega) (by omega) (by omega) (by omega) (by omega) (by omega) (by omega)]
        exact s1
      · rw [o1 6 (by omega) (by omega) (by omega) (by omega) (by omega) (by omega) (by omega) (by omega)]
        exact s2
      · rw [show (16 : Nat) + 1 = 17 from rfl, g17]
        exact s3 h p n hw o ho
      · rw [o1 18 (by omega) (by omega) (by omega) (by omega) (by omega) (by omega) (by omega) (by omega)]
        exact s4
    · rw [g1 11 (by omega) (by omega) (by omega) (by omega) (by omega) (by omega) (by omega)]
      exact h4
theorem CE_led {l : Nat → Int} {st h k : Int} {c : Cf} (hh : 0 ≤ h) : CE l st (h + 1) c (cLed c h k) := by
  refine ⟨fun x a b => ?_, fun _ _ _ => rfl, fun _ _ _ => rfl, fun _ _ _ _ _ _ _ _ => rfl, rfl⟩
  show c.1 x = if x = h then k else c.1 x
  rw [if_neg (by omega)]
theorem CE_t {l : Nat → Int} {st a : Int} {c d e : Cf} (h1 : CE l st a c d) (h2 : CE l st a d e) : CE l st a c e := ⟨fun h x y => (h1.1 h x y).trans (h2.1 h x y), fun k x y => (h1.2.1 k x y).trans (h2.2.1 k x y), fun h x y => (h1.2.2.1 h x y).trans (h2.2.2.1 h x y), fun k h p n a b c d => (h1.2.2.2.1 k h p n a b c d).trans (h2.2.2.2.1 k h p n a b c d), h1.2.2.2.2.trans h2.2.2.2.2⟩
theorem CE_le {l : Nat → Int} {st a b : Int} {c d : Cf} (h : CE l st a c d) (hab : a ≤ b) : CE l st b c d := ⟨fun h' x y => h.1 h' (by omega) y, h.2.1, fun h' x y => h.2.2.1 h' (by omega) y, h.2.2.2⟩
/-- hours kept from the whole table -/
theorem GS_keep {G G2 : FJ} {l : Nat → Int} {g d : Cf} {st h p n : Int} (hv : LV l) (hs : 0 ≤ st) (hst : st ≤ 12) (h0 : 0 ≤ h) (hw : vs l st h p n) (hc : CV l st g) (hd : CV l st d) (he : CE l st h g d) (hG : GS G 16 l g st h p n) (hk : ∀ o : Int, 0 ≤ o → o < 12 → G2 20 (sp 19 h p n * 12 + o).toNat = G 17 (sp 16 h p n * 12 + o).toNat) : GS G2 19 l d st h p n := by
  obtain ⟨⟨hv1, hv2⟩, ⟨hv3, hv4⟩, ⟨hv5, hv6⟩, ⟨hv7, hv8⟩, ⟨hv9, hv10⟩, ⟨hv11, hv12⟩, ⟨hv13, hv14⟩, hvw, hvs, hvk, hvc, hvx⟩ := id hv
  intro o ho
  have hg := YV_ce he ho
  have ho' := ho
  unfold YV at ho'
  obtain ⟨w1, w2, w3, w4, w5, w6⟩ := hw
  rw [show (19 : Nat) + 1 = 20 from rfl, hk o ho'.1 (by omega), ← fC_cc hv hs hst h0 hc hd he (t := (l 3 - h).toNat) (by omega) w3 w4 w5 w6 hg]
  exact hG o hg
theorem c_64 {k : FS → FI → FJ → Prop} {a b : Nat} {l s : Nat → Int} {w : La} {x1 x2 : Int} {S : FS} {F : FI} {G : FJ} (hk0 : YK S F G a b l s w) (hs1 : F 1 17 = 1) (h1 : 0 ≤ x1) (h1' : x1 < l 3) (h2 : 0 ≤ x2) (h2' : x2 < l 2)
    (hk : ∀ S' F' G', YK S' F' G' a b l s w → QC S S' F F' G G' → F' 1 17 = 1 → TRY F' G' l (cLed (sCf l s w) x1 x2) (l 4) → k S' F' G') : calV 7 64 [.inr (.inr (.inl 1)), .inl x1, .inl x2] (mm S F G) k nof := by
  obtain ⟨ha, hb, ⟨k1, k2, k3, k4⟩, hv, hs, hw, hl, hrw, hpr, v1, v2, v3, v4, v5, v6⟩ := id hk0
  have hv' := hv
  obtain ⟨⟨hv1, hv2⟩, ⟨hv3, hv4⟩, ⟨hv5, hv6⟩, ⟨hv7, hv8⟩, ⟨hv9, hv10⟩, ⟨hv11, hv12⟩, ⟨hv13, hv14⟩, hvw, hvs, hvk, hvc, hvx⟩ := id hv
  obtain ⟨so1, so2, so3, so4⟩ := v6 hs1
  have c0 := sCf_v (w := w) (l 4) hv hs
  have c1 := cLed_v (h := x1) c0 h2 h2'
  refine sg_64_0 ?_
  simp only [k1]
  refine c_247 ha (Or.inr rfl) hv hs hl hpr (fun F1 f1 f2 f3 f4 => ?_)
  have o1 : ∀ c, ¬ (11 ≤ c ∧ c ≤ 15) → F1 c = F c := fun c hc => f1 c (by omega) (by omega) (by omega) (by omega) (by omega)
  have o2 : ∀ c, ¬ (11 ≤ c ∧ c ≤ 15) → u2 F1 12 x1.toNat x2 c = F c := fun c hc => (u2_o (by omega)).trans (o1 c hc)
  rw [wr_id (a := x1 + 1) (by omega) (by omega)]
  refine ck_i (jb_i h1 (by omega)) (c_272 (by rw [o2 16 (by decide)]; exact v3) (by rw [o2 19 (by decide)]; exact v4) (by omega) (by omega) (fun G2 g1 g2 => ?_))
  have sl : SL (u2 F1 12 x1.toNat x2) 11 l s := by
    unfold SL at f4 ⊢
    rw [u2_o (by decide), u2_o (by decide), u2_o (by decide)]
    exact f4
  refine m_try (g := cLed (sCf l s w) x1 x2) hk0 o2 g1 (SL_R hv sl (fun x x0 x1' => ?_) (fun k k0 k1 => ?_) rfl) (by rw [u2_o (by decide)]; exact f4.2.1) (by omega) (by omega) c1 (sCf_w hs hv) (by omega) (by omega) (fun _ p n hw' => ?_) (fun S' F' G' y1 y2 y3 y4 => ⟨_, _, _, rfl, hk S' F' G' y1 y2 (y3.trans hs1) y4⟩)
  · show u2 F1 12 x1.toNat x2 12 x.toNat = if x = x1 then x2 else sLd l s x
    rw [u2_k]
    by_cases y : x = x1
    · rw [if_pos (by rw [y]), if_pos y]
    · rw [if_neg (by omega), if_neg y]
      exact f2 x x0 (by omega)
  · rw [u2_o (by decide)]
    exact f3 k k0 (by omega)
  · obtain ⟨q1, q2, q3, q4, q5, q6⟩ := id hw'
    exact GS_keep hv (by omega) (by omega) (by omega) hw' c0 c1 (CE_led h1) (so3 _ p n hw') (fun o o0 o1 => g2 p n o q3 (by omega) q5 (by omega) o0 o1)
theorem c_65 {k : FS → FI → FJ → Prop} {a b : Nat} {l s : Nat → Int} {w : La} {x1 x2 : Int} {S : FS} {F : FI} {G : FJ} (hk0 : YK S F G a b l s w) (hs1 : F 1 17 = 1) (h1 : 0 ≤ x1) (h1' : x1 < l 3) (h2 : 0 ≤ x2) (h2' : x2 < l 3)
    (hk : ∀ S' F' G', YK S' F' G' a b l s w → QC S S' F F' G G' → F' 1 17 = 1 → TRY F' G' l (cLed (cLed (sCf l s w) x1 (sLd l s x2)) x2 (sLd l s x1)) (l 4) → k S' F' G') : calV 7 65 [.inr (.inr (.inl 1)), .inl x1, .inl x2] (mm S F G) k nof := by
  obtain ⟨ha, hb, ⟨k1, k2, k3, k4⟩, hv, hs, hw, hl, hrw, hpr, v1, v2, v3, v4, v5, v6⟩ := id hk0
  have hv' := hv
  obtain ⟨⟨hv1, hv2⟩, ⟨hv3, hv4⟩, ⟨hv5, hv6⟩, ⟨hv7, hv8⟩, ⟨hv9, hv10⟩, ⟨hv11, hv12⟩, ⟨hv13, hv14⟩, hvw, hvs, hvk, hvc, hvx⟩ := id hv
  obtain ⟨so1, so2, so3, so4⟩ := v6 hs1
  have c0 := sCf_v (w := w) (l 4) hv hs
  have l1 := sLd_b hv hs h1 (by omega)
  have l2 := sLd_b hv hs h2 (by omega)
  have c1 := cLed_v (h := x1) c0 l2.1 l2.2
  have c2 := cLed_v (h := x2) c1 l1.1 l1.2
  refine sg_65_0 ?_
  simp only [k1]
  refine c_247 ha (Or.inr rfl) hv hs hl hpr (fun F1 f1 f2 f3 f4 => ?_)
  have o1 : ∀ c, ¬ (11 ≤ c ∧ c ≤ 15) → F1 c = F c := fun c hc => f1 c (by omega) (by omega) (by omega) (by omega) (by omega)
  have e7 : F1 7 = F 7 := o1 7 (by decide)
  rw [e7, so1 x1 h1 (by omega), so1 x2 h2 (by omega)]
  have o2 : ∀ c, ¬ (11 ≤ c ∧ c ≤ 15) → u2 (u2 F1 12 x1.toNat (sLd l s x2)) 12 x2.toNat (sLd l s x1) c = F c := fun c hc => by
    rw [u2_o (by omega), u2_o (by omega)]
    exact o1 c hc
  have mx : ∃ m, (if x1 < x2 then x2 else x1) = m ∧ x1 ≤ m ∧ x2 ≤ m ∧ m < l 3 := ⟨_, rfl, by split <;> omega, by split <;> omega, by split <;> omega⟩
  obtain ⟨m, em, m1, m2, m3⟩ := mx
  rw [em, wr_id (a := m + 1) (by omega) (by omega)]
  refine ck_i (jb_i h2 (by omega)) (ck_i (jb_i h1 (by omega)) (ck_i (jb_i h1 (by omega)) (ck_i (jb_i h2 (by omega)) (c_272 (by rw [o2 16 (by decide)]; exact v3) (by rw [o2 19 (by decide)]; exact v4) (by omega) (by omega) (fun G2 g1 g2 => ?_)))))
  have sl : SL (u2 (u2 F1 12 x1.toNat (sLd l s x2)) 12 x2.toNat (sLd l s x1)) 11 l s := by
    unfold SL at f4 ⊢
    rw [u2_o (by decide), u2_o (by decide), u2_o (by decide), u2_o (by decide), u2_o (by decide), u2_o (by decide)]
    exact f4
  refine m_try (g := cLed (cLed (sCf l s w) x1 (sLd l s x2)) x2 (sLd l s x1)) hk0 o2 g1 (SL_R hv sl (fun x x0 x1' => ?_) (fun k k0 k1 => ?_) rfl) (by rw [u2_o (by decide), u2_o (by decide)]; exact f4.2.1) (by omega) (by omega) c2 (sCf_w hs hv) (by omega) (by omega) (fun _ p n hw' => ?_) (fun S' F' G' y1 y2 y3 y4 => ⟨_, _, _, rfl, hk S' F' G' y1 y2 (y3.trans hs1) y4⟩)
  · show u2 (u2 F1 12 x1.toNat (sLd l s x2)) 12 x2.toNat (sLd l s x1) 12 x.toNat = if x = x2 then sLd l s x1 else if x = x1 then sLd l s x2 else sLd l s x
    rw [u2_k, u2_k]
    by_cases y : x = x2
    · rw [if_pos (by rw [y]), if_pos y]
    · rw [if_neg (by omega), if_neg y]
      by_cases y : x = x1
      · rw [if_pos (by rw [y]), if_pos y]
      · rw [if_neg (by omega), if_neg y]
        exact f2 x x0 (by omega)
  · rw [u2_o (by decide), u2_o (by decide)]
    exact f3 k k0 (by omega)
  · obtain ⟨q1, q2, q3, q4, q5, q6⟩ := id hw'
    exact GS_keep hv (by omega) (by omega) (by omega) hw' c0 c2 (CE_t (CE_le (CE_led h1) (by omega)) (CE_le (CE_led h2) (by omega))) (so3 _ p n hw') (fun o o0 o1 => g2 p n o q3 (by omega) q5 (by omega) o0 o1)
theorem or_pc : ∀ a, a < 5 → ∀ b, b < 5 → 1 ≤ (2 ^ (2 + a) ||| 2 ^ (2 + b)) ∧ (2 ^ (2 + a) ||| 2 ^ (2 + b)) < 4096 ∧ ∀ k, k < 12 → ((2 ^ (2 + a) ||| 2 ^ (2 + b)).testBit k = true ↔ k = 2 + a ∨ k = 2 + b) := by decide +kernel
theorem c_66 {k : FS → FI → FJ → Prop} {a b : Nat} {l s : Nat → Int} {w : La} {x1 x2 : Int} {S : FS} {F : FI} {G : FJ} (hk0 : YK S F G a b l s w) (h1 : 0 ≤ x1) (h1' : x1 < l 2) (h2 : 0 ≤ x2) (h2' : x2 < l 2) (h12 : x1 ≠ x2)
    (hk : ∀ S' F' G', YK S' F' G' a b l s w → QC S S' F F' G G' → F' 1 17 = F 1 17 → TRY F' G' l (cPct (sCf l s w) x1 x2) (l 4) → k S' F' G') : calV 7 66 [.inr (.inr (.inl 1)), .inl x1, .inl x2] (mm S F G) k nof := by
  obtain ⟨ha, hb, ⟨k1, k2, k3, k4⟩, hv, hs, hw, hl, hrw, hpr, v1, v2, v3, v4, v5, v6⟩ := id hk0
  have hv' := hv
  obtain ⟨⟨hv1, hv2⟩, ⟨hv3, hv4⟩, ⟨hv5, hv6⟩, ⟨hv7, hv8⟩, ⟨hv9, hv10⟩, ⟨hv11, hv12⟩, ⟨hv13, hv14⟩, hvw, hvs, hvk, hvc, hvx⟩ := id hv
  have c0 := sCf_v (w := w) (l 4) hv hs
  have c1 : CV l (l 4) (cPct (sCf l s w) x1 x2) := cPct_v c0 (fun q => by omega)
  have cw : CW l (cPct (sCf l s w) x1 x2) := ⟨(sCf_w (w := w) hs hv).1, Or.inr ⟨⟨h1, h1'⟩, ⟨h2, h2'⟩, h12⟩⟩
  refine sg_66_0 ?_
  simp only [k1, lk ha, lk1 ha, lk2 ha, lk3 ha, lk4 ha, lk5 ha, lk6 ha, lk7 ha, lk8 ha, lk9 ha, lr0 ha, lr1 ha, lr2 ha, lr3 ha, lr4 ha, lr5 ha, lr6 ha, lr7 ha, lr8 ha]
  refine c_247 ha (Or.inr rfl) hv hs hl hpr (fun F1 f1 f2 f3 f4 => ?_)
  have o1 : ∀ c, ¬ (11 ≤ c ∧ c ≤ 15) → F1 c = F c := fun c hc => f1 c (by omega) (by omega) (by omega) (by omega) (by omega)
  simp only [k1, lk ha, lk1 ha, lk2 ha, lk3 ha, lk4 ha, lk5 ha, lk6 ha, lk7 ha, lk8 ha, lk9 ha, lr0 ha, lr1 ha, lr2 ha, lr3 ha, lr4 ha, lr5 ha, lr6 ha, lr7 ha, lr8 ha]
  rw [wr_id (a := 2 + x1) (by omega) (by omega), wr_id (a := 2 + x2) (by omega) (by omega)]
  obtain ⟨X1, rfl⟩ := Int.eq_ofNat_of_zero_le h1
  obtain ⟨X2, rfl⟩ := Int.eq_ofNat_of_zero_le h2
  have s1 := shl_1 (i := 2 + (X1 : Int)) (by omega) (by omega)
  have s2 := shl_1 (i := 2 + (X2 : Int)) (by omega) (by omega)
  have oc := or_pc X1 (by omega) X2 (by omega)
  have ev : orr (shl 1 (2 + (X1 : Int))) (shl 1 (2 + (X2 : Int))) = ((2 ^ (2 + X1) ||| 2 ^ (2 + X2) : Nat) : Int) := by
    have t1 : (2 + (X1 : Int)).toNat = 2 + X1 := by omega
    have t2 : (2 + (X2 : Int)).toNat = 2 + X2 := by omega
    rw [t1] at s1
    rw [t2] at s2
    have b1 := s1.2.2
    have b2 := s2.2.2
    rw [s1.1] at b1 ⊢
    rw [s2.1] at b2 ⊢
    exact orr_n (by omega) (by omega)
  rw [ev]
  generalize hpv : (2 ^ (2 + X1) ||| 2 ^ (2 + X2) : Nat) = pv at oc
  have o2 : ∀ c, ¬ (11 ≤ c ∧ c ≤ 15) → u2 (u2 (u2 F1 13 (X1 : Int).toNat 6) 13 (X2 : Int).toNat 6) 11 6 (pv : Int) c = F c := fun c hc => by
    rw [u2_o (by omega), u2_o (by omega), u2_o (by omega)]
    exact o1 c hc
  have ea : (u2 (u2 (u2 F1 13 (X1 : Int).toNat 6) 13 (X2 : Int).toNat 6) 11 6 (pv : Int)) a 12 = l 3 := by
    rw [o2 a (by omega)]
    exact hl.1.2.2.2.1
  rw [ea]
  refine ck_i (jb_i h1 (by omega)) (ck_i (jb_i h2 (by omega)) (ck_i rfl ?_))
  refine m_try (g := cPct (sCf l s w) X1 X2) hk0 o2 (fun _ _ => rfl) ⟨fun h h0 h1' => ?_, fun k k0 k1 => ?_, fun h h0 h1' => ?_, ?_, fun _ => ⟨?_, fun k k0 k1 => ?_⟩⟩ ?_ (by omega) (by omega) c1 cw (by omega) (by omega) (fun q => absurd q (by omega)) (fun S' F' G' y1 y2 y3 y4 => ⟨_, _, _, rfl, hk S' F' G' y1 y2 y3 y4⟩)
  · rw [u2_o (by decide), u2_o (by decide), u2_o (by decide)]
    exact f2 h h0 (by omega)
  · show u2 _ 11 6 _ 13 k.toNat = if (0 : Int) = 1 then 7 else if k = X1 ∨ k = X2 then 6 else s k.toNat
    rw [if_neg (by decide), u2_o (by decide), u2_k, u2_k]
    by_cases y : k = X1 ∨ k = X2
    · rw [if_pos y]
      by_cases y2 : k.toNat = (X2 : Int).toNat
      · rw [if_pos y2]
      · rw [if_neg y2, if_pos (by omega)]
    · rw [if_neg y, if_neg (by omega), if_neg (by omega)]
      exact f3 k k0 (by omega)
  · rw [u2_o (by decide), u2_o (by decide), u2_o (by decide)]
    exact f4.1 h h0 (by omega)
  · show sMask l w (-1) = _
    rw [u2_n (by decide), u2_o (by decide), u2_o (by decide), f4.2.2.1]
  · rw [u2_s]
    omega
  · rw [u2_s]
    obtain ⟨K, rfl⟩ := Int.eq_ofNat_of_zero_le k0
    rw [bit_tb, oc.2.2 K (by omega)]
    show _ ↔ (K : Int) = 2 + (X1 : Int) ∨ (K : Int) = 2 + (X2 : Int)
    omega
  · rw [u2_n (by decide), u2_o (by decide), u2_o (by decide)]
    exact f4.2.1
theorem c_67 {k : Int → FS → FI → FJ → Prop} {a b : Nat} {l s : Nat → Int} {w : La} {x1 x2 : Int} {S : FS} {F : FI} {G : FJ} (hk0 : YK S F G a b l s w) (h1 : 0 ≤ x1) (h1' : x1 < l 2) (h2 : 0 ≤ x2) (h2' : x2 ≤ 5)
    (hk : ∀ S' F' G', YK S' F' G' a b l s w → QC S S' F F' G G' → k (sNow l (cKnd (sCf l s w) x1 x2) (l 4) x1) S' F' G') : calL 7 67 [.inr (.inr (.inl 1)), .inl x1, .inl x2] (mm S F G) k nof := by
  obtain ⟨ha, hb, ⟨k1, k2, k3, k4⟩, hv, hs, hw, hl, hrw, hpr, v1, v2, v3, v4, v5, v6⟩ := id hk0
  have hv' := hv
  obtain ⟨⟨hv1, hv2⟩, ⟨hv3, hv4⟩, ⟨hv5, hv6⟩, ⟨hv7, hv8⟩, ⟨hv9, hv10⟩, ⟨hv11, hv12⟩, ⟨hv13, hv14⟩, hvw, hvs, hvk, hvc, hvx⟩ := id hv
  have c0 := sCf_v (w := w) (l 4) hv hs
  have c1 : CV l (l 4) (cKnd (sCf l s w) x1 x2) := cKnd_v c0
  have cw : CW l (cKnd (sCf l s w) x1 x2) := by
    refine ⟨fun k k0 k1 => ?_, Or.inl ⟨rfl, rfl⟩⟩
    show 0 ≤ (if k = x1 then x2 else s k.toNat) ∧ (if k = x1 then x2 else s k.toNat) ≤ 5
    split
    · omega
    · exact hs.1 k k0 (by omega)
  refine sg_67_0 ?_
  simp only [k1, lk ha, lk1 ha, lk2 ha, lk3 ha, lk4 ha, lk5 ha, lk6 ha, lk7 ha, lk8 ha, lk9 ha, lr0 ha, lr1 ha, lr2 ha, lr3 ha, lr4 ha, lr5 ha, lr6 ha, lr7 ha, lr8 ha]
  refine c_247 ha (Or.inr rfl) hv hs hl hpr (fun F1 f1 f2 f3 f4 => ?_)
  have o1 : ∀ c, ¬ (11 ≤ c ∧ c ≤ 15) → F1 c = F c := fun c hc => f1 c (by omega) (by omega) (by omega) (by omega) (by omega)
  simp only [k1, lk ha, lk1 ha, lk2 ha, lk3 ha, lk4 ha, lk5 ha, lk6 ha, lk7 ha, lk8 ha, lk9 ha, lr0 ha, lr1 ha, lr2 ha, lr3 ha, lr4 ha, lr5 ha, lr6 ha, lr7 ha, lr8 ha]
  have o2 : ∀ c, ¬ (11 ≤ c ∧ c ≤ 15) → u2 F1 13 x1.toNat x2 c = F c := fun c hc => (u2_o (by omega)).trans (o1 c hc)
  have ea : u2 F1 13 x1.toNat x2 a 12 = l 3 := by
    rw [o2 a (by omega)]
    exact hl.1.2.2.2.1
  rw [ea]
  have sl : SL (u2 F1 13 x1.toNat x2) 11 l s := by
    unfold SL at f4 ⊢
    rw [u2_o (by decide), u2_o (by decide), u2_o (by decide)]
    exact f4
  refine ck_i (jb_i h1 (by omega)) (ck_i rfl ?_)
  refine m_try (g := cKnd (sCf l s w) x1 x2) hk0 o2 (fun _ _ => rfl) (SL_R hv sl (fun x x0 x1' => ?_) (fun k k0 k1 => ?_) rfl) (by rw [u2_o (by decide)]; exact f4.2.1) (by omega) (by omega) c1 cw (by omega) (by omega) (fun q => absurd q (by omega)) (fun S' F' G' y1 y2 y3 y4 => ?_)
  · rw [u2_o (by decide)]
    exact f2 x x0 (by omega)
  · show u2 F1 13 x1.toNat x2 13 k.toNat = if k = x1 then x2 else s k.toNat
    rw [u2_k]
    by_cases y : k = x1
    · rw [if_pos (by rw [y]), if_pos y]
    · rw [if_neg (by omega), if_neg y]
      exact f3 k k0 (by omega)
  · have hl' := y1.2.2.2.2.2.2.1
    refine c_62 (g := cKnd (sCf l s w) x1 x2) ha (Or.inr rfl) (Or.inr rfl) y1.2.2.1.1 hv ⟨hl'.1.2.2.1, hl'.1.2.2.2.2.2.2⟩ (by omega) (by omega) c1 y4.2 y4.1 y1.2.2.2.2.2.2.2.2.2.2.2.2.1 (by omega) h1' ⟨_, _, _, rfl, ?_⟩
    have := hk S' F' G' y1 y2
    unfold sTo
    rw [if_neg (by omega)]
    exact this
