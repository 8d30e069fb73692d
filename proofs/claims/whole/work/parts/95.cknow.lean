/-! ===== the class between calls, and what it tries out ===== -/
/-- the whole table tells how it is -/
def SOL (F : FI) (G : FJ) (l s : Nat → Int) (w : La) : Prop := (∀ h : Int, 0 ≤ h → h < 24 → F 7 h.toNat = sLd l s h) ∧ F 6 4 = l 4 ∧ (∀ h p n, vs l (l 4) h p n → GS G 16 l (sCf l s w) (l 4) h p n) ∧ (∀ h p n, vs l (l 4) h p n → F 18 (sp 16 h p n).toNat = sTk l (sCf l s w) (l 4) h p n)
def VC (F : FI) (G : FJ) (l s : Nat → Int) (w : La) : Prop := MC (F 23) l w ∧ (F 22 6 = -1 ∨ 0 ≤ F 22 6 ∧ RK F l (F 22 6)) ∧ F 16 0 = 1 ∧ F 19 0 = 0 ∧ (F 1 17 = 0 ∨ F 1 17 = 1) ∧ (F 1 17 = 1 → SOL F G l s w)
/-- where land and law stand -/
def KS (S : FS) (a b : Nat) : Prop := S 1 0 = a ∧ S 1 2 = b ∧ S 22 0 = a ∧ S 22 1 = b
/-- a land is told, and the class knows it -/
def YK (S : FS) (F : FI) (G : FJ) (a b : Nat) (l s : Nat → Int) (w : La) : Prop := oL a ∧ oW b ∧ KS S a b ∧ LV l ∧ SV l s ∧ LW w ∧ LR F G a l ∧ WR F b w ∧ PR F 31 s ∧ VC F G l s w
/-- cells of the class that a question leaves as they are -/
def kpC (c : Nat) : Prop := ¬ (6 ≤ c ∧ c ≤ 30) ∧ c ≠ 1 ∧ ¬ (65 ≤ c ∧ c ≤ 66) ∧ ¬ (71 ≤ c ∧ c ≤ 72)
def QC (S S' : FS) (F F' : FI) (G G' : FJ) : Prop := (∀ c, kpC c → F' c = F c) ∧ (∀ i, i ≠ 17 → F' 1 i = F 1 i) ∧ (∀ c, ¬ (6 ≤ c ∧ c ≤ 30) → G' c = G c) ∧ ∀ x i, ¬ (x = 22 ∧ (i = 2 ∨ i = 3)) → S' x i = S x i
theorem QC_r {S : FS} {F : FI} {G : FJ} : QC S S F F G G := ⟨fun _ _ => rfl, fun _ _ => rfl, fun _ _ => rfl, fun _ _ _ => rfl⟩
theorem QC_t {S S1 S2 : FS} {F F1 F2 : FI} {G G1 G2 : FJ} (h1 : QC S S1 F F1 G G1) (h2 : QC S1 S2 F1 F2 G1 G2) : QC S S2 F F2 G G2 :=
  ⟨fun c h => (h2.1 c h).trans (h1.1 c h), fun i h => (h2.2.1 i h).trans (h1.2.1 i h), fun c h => (h2.2.2.1 c h).trans (h1.2.2.1 c h), fun x i h => (h2.2.2.2 x i h).trans (h1.2.2.2 x i h)⟩
theorem kpL {a i : Nat} (ha : oL a) (hi : i < 10) : kpC (a + i) := by
  unfold kpC
  omega
theorem kpW {b i : Nat} (hb : oW b) (hi : i < 4) : kpC (b + i) := by
  unfold kpC
  omega
theorem kpP {i : Nat} (hi : i < 8) : kpC (31 + i) := by
  unfold kpC
  omega
theorem YK_q {S S' : FS} {F F' : FI} {G G' : FJ} {a b : Nat} {l s : Nat → Int} {w : La} (h : YK S F G a b l s w) (hq : QC S S' F F' G G') (hv : VC F' G' l s w) : YK S' F' G' a b l s w := by
  obtain ⟨ha, hb, ⟨k1, k2, k3, k4⟩, h1, h2, h3, h4, h5, h6, -⟩ := h
  refine ⟨ha, hb, ⟨?_, ?_, ?_, ?_⟩, h1, h2, h3, LR_c h4 (fun i hi => hq.1 _ (kpL ha hi)) (hq.2.2.1 _ (by omega)), WR_c h5 (fun i hi => hq.1 _ (kpW hb hi)), PR_c h6 (fun i hi => hq.1 _ (kpP hi)), hv⟩
  · rw [hq.2.2.2 _ _ (by omega)]; exact k1
  · rw [hq.2.2.2 _ _ (by omega)]; exact k2
  · rw [hq.2.2.2 _ _ (by omega)]; exact k3
  · rw [hq.2.2.2 _ _ (by omega)]; exact k4
theorem lk2_0 {S : FS} {c d i : Nat} (h2 : i ≠ 2) (h3 : i ≠ 3) : lk2S S c d 22 i = S 22 i := by
  unfold lk2S
  rw [u2_n h3, u2_n h2]
theorem lk2_o {S : FS} {c d x : Nat} (h : x ≠ 22) : lk2S S c d x = S x := by
  unfold lk2S
  rw [u2_o h, u2_o h]
theorem QC_S {S : FS} {F : FI} {G : FJ} {c d : Nat} : QC S (lk2S S c d) F F G G := ⟨fun _ _ => rfl, fun _ _ => rfl, fun _ _ => rfl, fun x i h => by
  by_cases q : x = 22
  · rw [q]
    exact lk2_0 (fun z => h ⟨q, Or.inl z⟩) (fun z => h ⟨q, Or.inr z⟩)
  · rw [lk2_o q]⟩
theorem YK_Y {S : FS} {F F1 : FI} {G : FJ} {a b c d : Nat} {l s : Nat → Int} {w : La} {st : Int} (h : YK S F G a b l s w) (hc : oC c) (hd : oT d) (hF : ∀ i, kpC i → F1 i = F i) (h4 : F1 c 4 = st) (h0 : F1 d 0 = F d 0) (hs : 0 ≤ st) (hst : st ≤ 12) : YX (lk2S S c d) F1 G a b c d l w st := by
  obtain ⟨ha, hb, ⟨k1, k2, k3, k4⟩, h1, h2, h3, h4', h5, h6, v1, v2, v3, v4, v5, v6⟩ := h
  refine ⟨ha, hb, hc, hd, ⟨?_, ?_, ?_, ?_⟩, h1, h3, LR_c h4' (fun i hi => hF _ (kpL ha hi)) rfl, WR_c h5 (fun i hi => hF _ (kpW hb hi)), h4, ?_, hs, hst⟩
  · rw [lk2_0 (by decide) (by decide)]; exact k3
  · rw [lk2_0 (by decide) (by decide)]; exact k4
  · unfold lk2S
    rw [u2_n (by decide), u2_s]
  · unfold lk2S
    rw [u2_s]
  · rw [h0]
    rcases hd with e | e
    · rw [e]; exact v3
    · rw [e]; exact v4
theorem sCf_w {l s : Nat → Int} {w : La} (hs : SV l s) (hv : LV l) : CW l (sCf l s w) := by
  obtain ⟨⟨hv1, hv2⟩, ⟨hv3, hv4⟩, ⟨hv5, hv6⟩, ⟨hv7, hv8⟩, ⟨hv9, hv10⟩, ⟨hv11, hv12⟩, ⟨hv13, hv14⟩, hvw, hvs, hvk, hvc, hvx⟩ := id hv
  exact ⟨fun k a b => hs.1 k a (by omega), Or.inl ⟨rfl, rfl⟩⟩
theorem sc6 {e c : Nat} (he : oC e) (h : kpC c) : c ≠ e ∧ c ≠ e + 1 ∧ c ≠ e + 2 ∧ c ≠ e + 3 ∧ c ≠ e + 4 := by
  unfold kpC at h
  omega
theorem c_60 {k : FS → FI → FJ → Prop} {a b : Nat} {l s : Nat → Int} {w : La} {S : FS} {F : FI} {G : FJ} (hk0 : YK S F G a b l s w)
    (hk : ∀ S' F' G', YK S' F' G' a b l s w → QC S S' F F' G G' → F' 1 17 = 1 → k S' F' G') : calV 7 60 [.inr (.inr (.inl 1))] (mm S F G) k nof := by
  obtain ⟨ha, hb, ⟨k1, k2, k3, k4⟩, hv, hs, hw, hl, hrw, hpr, v1, v2, v3, v4, v5, v6⟩ := id hk0
  have hv' := hv
  obtain ⟨⟨hv1, hv2⟩, ⟨hv3, hv4⟩, ⟨hv5, hv6⟩, ⟨hv7, hv8⟩, ⟨hv9, hv10⟩, ⟨hv11, hv12⟩, ⟨hv13, hv14⟩, hvw, hvs, hvk, hvc, hvx⟩ := id hv
  refine sg_60_0 (cn_i (fun z => ?_) (fun z => ?_))
  · simp only [k1, lk ha, lk1 ha, lk2 ha, lk3 ha, lk4 ha, lk5 ha, lk6 ha, lk7 ha, lk8 ha, lk9 ha, lr0 ha, lr1 ha, lr2 ha, lr3 ha, lr4 ha, lr5 ha, lr6 ha, lr7 ha, lr8 ha]
    refine c_247 ha (Or.inl rfl) hv hs hl hpr (fun F1 f1 f2 f3 f4 => ?_)
    simp only [k1, lk ha, lk1 ha, lk2 ha, lk3 ha, lk4 ha, lk5 ha, lk6 ha, lk7 ha, lk8 ha, lk9 ha, lr0 ha, lr1 ha, lr2 ha, lr3 ha, lr4 ha, lr5 ha, lr6 ha, lr7 ha, lr8 ha]
    refine ck_i rfl ?_
    have fk : ∀ i, kpC i → F1 i = F i := fun i hi => by
      have := sc6 (Or.inl rfl) hi
      exact f1 i this.1 this.2.1 this.2.2.1 this.2.2.2.1 this.2.2.2.2
    have fa : F1 a = F a := f1 a (by omega) (by omega) (by omega) (by omega) (by omega)
    have f16 : F1 16 = F 16 := f1 16 (by decide) (by decide) (by decide) (by decide) (by decide)
    have f23 : F1 23 = F 23 := f1 23 (by decide) (by decide) (by decide) (by decide) (by decide)
    have f22 : F1 22 = F 22 := f1 22 (by decide) (by decide) (by decide) (by decide) (by decide)
    have f24 : F1 24 = F 24 := f1 24 (by decide) (by decide) (by decide) (by decide) (by decide)
    have f19 : F1 19 = F 19 := f1 19 (by decide) (by decide) (by decide) (by decide) (by decide)
    have f01 : F1 1 = F 1 := f1 1 (by decide) (by decide) (by decide) (by decide) (by decide)
    rw [fa, hl.1.2.2.2.1]
    have hr := SL_R (w := w) (g := sCf l s w) hv f4 (fun x x0 x1 => f2 x x0 (by omega)) (fun k k0 k1 => f3 k k0 (by omega)) rfl
    refine c_257w (YK_Y hk0 (Or.inl rfl) (Or.inl rfl) fk f4.2.1 (by rw [f16]) (by omega) (by omega)) hr (sCf_v _ hv hs) (sCf_w hs hv) (by rw [f23]; exact v1) (fun F2 G2 g1 g2 g3 g4 g5 => ⟨_, _, _, rfl, ?_⟩)
    have q : QC S (lk2S S 6 16) F (u2 F2 1 17 1) G G2 := by
      refine QC_t (F1 := F) (G1 := G) QC_S ⟨fun c hc => ?_, fun i hi => ?_, fun c hc => g2 c (by omega), fun _ _ _ => rfl⟩
      · rw [u2_o hc.2.1, g1.1 c (by unfold kpC at hc; omega) (by unfold kpC at hc; omega) (by unfold kpC at hc; omega) (by unfold kpC at hc; omega) (by unfold kpC at hc; omega) (by unfold kpC at hc; omega)]
        exact fk c hc
      · rw [u2_n hi, g1.1 1 (by decide) (by decide) (by decide) (by omega) (by omega) (by decide), f01]
    have g24 : F2 24 = F 24 := by rw [g1.1 24 (by decide) (by decide) (by decide) (by omega) (by omega) (by decide), f24]
    refine hk _ _ _ (YK_q hk0 q ⟨?_, ?_, ?_, ?_, ?_, fun _ => ⟨fun h h0 h1 => ?_, ?_, g4, fun h p n hw => ?_⟩⟩) q u2_s
    · rw [u2_o (by decide)]
      exact g3
    · unfold RK
      rw [u2_o (by decide), u2_o (by decide), g24, g1.2 6 (by decide), f22]
      exact v2
    · rw [u2_o (by decide), g1.1 16 (by decide) (by decide) (by decide) (by omega) (by omega) (by decide), f16]
      exact v3
    · rw [u2_o (by decide), g1.1 19 (by decide) (by decide) (by decide) (by omega) (by omega) (by decide), f19]
      exact v4
    · right
      exact u2_s
    · rw [u2_o (by decide), g1.1 7 (by decide) (by decide) (by decide) (by omega) (by omega) (by decide)]
      exact f2 h h0 h1
    · rw [u2_o (by decide), g1.1 6 (by decide) (by decide) (by decide) (by omega) (by omega) (by decide)]
      exact f4.2.1
    · rw [u2_o (by decide)]
      exact g5 h p n hw
  · exact ⟨_, _, _, rfl, hk S F G hk0 QC_r (v5.resolve_left z)⟩
/-- the start of a table -/
theorem GS_w {G : FJ} {d : Nat} {l : Nat → Int} {g : Cf} {st k : Int} (hv : LV l) (h : GS G d l g st 0 (l 6) st) (h0 : 0 ≤ k) (h1 : k < l 2) : G (d + 1) (sp d 0 (l 6) st * 12 + (2 + k)).toNat = sNow l g st k := by
  obtain ⟨⟨hv1, hv2⟩, ⟨hv3, hv4⟩, ⟨hv5, hv6⟩, ⟨hv7, hv8⟩, ⟨hv9, hv10⟩, ⟨hv11, hv12⟩, ⟨hv13, hv14⟩, hvw, hvs, hvk, hvc, hvx⟩ := id hv
  rw [h (2 + k) ⟨by omega, Or.inl (by omega)⟩, show l 3 - 0 = l 3 by omega, fC_w h0 (by omega)]
  rfl
theorem l_62 {Q : Rs → Mm → Prop} {a d : Nat} {l : Nat → Int} {g : Cf} {st x4 y5 x7 : Int} {S : FS} {F : FI} {G : FJ} (ha : oL a) (hd : oT d) (hS : S 1 0 = a) (hv : LV l) (hl : F a 11 = l 2) (hs : 0 ≤ st) (hst : st ≤ 12) (hc : CV l st g) (hG : GS G d l g st 0 (l 6) st) (e4 : x4 = sp d 0 (l 6) st * 12 + 2) (h7 : 0 ≤ x7) (h7' : x7 ≤ l 2) (e5 : y5 = sSum (fun _ => True) (fun k => sNow l g st k) x7.toNat)
    (hk : Q (.inl (some (.inr (.inl (sAll l g st))))) (mm S F G)) : wph 2 62 31 [.inr (.inr (.inl 1)), .inr (.inr (.inl d)), jk, jk, .inl x4, .inr (.inl y5), jk, .inl x7] [] (mm S F G) (0, 0) Q := by
  obtain ⟨⟨hv1, hv2⟩, ⟨hv3, hv4⟩, ⟨hv5, hv6⟩, ⟨hv7, hv8⟩, ⟨hv9, hv10⟩, ⟨hv11, hv12⟩, ⟨hv13, hv14⟩, hvw, hvs, hvk, hvc, hvx⟩ := id hv
  have sb := sp_b (d := d) (h := 0) (p := l 6) (n := st) hd (by omega) (by omega) hv13 (by omega) hs hst
  refine sg_62_31 ?_
  simp only [hS, lk ha, lk1 ha, lk2 ha, lk3 ha, lk4 ha, lk5 ha, lk6 ha, lk7 ha, lk8 ha, lk9 ha, lr0 ha, lr1 ha, lr2 ha, lr3 ha, lr4 ha, lr5 ha, lr6 ha, lr7 ha, lr8 ha, tk hd, tk1 hd, tk2 hd, tr1 hd, tr2 hd, hl]
  refine ck_i rfl (cn_i (fun z => ?_) (fun z => ?_))
  · have hn := sSum_t (c := fun _ => True) (g := fun k => sNow l g st k) h7 trivial
    have hb := sSum_b (c := fun _ => True) (g := fun k => sNow l g st k) (B := 1125899906842624) (by omega) (n := (x7 + 1).toNat) (fun k a b => by have := sNow_b (k := k) hv hs hst hc a (by omega); unfold B5 at this; exact this)
    have h6 : (((x7 + 1).toNat : Nat) : Int) = x7 + 1 := by omega
    have gw := GS_w (k := x7) hv hG h7 z
    rw [hn, ← e5, h6] at hb
    rw [wr_id (a := x4 + x7) (by omega) (by omega), wr_id (a := x7 + 1) (by omega) (by omega), show x4 + x7 = sp d 0 (l 6) st * 12 + (2 + x7) by omega, gw, wl_id (by omega) (by omega)]
    exact ck_i rfl (ck_i rfl (ck_i (jb_i (by omega) (by omega)) (l_62 ha hd hS hv hl hs hst hc hG e4 (by omega) (by omega) (by rw [hn, ← e5]) hk)))
  · rw [e5, show x7 = l 2 by omega]
    exact hk
termination_by (l 2 - x7).toNat
decreasing_by omega
theorem c_62 {k : Int → FS → FI → FJ → Prop} {a c d : Nat} {l : Nat → Int} {g : Cf} {st x3 : Int} {S : FS} {F : FI} {G : FJ} (ha : oL a) (hc' : oC c) (hd : oT d) (hS : S 1 0 = a) (hv : LV l) (hl : F a 11 = l 2 ∧ F a 15 = l 6) (hs : 0 ≤ st) (hst : st ≤ 12) (hc : CV l st g) (hG : GS G d l g st 0 (l 6) st) (h4 : F c 4 = st) (h0 : F d 0 = tW d) (h3 : -1 ≤ x3) (h3' : x3 < l 2)
    (hk : k (sTo l g st x3) S F G) : calL 2 62 [.inr (.inr (.inl 1)), .inr (.inr (.inl d)), .inr (.inr (.inl c)), .inl x3] (mm S F G) k nof := by
  obtain ⟨⟨hv1, hv2⟩, ⟨hv3, hv4⟩, ⟨hv5, hv6⟩, ⟨hv7, hv8⟩, ⟨hv9, hv10⟩, ⟨hv11, hv12⟩, ⟨hv13, hv14⟩, hvw, hvs, hvk, hvc, hvx⟩ := id hv
  have sb := sp_b (d := d) (h := 0) (p := l 6) (n := st) hd (by omega) (by omega) hv13 (by omega) hs hst
  unfold sTo at hk
  refine sg_62_0 (sg_61_0 ?_)
  simp only [hS, lk ha, lk1 ha, lk2 ha, lk3 ha, lk4 ha, lk5 ha, lk6 ha, lk7 ha, lk8 ha, lk9 ha, lr0 ha, lr1 ha, lr2 ha, lr3 ha, lr4 ha, lr5 ha, lr6 ha, lr7 ha, lr8 ha, ck_ hc', ck1 hc', ck2 hc', ck3 hc', ck4 hc', cr0 hc', cr1 hc', cr2 hc', cr3 hc', tk hd, tk1 hd, tk2 hd, tr1 hd, tr2 hd, hl.2, h4]
  refine ck_i rfl (ck_i rfl (ck_i rfl (c_271 hd h0 hv13 (by omega) (by omega) (by omega) hs hst (fun v ev => ⟨_, _, _, rfl, ?_⟩))))
  rw [ev, wr_id (a := sp d 0 (l 6) st * 12) (by omega) (by omega), wr_id (a := sp d 0 (l 6) st * 12 + 2) (by omega) (by omega)]
  refine cn_i (fun z => ?_) (fun z => ?_)
  · rw [if_pos z] at hk
    exact l_62 ha hd hS hv hl.1 hs hst hc hG rfl (by omega) (by omega) rfl ⟨_, _, _, rfl, hk⟩
  · rw [if_neg z] at hk
    have gw := GS_w (k := x3) hv hG (by omega) h3'
    rw [wr_id (by omega) (by omega), show sp d 0 (l 6) st * 12 + 2 + x3 = sp d 0 (l 6) st * 12 + (2 + x3) by omega, gw]
    exact ck_i rfl (ck_i rfl (ck_i (jb_i (by omega) (by omega)) ⟨_, _, _, rfl, hk⟩))
theorem sTo_d {l : Nat → Int} {g : Cf} {st k : Int} (hv : LV l) (hs : 0 ≤ st) (hst : st ≤ 12) (hc : CV l st g) (h0 : -1 ≤ k) (h1 : k < l 2) : -5629499534213120 ≤ sTo l g st k ∧ sTo l g st k ≤ 5629499534213120 := by
  obtain ⟨⟨hv1, hv2⟩, ⟨hv3, hv4⟩, ⟨hv5, hv6⟩, ⟨hv7, hv8⟩, ⟨hv9, hv10⟩, ⟨hv11, hv12⟩, ⟨hv13, hv14⟩, hvw, hvs, hvk, hvc, hvx⟩ := id hv
  unfold sTo
  split
  · have hb := sSum_b (c := fun _ => True) (g := fun k => sNow l g st k) (B := 1125899906842624) (by omega) (n := (l 2).toNat) (fun k a b => by have := sNow_b (k := k) hv hs hst hc a (by omega); unfold B5 at this; exact this)
    unfold sAll
    have : (((l 2).toNat : Nat) : Int) * 1125899906842624 ≤ 5 * 1125899906842624 := Int.mul_le_mul_of_nonneg_right (by omega) (by omega)
    omega
  · have := sNow_b (k := k) hv hs hst hc (by omega) h1
    unfold B5 at this
    omega
/-- what was tried stands at the start of the rough table -/
def TRY (F : FI) (G : FJ) (l : Nat → Int) (g : Cf) (st : Int) : Prop := F 11 4 = st ∧ GS G 19 l g st 0 (l 6) st
theorem c_63 {k : Int → FS → FI → FJ → Prop} {a b : Nat} {l s : Nat → Int} {w : La} {g : Cf} {x1 : Int} {S : FS} {F : FI} {G : FJ} (hk0 : YK S F G a b l s w) (hs1 : F 1 17 = 1) (hc : CV l (l 4) g) (ht : TRY F G l g (l 4)) (h3 : -1 ≤ x1) (h3' : x1 < l 2)
    (hk : k (sTo l g (l 4) x1 - sTo l (sCf l s w) (l 4) x1) S F G) : calL 3 63 [.inr (.inr (.inl 1)), .inl x1] (mm S F G) k nof := by
  obtain ⟨ha, hb, ⟨k1, k2, k3, k4⟩, hv, hs, hw, hl, hrw, hpr, v1, v2, v3, v4, v5, v6⟩ := id hk0
  have hv' := hv
  obtain ⟨⟨hv1, hv2⟩, ⟨hv3, hv4⟩, ⟨hv5, hv6⟩, ⟨hv7, hv8⟩, ⟨hv9, hv10⟩, ⟨hv11, hv12⟩, ⟨hv13, hv14⟩, hvw, hvs, hvk, hvc, hvx⟩ := id hv
  obtain ⟨so1, so2, so3, so4⟩ := v6 hs1
  have c0 := sCf_v (w := w) (l 4) hv hs
  refine sg_63_0 (c_62 ha (Or.inr rfl) (Or.inr rfl) k1 hv ⟨hl.1.2.2.1, hl.1.2.2.2.2.2.2⟩ (by omega) (by omega) hc ht.2 ht.1 v4 h3 h3' ?_)
  refine c_62 ha (Or.inl rfl) (Or.inl rfl) k1 hv ⟨hl.1.2.2.1, hl.1.2.2.2.2.2.2⟩ (by omega) (by omega) c0 (so3 0 (l 6) (l 4) ⟨by omega, by omega, hv13, hv14, by omega, Int.le_refl _⟩) so2 v3 h3 h3' ?_
  have b1 := sTo_d hv (by omega) (by omega) hc h3 h3'
  have b2 := sTo_d hv (by omega) (by omega) c0 h3 h3'
  rw [wl_id (by omega) (by omega)]
  exact ⟨_, _, _, rfl, hk⟩
