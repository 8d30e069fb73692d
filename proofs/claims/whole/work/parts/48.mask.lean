/-! ===== the reference tries out ===== -/
def cLed (c : Cf) (h k : Int) : Cf := (fun x => if x = h then k else c.1 x, c.2)
def cKnd (c : Cf) (k d : Int) : Cf := (c.1, fun x => if x = k then d else c.2.1 x, c.2.2)
def cPct (c : Cf) (a b : Int) : Cf := (c.1, c.2.1, c.2.2.1, c.2.2.2.1, a, b, c.2.2.2.2.2.2)
def cVot (c : Cf) (v : Int) : Cf := (c.1, c.2.1, c.2.2.1, c.2.2.2.1, c.2.2.2.2.1, c.2.2.2.2.2.1, v)
theorem mC_u {F : FI} {mk : Int → Int → Int → Int → Int} {c i : Nat} {v : Int} (hc : c ≠ 112 ∧ c ≠ 97 ∧ c ≠ 114 ∧ c ≠ 115) : mC (u2 F c i v) mk = mC F mk := by
  unfold mC
  rw [u2_o (Ne.symm hc.1), u2_o (Ne.symm hc.2.1), u2_o (Ne.symm hc.2.2.1), u2_o (Ne.symm hc.2.2.2)]
theorem RD_led {F F' : FI} {G G' : FJ} {c : Cf} {h k : Int} (hd : RD F F' G G' c) (h0 : 0 ≤ h) : RD F (u2 F' 114 h.toNat k) G G' (cLed c h k) := by
  obtain ⟨d1, d2, d3, d4, ⟨e1, e2, e3, e4, e5⟩, d6, d7⟩ := hd
  refine ⟨PM_u d1 (by decide) (by decide), by rw [u2_o (by decide)]; exact d2, by rw [u2_o (by decide)]; exact d3, by rw [u2_o (by decide)]; exact d4, ⟨fun x a b => ?_, e2, e3, e4, e5⟩, RDY_c d6 (u2_o (by decide)) (u2_o (by decide)) rfl rfl, d7⟩
  show u2 F' 114 h.toNat k 114 x.toNat = if x = h then k else c.1 x
  rw [u2_k]
  by_cases q : x = h
  · rw [q, if_pos rfl, if_pos rfl]
  · rw [if_neg (by omega), if_neg q]
    exact e1 x a b
theorem RD_knd {F F' : FI} {G G' : FJ} {c : Cf} {k d : Int} (hd : RD F F' G G' c) (h0 : 0 ≤ k) : RD F (u2 F' 115 k.toNat d) G G' (cKnd c k d) := by
  obtain ⟨d1, d2, d3, d4, ⟨e1, e2, e3, e4, e5⟩, d6, d7⟩ := hd
  refine ⟨PM_u d1 (by decide) (by decide), by rw [u2_o (by decide)]; exact d2, by rw [u2_o (by decide)]; exact d3, by rw [u2_o (by decide)]; exact d4, ⟨e1, fun x a b => ?_, e3, e4, e5⟩, RDY_c d6 (u2_o (by decide)) (u2_o (by decide)) rfl rfl, d7⟩
  show u2 F' 115 k.toNat d 115 x.toNat = if x = k then d else c.2.1 x
  rw [u2_k]
  by_cases q : x = k
  · rw [q, if_pos rfl, if_pos rfl]
  · rw [if_neg (by omega), if_neg q]
    exact e2 x a b
theorem RD_pct {F F' : FI} {G G' : FJ} {c : Cf} {a b : Int} (hd : RD F F' G G' c) : RD F (u2 (u2 F' 97 33 a) 97 34 b) G G' (cPct c a b) := by
  obtain ⟨d1, d2, d3, d4, ⟨e1, e2, e3, e4, e5⟩, d6, d7⟩ := hd
  have e5' : (F' 97 33, F' 97 34, F' 97 35) = c.2.2.2.2 := e5
  refine ⟨PM_v (PM_v d1 (by unfold kpF; omega)) (by unfold kpF; omega), by rw [u2_n (by decide), u2_n (by decide)]; exact d2, by rw [u2_n (by decide), u2_n (by decide)]; exact d3, by rw [u2_n (by decide), u2_n (by decide)]; exact d4, ⟨e1, e2, e3, e4, ?_⟩, RDY_c d6 ?_ ?_ rfl rfl, d7⟩
  · show ((u2 (u2 F' 97 33 a) 97 34 b) 97 33, (u2 (u2 F' 97 33 a) 97 34 b) 97 34, (u2 (u2 F' 97 33 a) 97 34 b) 97 35) = (a, b, c.2.2.2.2.2.2)
    rw [← e5', u2_n (by decide), u2_s, u2_s, u2_n (by decide), u2_n (by decide)]
  · rw [u2_o (by decide), u2_o (by decide)]
  · rw [u2_o (by decide), u2_o (by decide)]
theorem RD_vot {F F' : FI} {G G' : FJ} {c : Cf} {v : Int} (hd : RD F F' G G' c) : RD F (u2 F' 97 35 v) G G' (cVot c v) := by
  obtain ⟨d1, d2, d3, d4, ⟨e1, e2, e3, e4, e5⟩, d6, d7⟩ := hd
  have e5' : (F' 97 33, F' 97 34, F' 97 35) = c.2.2.2.2 := e5
  refine ⟨PM_v d1 (by unfold kpF; omega), by rw [u2_n (by decide)]; exact d2, by rw [u2_n (by decide)]; exact d3, by rw [u2_n (by decide)]; exact d4, ⟨e1, e2, e3, e4, ?_⟩, RDY_c d6 (u2_o (by decide)) (u2_o (by decide)) rfl rfl, d7⟩
  show ((u2 F' 97 35 v) 97 33, (u2 F' 97 35 v) 97 34, (u2 F' 97 35 v) 97 35) = (c.2.2.2.2.1, c.2.2.2.2.2.1, v)
  rw [← e5', u2_n (by decide), u2_s, u2_n (by decide)]
theorem RD_K {F F' : FI} {G G' : FJ} {c : Cf} (hd : RD F F' G G' c) (hc : c.2.2.2.2 = (-1, -1, 0)) : KNO F' G' := by
  obtain ⟨d1, d2, d3, d4, ⟨e1, e2, e3, e4, e5⟩, d6, d7⟩ := hd
  have e5' : (F' 97 33, F' 97 34, F' 97 35) = c.2.2.2.2 := e5
  rw [hc] at e5'
  injection e5' with q1 q2
  injection q2 with q2 q3
  refine ⟨⟨d3, q1, q2, q3⟩, Or.inr d2, fun _ => ?_⟩
  rw [d1.1 100 kp100, PM_L d1]
  exact d6
theorem RD_M {F F' : FI} {G G' : FJ} {c : Cf} (hm : MV F G) (hd : RD F F' G G' c) (hc : c.2.2.2.2 = (-1, -1, 0)) : MV F' G' := MV_p hm hd.1 (RD_K hd hc) hd.2.2.2.2.2.2
theorem mC_v {F F' : FI} {G G' : FJ} {c : Cf} (hm : MV F G) (hd : RD F F' G G' c) (hc : CV (F 100) (F 100 4) c) : CV (F 100) (F 100 4) (mC F' (mk0 F)) := by
  obtain ⟨d1, d2, d3, d4, ⟨e1, e2, e3, e4, e5⟩, d6, d7⟩ := hd
  obtain ⟨c1, c2, c3, c4, c5⟩ := hc
  refine ⟨fun h a b => by rw [e1 h a b]; exact c1 h a b, fun h a b => ?_, MK_mask hm.1 _ _ _, by rw [e5]; exact c4, by rw [e5]; exact c5⟩
  show 0 ≤ F' 112 _ ∧ F' 112 _ ≤ _
  rw [d1.1 112 kp112]
  exact hm.2.1.2.1 h a b
/-- play what is ready -/
theorem c_play {k : FS → FI → FJ → Prop} {S : FS} {F F1 : FI} {G G1 : FJ} {c : Cf} (hm : MV F G) (hd : RD F F1 G G1 c) (hc : CV (F 100) (F 100 4) c)
    (hk : ∀ F2 G2, RD F F2 G G2 c → TB (F 100) c (F 100 4) F2 G2 → (∀ a, a ≠ 117 → a ≠ 123 → F2 a = F1 a) → (∀ a, a ≠ 119 → a ≠ 121 → G2 a = G1 a) → k S F2 G2) : calV 6 142 [.inr (.inr (.inl 97))] (mm S F1 G1) k nof := by
  have hv := hm.1
  obtain ⟨⟨hv1, hv2⟩, ⟨hv3, hv4⟩, ⟨hv5, hv6⟩, ⟨hv7, hv8⟩, ⟨hv9, hv10⟩, ⟨hv11, hv12⟩, ⟨hv13, hv14⟩, hvw, hvs, hvk, hvc, hvx⟩ := id hv
  have hcm := mC_v hm hd hc
  obtain ⟨d1, d2, d3, d4, d5, d6, d7⟩ := id hd
  have e100 := d1.1 100 kp100
  refine c_142 (mk := mk0 F) (by rw [e100]; exact hv) (by rw [d4]; omega) (by rw [d4]; omega) (by rw [e100, d4]; exact hcm) (by rw [e100, d4]; exact d6) d7.1 d7.2.2 (fun F2 G2 hp => ?_)
  rw [e100, d4] at hp
  obtain ⟨p1, p2, p3, p4, p5, p6⟩ := hp
  have f97 : F2 97 = F1 97 := p5 97 (by decide) (by decide)
  refine hk F2 G2 ⟨⟨fun a ha => ?_, fun i hi => by rw [f97]; exact d1.2.1 i hi, fun a ha => ?_⟩, by rw [f97]; exact d2, by rw [f97]; exact d3, by rw [f97]; exact d4, ?_, RDY_c d6 (p5 _ (by decide) (by decide)) (p5 _ (by decide) (by decide)) (p6 _ (by decide) (by decide)) (p6 _ (by decide) (by decide)), p3, ?_, p4⟩ ⟨fun h p n w => ?_, fun k h p n k1 k2 w => ?_⟩ p5 p6
  · unfold kpM at ha
    rw [p5 a (by omega) (by omega)]
    exact d1.1 a ha
  · unfold kpG at ha
    rw [p6 a (by omega) (by omega)]
    exact d1.2.2 a ha
  · rw [mC_c p5]; exact d5
  · rw [p6 120 (by decide) (by decide)]; exact d7.2.1
  · rw [p1 h p n w]
    exact sTk_ce hv (by omega) (by omega) (Int.le_refl _) hcm hc d5 w.1 w
  · rw [p2 k h p n k1 k2 w]
    obtain ⟨w1, w2, w3, w4, w5, w6⟩ := w
    exact sW_cc hv (by omega) (by omega) (Int.le_refl _) hcm hc d5 _ (by omega) k p n k1 k2 w3 w4 w5 w6
theorem c_144 {k : FS → FI → FJ → Prop} {S : FS} {F : FI} {G : FJ} (hm : MV F G) (hk : ∀ F' G', RD F F' G G' (sCf (F 100) (F 112) (mL F)) → TB (F 100) (sCf (F 100) (F 112) (mL F)) (F 100 4) F' G' → k S F' G') : calV 7 144 [.inr (.inr (.inl 97))] (mm S F G) k nof := by
  refine sg_144_0 ?_
  exact c_143 hm (fun F1 G1 hd => c_play hm hd (sCf_v _ hm.1 hm.2.1) (fun F2 G2 hd2 ht _ _ => ⟨_, _, _, rfl, hk F2 G2 hd2 ht⟩))
/-- worth at the beginning: to one, to all, to whom is asked -/
noncomputable def sNow (l : Nat → Int) (c : Cf) (st k : Int) : Int := sW l c st (l 3).toNat k (l 6) st
noncomputable def sAll (l : Nat → Int) (c : Cf) (st : Int) : Int := sSum (fun _ => True) (fun k => sNow l c st k) (l 2).toNat
noncomputable def sTo (l : Nat → Int) (c : Cf) (st k : Int) : Int := if k = -1 then sAll l c st else sNow l c st k
theorem sNow_b {l : Nat → Int} {c : Cf} {st k : Int} (hv : LV l) (hs : 0 ≤ st) (hst : st ≤ 12) (hc : CV l st c) (h0 : 0 ≤ k) (h1 : k < l 2) : B5 (sNow l c st k) := by
  obtain ⟨⟨hv1, hv2⟩, ⟨hv3, hv4⟩, ⟨hv5, hv6⟩, ⟨hv7, hv8⟩, ⟨hv9, hv10⟩, ⟨hv11, hv12⟩, ⟨hv13, hv14⟩, hvw, hvs, hvk, hvc, hvx⟩ := id hv
  have := sW_b hv hs hst hc (l 3).toNat (by omega) k (l 6) st h0 h1 hv13 hv14 hs (Int.le_refl _)
  exact WB_5 hv (by omega) this
theorem c_145 {k : Int → FS → FI → FJ → Prop} {S : FS} {F : FI} {G : FJ} (hv : LV (F 100)) (h0 : 0 ≤ F 97 31) (h1 : F 97 31 ≤ 12) (hk : ∀ v, v = (0 * 12 + F 100 6) * 13 + F 97 31 → k v S F G) : calI 1 145 [.inr (.inr (.inl 97))] (mm S F G) k nof := by
  obtain ⟨⟨hv1, hv2⟩, ⟨hv3, hv4⟩, ⟨hv5, hv6⟩, ⟨hv7, hv8⟩, ⟨hv9, hv10⟩, ⟨hv11, hv12⟩, ⟨hv13, hv14⟩, hvw, hvs, hvk, hvc, hvx⟩ := id hv
  refine sg_145_0 ?_
  exact c_123 (by omega) (by omega) (by omega) (by omega) (by omega) (by omega) (fun v e => ⟨_, _, _, rfl, hk v e⟩)
/-- worths in the table, one each -/
def TN (l : Nat → Int) (c : Cf) (st : Int) (F : FI) (G : FJ) : Prop := F 100 = l ∧ F 97 31 = st ∧ (∀ k h p n, 0 ≤ k → k < l 2 → vs l st h p n → G 119 (k * 3900 + ((h * 12 + p) * 13 + n)).toNat = sW l c st (l 3 - h).toNat k p n)
theorem TN_of {F F' : FI} {G G' : FJ} {c : Cf} (hd : RD F F' G G' c) (ht : TB (F 100) c (F 100 4) F' G') : TN (F 100) c (F 100 4) F' G' := ⟨hd.1.1 100 kp100, hd.2.2.2.1, ht.2⟩
theorem c_146 {k : Int → FS → FI → FJ → Prop} {l : Nat → Int} {c : Cf} {st x1 : Int} {S : FS} {F : FI} {G : FJ} (hv : LV l) (hs : 0 ≤ st) (hst : st ≤ 12) (ht : TN l c st F G) (h0 : 0 ≤ x1) (h1 : x1 < l 2) (hk : ∀ v, v = sNow l c st x1 → k v S F G) : calL 2 146 [.inr (.inr (.inl 97)), .inl x1] (mm S F G) k nof := by
  obtain ⟨⟨hv1, hv2⟩, ⟨hv3, hv4⟩, ⟨hv5, hv6⟩, ⟨hv7, hv8⟩, ⟨hv9, hv10⟩, ⟨hv11, hv12⟩, ⟨hv13, hv14⟩, hvw, hvs, hvk, hvc, hvx⟩ := id hv
  obtain ⟨t1, t2, t3⟩ := id ht
  refine sg_146_0 ?_
  refine c_145 (by rw [t1]; exact hv) (by omega) (by omega) (fun v e => ?_)
  rw [t1, t2] at e
  subst e
  try simp (disch := omega) only [wr_id]
  refine ck_i (by (first | exact jb_i (by (first | assumption | omega | (simp (disch := omega) only [wr_id]; omega))) (by (first | assumption | omega | (simp (disch := omega) only [wr_id]; omega))) | exact jo_i (by omega) | exact jz_i (by omega) | rfl | (simp only [*]; first | rfl | exact jb_i (by (first | assumption | omega | (simp (disch := omega) only [wr_id]; omega))) (by (first | assumption | omega | (simp (disch := omega) only [wr_id]; omega)))))) ⟨_, _, _, rfl, hk _ ?_⟩
  rw [t3 x1 0 (l 6) st h0 h1 ⟨by omega, by omega, hv13, hv14, hs, Int.le_refl _⟩, show (l 3 - 0).toNat = (l 3).toNat by omega]
  rfl
theorem l_147_4 {Q : Rs → Mm → Prop} {l : Nat → Int} {c : Cf} {st y1 x3 : Int} {S : FS} {F : FI} {G : FJ} (hv : LV l) (hs : 0 ≤ st) (hst : st ≤ 12) (hc : CV l st c) (ht : TN l c st F G) (h0 : 0 ≤ x3) (h1 : x3 ≤ l 2) (e1 : y1 = sSum (fun _ => True) (fun k => sNow l c st k) x3.toNat)
    (hq : Q (.inl (some (.inr (.inl (sAll l c st))))) (mm S F G)) : wph 3 147 4 [.inr (.inr (.inl 97)), .inr (.inl y1), jk, .inl x3] [] (mm S F G) (0, 0) Q := by
  obtain ⟨⟨hv1, hv2⟩, ⟨hv3, hv4⟩, ⟨hv5, hv6⟩, ⟨hv7, hv8⟩, ⟨hv9, hv10⟩, ⟨hv11, hv12⟩, ⟨hv13, hv14⟩, hvw, hvs, hvk, hvc, hvx⟩ := id hv
  refine sg_147_4 ?_
  rw [ht.1]
  refine cn_i (fun h => ?_) (fun h => ?_)
  · refine c_146 hv hs hst ht h0 h (fun v e => ?_)
    have hn := sSum_t (c := fun _ => True) (g := fun k => sNow l c st k) h0 trivial
    have hb := sSum_b (c := fun _ => True) (g := fun k => sNow l c st k) (B := 1125899906842624) (by omega) (n := (x3 + 1).toNat) (fun k a b => by have := sNow_b (k := k) hv hs hst hc a (by omega); unfold B5 at this; exact this)
    have h6 : (((x3 + 1).toNat : Nat) : Int) = x3 + 1 := by omega
    rw [hn, ← e1, ← e, h6] at hb
    rw [wl_id (by omega) (by omega), wr_id (by omega) (by omega)]
    exact l_147_4 hv hs hst hc ht (by omega) (by omega) (by rw [hn, ← e1, ← e]) hq
  · rw [e1, show x3 = l 2 by omega]
    exact hq
termination_by (l 2 - x3).toNat
decreasing_by omega
theorem c_147 {k : Int → FS → FI → FJ → Prop} {l : Nat → Int} {c : Cf} {st : Int} {S : FS} {F : FI} {G : FJ} (hv : LV l) (hs : 0 ≤ st) (hst : st ≤ 12) (hc : CV l st c) (ht : TN l c st F G) (hk : ∀ v, v = sAll l c st → k v S F G) : calL 3 147 [.inr (.inr (.inl 97))] (mm S F G) k nof := by
  obtain ⟨⟨hv1, hv2⟩, ⟨hv3, hv4⟩, ⟨hv5, hv6⟩, ⟨hv7, hv8⟩, ⟨hv9, hv10⟩, ⟨hv11, hv12⟩, ⟨hv13, hv14⟩, hvw, hvs, hvk, hvc, hvx⟩ := id hv
  refine sg_147_0 ?_
  exact l_147_4 hv hs hst hc ht (by omega) (by omega) rfl ⟨_, _, _, rfl, hk _ rfl⟩
theorem c_148 {k : Int → FS → FI → FJ → Prop} {l : Nat → Int} {c : Cf} {st x1 : Int} {S : FS} {F : FI} {G : FJ} (hv : LV l) (hs : 0 ≤ st) (hst : st ≤ 12) (hc : CV l st c) (ht : TN l c st F G) (h0 : -1 ≤ x1) (h1 : x1 < l 2) (hk : ∀ v, v = sTo l c st x1 → k v S F G) : calL 4 148 [.inr (.inr (.inl 97)), .inl x1] (mm S F G) k nof := by
  refine sg_148_0 ?_
  refine cn_i (fun a => ?_) (fun a => ?_)
  · exact c_147 hv hs hst hc ht (fun v e => ⟨_, _, _, rfl, hk v (by unfold sTo; rw [if_pos a]; exact e)⟩)
  · exact c_146 hv hs hst ht (by omega) h1 (fun v e => ⟨_, _, _, rfl, hk v (by unfold sTo; rw [if_neg a]; exact e)⟩)
