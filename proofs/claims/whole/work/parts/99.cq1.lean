/-! ===== the class answers: alone, hours, kinds, pacts, votes ===== -/
theorem alone_W {l : Nat → Int} {g : Cf} {st k : Int} (h1 : ∀ h, 0 ≤ h → h < l 3 → g.1 h = k) (h2 : g.2.1 k = 0) (h3 : g.2.2.2.2 = (-1, -1, 0)) (hk : 0 ≤ k) : ∀ t : Nat, (t : Int) ≤ l 3 → sW l g st t k = sDr l st g.2.2.2.1 (fun _ => k) k t := by
  obtain ⟨g1, g2, g3, g4, g5⟩ := g
  dsimp only at h1 h2 h3
  subst h3
  intro t
  induction t with
  | zero => intro _; rfl
  | succ t ih =>
    intro ht
    have i := ih (by omega)
    funext p n
    have e1 := h1 (l 3 - ((t : Int) + 1)) (by omega) (by omega)
    show (if _ then _ else _) = (if _ then _ else _)
    split
    · rfl
    · rw [i]
      have em : sMv l (g1, g2, g3, g4, -1, -1, 0) st t (sW l (g1, g2, g3, g4, -1, -1, 0) st t) p n = bst (fun m => (if k = k then 1 else -1) * sBr l st (l 3 - ((t : Int) + 1)) p n m (sDr l st g4 (fun _ => k) k t)) (g4 k (l 3 - ((t : Int) + 1)) p n) (l 1 + 1).toNat := by
        unfold sMv sPick
        dsimp only
        simp only [e1]
        rw [if_neg (by decide), if_neg (by omega), if_pos h2, i]
        refine bst_c (fun m _ _ _ => ?_)
        rw [if_pos trivial, Int.one_mul]
      rw [em]
theorem lone_v {l s : Nat → Int} {w : La} {k : Int} (hv : LV l) (hs : SV l s) (h0 : 0 ≤ k) (h1 : k < l 2) : CV l (l 4) (fun _ => k, fun x => if x = k then 0 else s x.toNat, (sCf l s w).2.2) ∧ CW l (fun _ => k, fun x => if x = k then 0 else s x.toNat, (sCf l s w).2.2) := by
  have hv' := hv
  obtain ⟨⟨hv1, hv2⟩, ⟨hv3, hv4⟩, ⟨hv5, hv6⟩, ⟨hv7, hv8⟩, ⟨hv9, hv10⟩, ⟨hv11, hv12⟩, ⟨hv13, hv14⟩, hvw, hvs, hvk, hvc, hvx⟩ := id hv
  have c0 := sCf_v (w := w) (l 4) hv hs
  refine ⟨⟨fun _ _ _ => ⟨h0, h1⟩, c0.2⟩, fun x x0 x1 => ?_, Or.inl ⟨rfl, rfl⟩⟩
  show 0 ≤ (if x = k then 0 else s x.toNat) ∧ (if x = k then 0 else s x.toNat) ≤ 5
  split
  · omega
  · exact hs.1 x x0 (by omega)
theorem lone_n {l s : Nat → Int} {w : La} {k : Int} (hv : LV l) (h0 : 0 ≤ k) : sNow l (fun _ => k, fun x => if x = k then 0 else s x.toNat, (sCf l s w).2.2) (l 4) k = sDr l (l 4) (sMask l w (-1)) (fun _ => k) k (l 3).toNat (l 6) (l 4) := by
  obtain ⟨⟨hv1, hv2⟩, ⟨hv3, hv4⟩, ⟨hv5, hv6⟩, ⟨hv7, hv8⟩, ⟨hv9, hv10⟩, ⟨hv11, hv12⟩, ⟨hv13, hv14⟩, hvw, hvs, hvk, hvc, hvx⟩ := id hv
  unfold sNow
  rw [alone_W (fun _ _ _ => rfl) (if_pos rfl) rfl h0 (l 3).toNat (by omega)]
  rfl
/-- the scene of one who leads alone is worked out, in the rough table -/
theorem m_lone {k : FS → FI → FJ → Prop} {a b : Nat} {l s : Nat → Int} {w : La} {x1 : Int} {S : FS} {F : FI} {G : FJ} (hk0 : YK S F G a b l s w) (h1 : 0 ≤ x1) (h1' : x1 < l 2)
    (hk : ∀ S' F' G', YK S' F' G' a b l s w → QC S S' F F' G G' → F' 1 17 = F 1 17 → TRY F' G' l (fun _ => x1, fun x => if x = x1 then 0 else s x.toNat, (sCf l s w).2.2) (l 4) → k S' F' G') :
    calV 2 248 [.inr (.inr (.inl 11)), .inr (.inr (.inl a)), .inr (.inr (.inl 31)), .inl x1] (mm S F G) (fun S4 F4 G4 => chk (kq (kk (S4 1 0)) 0 0) (calV 6 257 [.inr (.inr (.inl 22)), .inr (.inr (.inl 11)), .inr (.inr (.inl 19)), .inl (F4 (S4 1 0) 12)] (mm S4 F4 G4) k nof)) nof := by
  obtain ⟨ha, hb, ⟨k1, k2, k3, k4⟩, hv, hs, hw, hl, hrw, hpr, -⟩ := id hk0
  have hv' := hv
  obtain ⟨⟨hv1, hv2⟩, ⟨hv3, hv4⟩, ⟨hv5, hv6⟩, ⟨hv7, hv8⟩, ⟨hv9, hv10⟩, ⟨hv11, hv12⟩, ⟨hv13, hv14⟩, hvw, hvs, hvk, hvc, hvx⟩ := id hv
  obtain ⟨c1, cw⟩ := lone_v (w := w) hv hs h1 h1'
  refine c_248 ha (Or.inr rfl) hv hs hl hpr h1 (by omega) (fun F1 f1 f2 f3 f4 => ?_)
  have o1 : ∀ c, ¬ (11 ≤ c ∧ c ≤ 15) → F1 c = F c := fun c hc => f1 c (by omega) (by omega) (by omega) (by omega) (by omega)
  simp only [k1, lk ha, lk1 ha, lk2 ha, lk3 ha, lk4 ha, lk5 ha, lk6 ha, lk7 ha, lk8 ha, lk9 ha, lr0 ha, lr1 ha, lr2 ha, lr3 ha, lr4 ha, lr5 ha, lr6 ha, lr7 ha, lr8 ha]
  rw [o1 a (by omega), hl.1.2.2.2.1]
  exact ck_i rfl (m_try hk0 o1 (fun _ _ => rfl) (SL_R hv f4 (fun x x0 x1' => f2 x x0 (by omega)) (fun k k0 k1 => f3 k k0 (by omega)) rfl) f4.2.1 (by omega) (by omega) c1 cw (by omega) (by omega) (fun q => absurd q (by omega)) hk)
theorem p_18 {k : Int → FS → FI → FJ → Prop} {kx : Nat → FS → FI → FJ → Prop} {a b : Nat} {l s : Nat → Int} {w : La} {x1 : Int} {S : FS} {F : FI} {G : FJ} (hL : hasL S F a) (hK : 1 ≤ F a 9 → YK S F G a b l s w) (noL : F a 9 < 1 → kx 3 S (rfc F 3) G) (noP : 1 ≤ F a 9 → ¬ (0 ≤ x1 ∧ x1 < l 2) → kx 0 S (rfc F 0) G)
    (ok : 1 ≤ F a 9 → 0 ≤ x1 ∧ x1 < l 2 → ∀ S' F' G', YK S' F' G' a b l s w → QC S S' F F' G G' → k (sDr l (l 4) (sMask l w (-1)) (fun _ => x1) x1 (l 3).toNat (l 6) (l 4)) S' F' G') : calL 7 18 [.inr (.inr (.inl 1)), .inl x1] (mm S F G) k kx := by
  refine sg_18_0 (c_51 hL.1 hL.2 (fun q => ?_) (fun q => ex_3 ⟨_, _, _, rfl, noL q⟩))
  have hk0 := hK q
  obtain ⟨ha, hb, ⟨k1, k2, k3, k4⟩, hv, hs, hw, hl, hrw, hpr, -⟩ := id hk0
  have hv' := hv
  obtain ⟨⟨hv1, hv2⟩, ⟨hv3, hv4⟩, ⟨hv5, hv6⟩, ⟨hv7, hv8⟩, ⟨hv9, hv10⟩, ⟨hv11, hv12⟩, ⟨hv13, hv14⟩, hvw, hvs, hvk, hvc, hvx⟩ := id hv
  refine c_52 ha k1 hl.1.2.2.1 (fun p => ?_) (fun p => ex_0 ⟨_, _, _, rfl, noP q p⟩)
  simp only [k1]
  refine m_lone hk0 p.1 p.2 (fun S' F' G' y1 y2 y3 y4 => ?_)
  have hl' := y1.2.2.2.2.2.2.1
  refine c_62 ha (Or.inr rfl) (Or.inr rfl) y1.2.2.1.1 hv ⟨hl'.1.2.2.1, hl'.1.2.2.2.2.2.2⟩ (by omega) (by omega) (lone_v (w := w) hv hs p.1 p.2).1 y4.2 y4.1 y1.2.2.2.2.2.2.2.2.2.2.2.2.1 (by omega) p.2 ⟨_, _, _, rfl, ?_⟩
  unfold sTo
  rw [if_neg (by omega), lone_n hv p.1]
  exact ok q p S' F' G' y1 y2
theorem p_26 {k : Int → FS → FI → FJ → Prop} {kx : Nat → FS → FI → FJ → Prop} {a b : Nat} {l s : Nat → Int} {w : La} {x1 x2 : Int} {F0 : FI} {S : FS} {F : FI} {G : FJ} (hR : F0 100 = l ∧ F0 112 = s ∧ mL F0 = w) (hL : hasL S F a) (hK : 1 ≤ F a 9 → YK S F G a b l s w) (noL : F a 9 < 1 → kx 3 S (rfc F 3) G) (noP : 1 ≤ F a 9 → ¬ (0 ≤ x1 ∧ x1 < l 2) → kx 0 S (rfc F 0) G)
    (noA : 1 ≤ F a 9 → 0 ≤ x1 ∧ x1 < l 2 → ¬ (0 ≤ x2 ∧ x2 < l 3) → kx 2 S (rfc F 2) G)
    (ok : 1 ≤ F a 9 → 0 ≤ x1 ∧ x1 < l 2 → 0 ≤ x2 ∧ x2 < l 3 → ∀ S' F' G', YK S' F' G' a b l s w → QC S S' F F' G G' → k (sGn F0 (cLed (cBs F0) x2 x1) x1) S' F' G') : calL 8 26 [.inr (.inr (.inl 1)), .inl x1, .inl x2] (mm S F G) k kx := by
  obtain ⟨rfl, rfl, rfl⟩ := hR
  refine sg_26_0 (c_51 hL.1 hL.2 (fun q => ?_) (fun q => ex_3 ⟨_, _, _, rfl, noL q⟩))
  have hk0 := hK q
  obtain ⟨ha, hb, ⟨k1, k2, k3, k4⟩, hv, hs, hw, hl, hrw, hpr, -⟩ := id hk0
  refine c_52 ha k1 hl.1.2.2.1 (fun p => ?_) (fun p => ex_0 ⟨_, _, _, rfl, noP q p⟩)
  simp only [k1, lk ha, lk1 ha, lk2 ha, lk3 ha, lk4 ha, lk5 ha, lk6 ha, lk7 ha, lk8 ha, lk9 ha, lr0 ha, lr1 ha, lr2 ha, lr3 ha, lr4 ha, lr5 ha, lr6 ha, lr7 ha, lr8 ha, hl.1.2.2.2.1]
  refine cn_i (fun y => c_55_0 (ex_2 ⟨_, _, _, rfl, noA q p (by omega)⟩)) (fun y => ck_i rfl (cn_i (fun y2 => c_55_1 ?_) (fun y2 => c_55_0 (ex_2 ⟨_, _, _, rfl, noA q p (by omega)⟩))))
  refine c_60 hk0 (fun S1 F1 G1 y1 q1 z1 => c_64 y1 z1 (by omega) y2 p.1 p.2 (fun S2 F2 G2 y2' q2 z2 t2 => ?_))
  refine c_63 y2' z2 (cLed_v (sCf_v _ hv hs) p.1 p.2) t2 (by omega) p.2 ⟨_, _, _, rfl, ?_⟩
  have := ok q p (by omega) S2 F2 G2 y2' (QC_t q1 q2)
  unfold sGn at this
  unfold sTo
  rw [if_neg (by omega), if_neg (by omega)]
  exact this
theorem sGn_b {F : FI} {c : Cf} {k : Int} (hv : LV (F 100)) (hs : SV (F 100) (F 112)) (hc : CV (F 100) (F 100 4) c) (h0 : 0 ≤ k) (h1 : k < F 100 2) : -2251799813685248 ≤ sGn F c k ∧ sGn F c k ≤ 2251799813685248 := by
  have hv' := hv
  obtain ⟨⟨hv1, hv2⟩, ⟨hv3, hv4⟩, ⟨hv5, hv6⟩, ⟨hv7, hv8⟩, ⟨hv9, hv10⟩, ⟨hv11, hv12⟩, ⟨hv13, hv14⟩, hvw, hvs, hvk, hvc, hvx⟩ := id hv
  have a := sNow_b (k := k) hv (by omega) (by omega) hc h0 h1
  have b := sNow_b (k := k) (c := cBs F) (l := F 100) (st := F 100 4) hv (by omega) (by omega) (sCf_v _ hv hs) h0 h1
  unfold B5 at a b
  unfold sGn
  omega
/-- what is gained, of what was tried -/
theorem g_63 {k : Int → FS → FI → FJ → Prop} {a b : Nat} {g : Cf} {x1 : Int} {F0 : FI} {S : FS} {F : FI} {G : FJ} (hk0 : YK S F G a b (F0 100) (F0 112) (mL F0)) (hs1 : F 1 17 = 1) (hc : CV (F0 100) (F0 100 4) g) (ht : TRY F G (F0 100) g (F0 100 4)) (h3 : 0 ≤ x1) (h3' : x1 < F0 100 2) (hk : k (sGn F0 g x1) S F G) :
    calL 3 63 [.inr (.inr (.inl 1)), .inl x1] (mm S F G) k nof := by
  refine c_63 hk0 hs1 hc ht (by omega) h3' ?_
  unfold sTo
  rw [if_neg (by omega), if_neg (by omega)]
  exact hk
theorem p_28 {k : Int → FS → FI → FJ → Prop} {kx : Nat → FS → FI → FJ → Prop} {a b : Nat} {l s : Nat → Int} {w : La} {x1 x2 : Int} {F0 : FI} {S : FS} {F : FI} {G : FJ} (hR : F0 100 = l ∧ F0 112 = s ∧ mL F0 = w) (hL : hasL S F a) (hK : 1 ≤ F a 9 → YK S F G a b l s w) (noL : F a 9 < 1 → kx 3 S (rfc F 3) G) (noP : 1 ≤ F a 9 → ¬ (0 ≤ x2 ∧ x2 < l 2) → kx 0 S (rfc F 0) G)
    (noA : 1 ≤ F a 9 → 0 ≤ x2 ∧ x2 < l 2 → ¬ (0 ≤ x1 ∧ x1 < l 3) → kx 2 S (rfc F 2) G)
    (ok : 1 ≤ F a 9 → 0 ≤ x2 ∧ x2 < l 2 → 0 ≤ x1 ∧ x1 < l 3 → ∀ S' F' G', YK S' F' G' a b l s w → QC S S' F F' G G' → k (sGn F0 (cLed (cBs F0) x1 x2) x2 + sGn F0 (cLed (cBs F0) x1 x2) (sLd l s x1)) S' F' G') : calL 8 28 [.inr (.inr (.inl 1)), .inl x1, .inl x2] (mm S F G) k kx := by
  obtain ⟨rfl, rfl, rfl⟩ := hR
  refine sg_28_0 (c_51 hL.1 hL.2 (fun q => ?_) (fun q => ex_3 ⟨_, _, _, rfl, noL q⟩))
  have hk0 := hK q
  obtain ⟨ha, hb, ⟨k1, k2, k3, k4⟩, hv, hs, hw, hl, hrw, hpr, -⟩ := id hk0
  have hv' := hv
  obtain ⟨⟨hv1, hv2⟩, ⟨hv3, hv4⟩, ⟨hv5, hv6⟩, ⟨hv7, hv8⟩, ⟨hv9, hv10⟩, ⟨hv11, hv12⟩, ⟨hv13, hv14⟩, hvw, hvs, hvk, hvc, hvx⟩ := id hv
  refine c_52 ha k1 hl.1.2.2.1 (fun p => ?_) (fun p => ex_0 ⟨_, _, _, rfl, noP q p⟩)
  simp only [k1, lk ha, lk1 ha, lk2 ha, lk3 ha, lk4 ha, lk5 ha, lk6 ha, lk7 ha, lk8 ha, lk9 ha, lr0 ha, lr1 ha, lr2 ha, lr3 ha, lr4 ha, lr5 ha, lr6 ha, lr7 ha, lr8 ha, hl.1.2.2.2.1]
  refine cn_i (fun y => c_55_0 (ex_2 ⟨_, _, _, rfl, noA q p (by omega)⟩)) (fun y => ck_i rfl (cn_i (fun y2 => c_55_1 ?_) (fun y2 => c_55_0 (ex_2 ⟨_, _, _, rfl, noA q p (by omega)⟩))))
  refine c_60 hk0 (fun S1 F1 G1 y1 q1 z1 => c_64 y1 z1 (by omega) y2 p.1 p.2 (fun S2 F2 G2 y2' q2 z2 t2 => ?_))
  have c1 := cLed_v (h := x1) (sCf_v (w := mL F0) (F0 100 4) hv hs) p.1 p.2
  have ld := sLd_b hv hs (h := x1) (by omega) (by omega)
  have so := (y2'.2.2.2.2.2.2.2.2.2.2.2.2.2.2 z2).1 x1 (by omega) (by omega)
  refine g_63 y2' z2 c1 t2 p.1 p.2 ?_
  rw [so]
  refine ck_i (jb_i (by omega) (by omega)) (g_63 y2' z2 c1 t2 ld.1 ld.2 ?_)
  have b1 := sGn_b hv hs c1 p.1 p.2
  have b2 := sGn_b hv hs c1 ld.1 ld.2
  rw [wl_id (by omega) (by omega)]
  exact ⟨_, _, _, rfl, ok q p (by omega) S2 F2 G2 y2' (QC_t q1 q2)⟩
theorem p_35 {k : Int → FS → FI → FJ → Prop} {kx : Nat → FS → FI → FJ → Prop} {a b : Nat} {l s : Nat → Int} {w : La} {x1 : Int} {S : FS} {F : FI} {G : FJ} (hL : hasL S F a) (hK : 1 ≤ F a 9 → YK S F G a b l s w) (noL : F a 9 < 1 → kx 3 S (rfc F 3) G) (noP : 1 ≤ F a 9 → ¬ (0 ≤ x1 ∧ x1 < l 2) → kx 0 S (rfc F 0) G)
    (ok : 1 ≤ F a 9 → 0 ≤ x1 ∧ x1 < l 2 → ∀ S' F' G', YK S' F' G' a b l s w → QC S S' F F' G G' → k (sNow l (cKnd (sCf l s w) x1 0) (l 4) x1 - sNow l (cKnd (sCf l s w) x1 4) (l 4) x1) S' F' G') : calL 8 35 [.inr (.inr (.inl 1)), .inl x1] (mm S F G) k kx := by
  refine sg_35_0 (c_51 hL.1 hL.2 (fun q => ?_) (fun q => ex_3 ⟨_, _, _, rfl, noL q⟩))
  have hk0 := hK q
  obtain ⟨ha, hb, ⟨k1, k2, k3, k4⟩, hv, hs, hw, hl, hrw, hpr, -⟩ := id hk0
  have hv' := hv
  obtain ⟨⟨hv1, hv2⟩, ⟨hv3, hv4⟩, ⟨hv5, hv6⟩, ⟨hv7, hv8⟩, ⟨hv9, hv10⟩, ⟨hv11, hv12⟩, ⟨hv13, hv14⟩, hvw, hvs, hvk, hvc, hvx⟩ := id hv
  refine c_52 ha k1 hl.1.2.2.1 (fun p => ?_) (fun p => ex_0 ⟨_, _, _, rfl, noP q p⟩)
  refine c_67 hk0 p.1 p.2 (by omega) (by omega) (fun S1 F1 G1 y1 q1 => c_67 y1 p.1 p.2 (by omega) (by omega) (fun S2 F2 G2 y2 q2 => ⟨_, _, _, rfl, ?_⟩))
  have c0 := sCf_v (w := w) (l 4) hv hs
  rw [(sub_5 (sNow_b hv (by omega) (by omega) (cKnd_v c0) p.1 p.2) (sNow_b hv (by omega) (by omega) (cKnd_v c0) p.1 p.2)).1]
  exact ok q p S2 F2 G2 y2 (QC_t q1 q2)
theorem l_36 {Q : Rs → Mm → Prop} {a b : Nat} {F0 : FI} {x1 x2 y3 x5 : Int} {S S0 : FS} {F Fz : FI} {G Gz : FJ} (hk0 : YK S F G a b (F0 100) (F0 112) (mL F0)) (hq : QC S0 S Fz F Gz G) (p1 : 0 ≤ x1) (p2 : x1 < F0 100 2) (h0 : 1 ≤ x5) (h1 : x5 ≤ 6) (e2 : x2 = sAsk F0 x1 (x5 - 1).toNat) (e3 : y3 = sNow (F0 100) (cKnd (cBs F0) x1 x2) (F0 100 4) x1)
    (hk : ∀ S' F' G', YK S' F' G' a b (F0 100) (F0 112) (mL F0) → QC S0 S' Fz F' Gz G' → Q (.inl (some (.inl (sAsk F0 x1 5)))) (mm S' F' G')) : wph 8 36 21 [.inr (.inr (.inl 1)), .inl x1, .inl x2, .inr (.inl y3), jk, .inl x5] [] (mm S F G) (2, 12) Q := by
  refine tg_36_21 (cn_i (fun z => ?_) (fun z => ?_))
  · rw [e2, show (x5 - 1).toNat = 5 by omega]
    exact hk S F G hk0 hq
  · obtain ⟨d, hd⟩ : ∃ d : Nat, (x5 - 1).toNat = d := ⟨_, rfl⟩
    have e5 : x5 = (d : Int) + 1 := by omega
    have en : sAsk F0 x1 (x5 + 1 - 1).toNat = if sNow (F0 100) (cKnd (cBs F0) x1 (sAsk F0 x1 d)) (F0 100 4) x1 < sNow (F0 100) (cKnd (cBs F0) x1 ((d : Int) + 1)) (F0 100 4) x1 then (d : Int) + 1 else sAsk F0 x1 d := by
      rw [show (x5 + 1 - 1).toNat = d + 1 by omega]
      rfl
    rw [hd] at e2
    rw [← e2, ← e3, ← e5] at en
    refine c_67 hk0 p1 p2 (by omega) (by omega) (fun S1 F1 G1 y1 q1 => ?_)
    rw [wr_id (a := x5 + 1) (by omega) (by omega)]
    refine cn_i (fun y => ?_) (fun y => ?_)
    · refine l_36 y1 (QC_t hq q1) p1 p2 (by omega) (by omega) ?_ rfl hk
      rw [en]
      exact (if_pos (lc_p.mp y)).symm
    · refine l_36 y1 (QC_t hq q1) p1 p2 (by omega) (by omega) ?_ e3 hk
      rw [en]
      exact (if_neg (fun u => y (lc_p.mpr u))).symm
termination_by (6 - x5).toNat
decreasing_by all_goals omega
theorem p_36 {k : Int → FS → FI → FJ → Prop} {kx : Nat → FS → FI → FJ → Prop} {a b : Nat} {l s : Nat → Int} {w : La} {x1 : Int} {F0 : FI} {S : FS} {F : FI} {G : FJ} (hR : F0 100 = l ∧ F0 112 = s ∧ mL F0 = w) (hL : hasL S F a) (hK : 1 ≤ F a 9 → YK S F G a b l s w) (noL : F a 9 < 1 → kx 3 S (rfc F 3) G) (noP : 1 ≤ F a 9 → ¬ (0 ≤ x1 ∧ x1 < l 2) → kx 0 S (rfc F 0) G)
    (ok : 1 ≤ F a 9 → 0 ≤ x1 ∧ x1 < l 2 → ∀ S' F' G', YK S' F' G' a b l s w → QC S S' F F' G G' → k (sAsk F0 x1 5) S' F' G') : calI 8 36 [.inr (.inr (.inl 1)), .inl x1] (mm S F G) k kx := by
  obtain ⟨rfl, rfl, rfl⟩ := hR
  refine sg_36_0 (c_51 hL.1 hL.2 (fun q => ?_) (fun q => ex_3 ⟨_, _, _, rfl, noL q⟩))
  have hk0 := hK q
  obtain ⟨ha, hb, ⟨k1, k2, k3, k4⟩, hv, hs, hw, hl, hrw, hpr, -⟩ := id hk0
  refine c_52 ha k1 hl.1.2.2.1 (fun p => ?_) (fun p => ex_0 ⟨_, _, _, rfl, noP q p⟩)
  exact c_67 hk0 p.1 p.2 (by omega) (by omega) (fun S1 F1 G1 y1 q1 => l_36 y1 q1 p.1 p.2 (by omega) (by omega) rfl rfl (fun S' F' G' y2 q2 => ⟨_, _, _, rfl, ok q p S' F' G' y2 q2⟩))
theorem p_37 {k : Int → FS → FI → FJ → Prop} {kx : Nat → FS → FI → FJ → Prop} {a b : Nat} {l s : Nat → Int} {w : La} {x1 : Int} {S : FS} {F : FI} {G : FJ} (hL : hasL S F a) (hK : 1 ≤ F a 9 → YK S F G a b l s w) (noL : F a 9 < 1 → kx 3 S (rfc F 3) G) (noP : 1 ≤ F a 9 → ¬ (0 ≤ x1 ∧ x1 < l 2) → kx 0 S (rfc F 0) G)
    (ok : 1 ≤ F a 9 → 0 ≤ x1 ∧ x1 < l 2 → ∀ S' F' G', YK S' F' G' a b l s w → QC S S' F F' G G' → k (sDr l (l 4) (sMask l w (-1)) (fun _ => x1) x1 (l 3).toNat (l 6) (l 4) - sNow l (sCf l s w) (l 4) x1) S' F' G') : calL 8 37 [.inr (.inr (.inl 1)), .inl x1] (mm S F G) k kx := by
  refine sg_37_0 (c_51 hL.1 hL.2 (fun q => ?_) (fun q => ex_3 ⟨_, _, _, rfl, noL q⟩))
  have hk0 := hK q
  obtain ⟨ha, hb, ⟨k1, k2, k3, k4⟩, hv, hs, hw, hl, hrw, hpr, -⟩ := id hk0
  refine c_52 ha k1 hl.1.2.2.1 (fun p => ?_) (fun p => ex_0 ⟨_, _, _, rfl, noP q p⟩)
  refine c_60 hk0 (fun S1 F1 G1 y1 q1 z1 => ?_)
  simp only [y1.2.2.1.1]
  refine m_lone y1 p.1 p.2 (fun S2 F2 G2 y2 q2 z2 t2 => ?_)
  refine c_63 y2 (z2.trans z1) (lone_v (w := w) hv hs p.1 p.2).1 t2 (by omega) p.2 ⟨_, _, _, rfl, ?_⟩
  unfold sTo
  rw [if_neg (by omega), if_neg (by omega), lone_n hv p.1]
  exact ok q p S2 F2 G2 y2 (QC_t q1 q2)
theorem p_38 {k : Int → FS → FI → FJ → Prop} {kx : Nat → FS → FI → FJ → Prop} {a b : Nat} {l s : Nat → Int} {w : La} {x1 x2 x3 : Int} {F0 : FI} {S : FS} {F : FI} {G : FJ} (hR : F0 100 = l ∧ F0 112 = s ∧ mL F0 = w) (hL : hasL S F a) (hK : 1 ≤ F a 9 → YK S F G a b l s w) (noL : F a 9 < 1 → kx 3 S (rfc F 3) G) (noP : 1 ≤ F a 9 → ¬ (0 ≤ x1 ∧ x1 < l 2) → kx 0 S (rfc F 0) G)
    (noP2 : 1 ≤ F a 9 → 0 ≤ x1 ∧ x1 < l 2 → ¬ (0 ≤ x2 ∧ x2 < l 2) → kx 0 S (rfc F 0) G) (noA : 1 ≤ F a 9 → 0 ≤ x1 ∧ x1 < l 2 → 0 ≤ x2 ∧ x2 < l 2 → ¬ (x1 ≠ x2 ∧ 0 ≤ x3 ∧ x3 ≤ 1) → kx 2 S (rfc F 2) G)
    (ok : 1 ≤ F a 9 → 0 ≤ x1 ∧ x1 < l 2 → 0 ≤ x2 ∧ x2 < l 2 → x1 ≠ x2 ∧ 0 ≤ x3 ∧ x3 ≤ 1 → ∀ S' F' G', YK S' F' G' a b l s w → QC S S' F F' G G' → k (sGn F0 (cPct (cBs F0) x1 x2) (if x3 = 0 then x1 else x2)) S' F' G') : calL 8 38 [.inr (.inr (.inl 1)), .inl x1, .inl x2, .inl x3] (mm S F G) k kx := by
  obtain ⟨rfl, rfl, rfl⟩ := hR
  refine sg_38_0 (c_51 hL.1 hL.2 (fun q => ?_) (fun q => ex_3 ⟨_, _, _, rfl, noL q⟩))
  have hk0 := hK q
  obtain ⟨ha, hb, ⟨k1, k2, k3, k4⟩, hv, hs, hw, hl, hrw, hpr, -⟩ := id hk0
  refine c_52 ha k1 hl.1.2.2.1 (fun p => c_52 ha k1 hl.1.2.2.1 (fun p' => ?_) (fun p' => ex_0 ⟨_, _, _, rfl, noP2 q p p'⟩)) (fun p => ex_0 ⟨_, _, _, rfl, noP q p⟩)
  refine cn_i (fun y => c_55_0 (ex_2 ⟨_, _, _, rfl, noA q p p' (by omega)⟩)) (fun y => cn_i (fun y2 => c_55_1 ?_) (fun y2 => cn_i (fun y3 => c_55_1 ?_) (fun y3 => c_55_0 (ex_2 ⟨_, _, _, rfl, noA q p p' (by omega)⟩))))
  · refine c_60 hk0 (fun S1 F1 G1 y1 q1 z1 => c_66 y1 p.1 p.2 p'.1 p'.2 y (fun S2 F2 G2 y2' q2 z2 t2 => cd_t y2 (g_63 y2' (z2.trans z1) (cPct_v (sCf_v _ hv hs) (fun u => by omega)) t2 p.1 p.2 ⟨_, _, _, rfl, ?_⟩)))
    have := ok q p p' (by omega) S2 F2 G2 y2' (QC_t q1 q2)
    rw [if_pos y2] at this
    exact this
  · refine c_60 hk0 (fun S1 F1 G1 y1 q1 z1 => c_66 y1 p.1 p.2 p'.1 p'.2 y (fun S2 F2 G2 y2' q2 z2 t2 => cd_f y2 (g_63 y2' (z2.trans z1) (cPct_v (sCf_v _ hv hs) (fun u => by omega)) t2 p'.1 p'.2 ⟨_, _, _, rfl, ?_⟩)))
    have := ok q p p' (by omega) S2 F2 G2 y2' (QC_t q1 q2)
    rw [if_neg y2] at this
    exact this
theorem p_45 {k : Int → FS → FI → FJ → Prop} {kx : Nat → FS → FI → FJ → Prop} {a b : Nat} {l s : Nat → Int} {w : La} {S : FS} {F : FI} {G : FJ} (hL : hasL S F a) (hK : 1 ≤ F a 9 → YK S F G a b l s w) (noL : F a 9 < 1 → kx 3 S (rfc F 3) G)
    (ok : 1 ≤ F a 9 → ∀ S' F' G', YK S' F' G' a b l s w → QC S S' F F' G G' → k (sAll l (cVot (sCf l s w) 1) (l 4)) S' F' G') : calL 7 45 [.inr (.inr (.inl 1))] (mm S F G) k kx := by
  refine sg_45_0 (c_51 hL.1 hL.2 (fun q => ?_) (fun q => ex_3 ⟨_, _, _, rfl, noL q⟩))
  have hk0 := hK q
  obtain ⟨ha, hb, ⟨k1, k2, k3, k4⟩, hv, hs, hw, hl, hrw, hpr, -⟩ := id hk0
  have hv' := hv
  obtain ⟨⟨hv1, hv2⟩, ⟨hv3, hv4⟩, ⟨hv5, hv6⟩, ⟨hv7, hv8⟩, ⟨hv9, hv10⟩, ⟨hv11, hv12⟩, ⟨hv13, hv14⟩, hvw, hvs, hvk, hvc, hvx⟩ := id hv
  have c1 : CV l (l 4) (cVot (sCf l s w) 1) := cVot_v (sCf_v _ hv hs)
  simp only [k1]
  refine c_247 ha (Or.inr rfl) hv hs hl hpr (fun F1 f1 f2 f3 f4 => c_343 (n := 5) rfl (by decide) ?_)
  have o2 : ∀ c, ¬ (11 ≤ c ∧ c ≤ 15) → yfl F1 13 5 7 c = F c := fun c hc => by
    rw [yfl_o (by omega)]
    exact f1 c (by omega) (by omega) (by omega) (by omega) (by omega)
  simp only [k1, lk ha, lk1 ha, lk2 ha, lk3 ha, lk4 ha, lk5 ha, lk6 ha, lk7 ha, lk8 ha, lk9 ha, lr0 ha, lr1 ha, lr2 ha, lr3 ha, lr4 ha, lr5 ha, lr6 ha, lr7 ha, lr8 ha]
  rw [o2 a (by omega), hl.1.2.2.2.1]
  refine ck_i rfl (m_try (g := cVot (sCf l s w) 1) hk0 o2 (fun _ _ => rfl) ⟨fun h h0 h1' => ?_, fun k k0 k1 => ?_, fun h h0 h1' => ?_, ?_, fun u => absurd rfl u⟩ ?_ (by omega) (by omega) c1 (sCf_w (w := w) hs hv) (by omega) (by omega) (fun q => absurd q (by omega)) (fun S' F' G' y1 y2 y3 y4 => ?_))
  · rw [yfl_o (by decide)]
    exact f2 h h0 (by omega)
  · rw [yfl_i (by omega)]
    exact (if_pos rfl).symm
  · rw [yfl_o (by decide)]
    exact f4.1 h h0 (by omega)
  · show sMask l w (-1) = _
    rw [yfl_o (by decide), f4.2.2.1]
  · rw [yfl_o (by decide)]
    exact f4.2.1
  · have hl' := y1.2.2.2.2.2.2.1
    refine c_62 ha (Or.inr rfl) (Or.inr rfl) y1.2.2.1.1 hv ⟨hl'.1.2.2.1, hl'.1.2.2.2.2.2.2⟩ (by omega) (by omega) c1 y4.2 y4.1 y1.2.2.2.2.2.2.2.2.2.2.2.2.1 (by omega) (by omega) ⟨_, _, _, rfl, ?_⟩
    unfold sTo
    rw [if_pos rfl]
    exact ok q S' F' G' y1 y2
theorem p_43 {k : Int → FS → FI → FJ → Prop} {kx : Nat → FS → FI → FJ → Prop} {a b : Nat} {l s : Nat → Int} {w : La} {x1 x2 : Int} {F0 : FI} {S : FS} {F : FI} {G : FJ} (hR : F0 100 = l ∧ F0 112 = s ∧ mL F0 = w) (hL : hasL S F a) (hK : 1 ≤ F a 9 → YK S F G a b l s w) (noL : F a 9 < 1 → kx 3 S (rfc F 3) G) (noP : 1 ≤ F a 9 → ¬ (-1 ≤ x2 ∧ x2 < l 2) → kx 0 S (rfc F 0) G)
    (noA : 1 ≤ F a 9 → -1 ≤ x2 ∧ x2 < l 2 → ¬ (0 ≤ x1 ∧ x1 < w.1) → kx 1 S (rfc F 1) G)
    (ok : 1 ≤ F a 9 → -1 ≤ x2 ∧ x2 < l 2 → 0 ≤ x1 ∧ x1 < w.1 → ∀ S' F' G', YK S' F' G' a b l s w → QC S S' F F' G G' → k (sWo F0 x1 x2) S' F' G') : calL 8 43 [.inr (.inr (.inl 1)), .inl x1, .inl x2] (mm S F G) k kx := by
  obtain ⟨rfl, rfl, rfl⟩ := hR
  refine sg_43_0 (c_51 hL.1 hL.2 (fun q => ?_) (fun q => ex_3 ⟨_, _, _, rfl, noL q⟩))
  have hk0 := hK q
  obtain ⟨ha, hb, ⟨k1, k2, k3, k4⟩, hv, hs, hw, hl, hrw, hpr, -⟩ := id hk0
  have hv' := hv
  obtain ⟨⟨hv1, hv2⟩, ⟨hv3, hv4⟩, ⟨hv5, hv6⟩, ⟨hv7, hv8⟩, ⟨hv9, hv10⟩, ⟨hv11, hv12⟩, ⟨hv13, hv14⟩, hvw, hvs, hvk, hvc, hvx⟩ := id hv
  refine c_53 ha k1 hl.1.2.2.1 (by omega) (fun p => ?_) (fun p => ex_0 ⟨_, _, _, rfl, noP q p⟩)
  simp only [k2, wk hb, wk1 hb, wk2 hb, wk3 hb, wk4 hb, wk5 hb, wr0 hb, wr1 hb, wr2 hb, wr3 hb, wr4 hb, hrw.1]
  refine cn_i (fun y => c_54_0 (ex_1 ⟨_, _, _, rfl, noA q p (by omega)⟩)) (fun y => ck_i rfl (cn_i (fun y2 => c_54_1 ?_) (fun y2 => c_54_0 (ex_1 ⟨_, _, _, rfl, noA q p (by omega)⟩))))
  refine c_60 hk0 (fun S1 F1 G1 y1 q1 z1 => ?_)
  obtain ⟨-, -, ⟨k1', -, -, -⟩, -, -, -, hl1, -, hpr1, -⟩ := id y1
  have c1 : CV (F0 100) (F0 100 4) (cMk F0 (cBs F0) x1) := cMk_v hv (sCf_v (F0 100 4) hv hs)
  simp only [k1']
  refine c_247 ha (Or.inr rfl) hv hs hl1 hpr1 (fun F2 f1 f2 f3 f4 => ?_)
  have o2 : ∀ c, ¬ (11 ≤ c ∧ c ≤ 15) → u2 F2 11 5 x1 c = F1 c := fun c hc => by
    rw [u2_o (by omega)]
    exact f1 c (by omega) (by omega) (by omega) (by omega) (by omega)
  simp only [k1', lk ha, lk1 ha, lk2 ha, lk3 ha, lk4 ha, lk5 ha, lk6 ha, lk7 ha, lk8 ha, lk9 ha, lr0 ha, lr1 ha, lr2 ha, lr3 ha, lr4 ha, lr5 ha, lr6 ha, lr7 ha, lr8 ha]
  rw [o2 a (by omega), hl1.1.2.2.2.1]
  refine ck_i rfl (m_try (g := cMk F0 (cBs F0) x1) y1 o2 (fun _ _ => rfl) ⟨fun h h0 h1' => ?_, fun k k0 k1 => ?_, fun h h0 h1' => ?_, ?_, fun u => absurd rfl u⟩ ?_ (by omega) (by omega) c1 (sCf_w (w := mL F0) hs hv) (by omega) (by omega) (fun q => absurd q (by omega)) (fun S' F' G' y3 y4 y5 y6 => ?_))
  · rw [u2_o (by decide)]
    exact f2 h h0 (by omega)
  · rw [u2_o (by decide), f3 k k0 (by omega)]
    show _ = if (0 : Int) = 1 then 7 else if k = -1 ∨ k = -1 then 6 else F0 112 k.toNat
    rw [if_neg (by decide), if_neg (by omega)]
  · rw [u2_o (by decide)]
    exact f4.1 h h0 (by omega)
  · show sMask (F0 100) (mL F0) x1 = _
    rw [u2_s]
  · rw [u2_n (by decide)]
    exact f4.2.1
  · refine c_63 y3 (y5.trans z1) c1 y6 p.1 p.2 ⟨_, _, _, rfl, ?_⟩
    exact ok q p (by omega) S' F' G' y3 (QC_t q1 y4)
