/-! ===== the class proves rows, goes on journeys ===== -/
theorem p_25 {k : Int → FS → FI → FJ → Prop} {kx : Nat → FS → FI → FJ → Prop} {a b : Nat} {l s : Nat → Int} {w : La} {x1 : Int} {F0 : FI} {S : FS} {F : FI} {G : FJ} (hR : F0 100 = l ∧ F0 112 = s ∧ mL F0 = w) (hL : hasL S F a) (hK : 1 ≤ F a 9 → YK S F G a b l s w) (noL : F a 9 < 1 → kx 3 S (rfc F 3) G) (noP : 1 ≤ F a 9 → ¬ (0 ≤ x1 ∧ x1 < l 2) → kx 0 S (rfc F 0) G)
    (ok : 1 ≤ F a 9 → 0 ≤ x1 ∧ x1 < l 2 → ∀ S' F' G', YK S' F' G' a b l s w → QC S S' F F' G G' → k (sPr F0 x1 (l 3 + 1).toNat 0 (l 6) (l 4)) S' F' G') : calI 7 25 [.inr (.inr (.inl 1)), .inl x1] (mm S F G) k kx := by
  obtain ⟨rfl, rfl, rfl⟩ := hR
  refine sg_25_0 (c_51 hL.1 hL.2 (fun q => ?_) (fun q => ex_3 ⟨_, _, _, rfl, noL q⟩))
  have hk0 := hK q
  obtain ⟨ha, hb, ⟨k1, k2, k3, k4⟩, hv, hs, hw, hl, hrw, hpr, v1, v2, v3, v4, v5, v6⟩ := id hk0
  have hv' := hv
  obtain ⟨⟨hv1, hv2⟩, ⟨hv3, hv4⟩, ⟨hv5, hv6⟩, ⟨hv7, hv8⟩, ⟨hv9, hv10⟩, ⟨hv11, hv12⟩, ⟨hv13, hv14⟩, hvw, hvs, hvk, hvc, hvx⟩ := id hv
  refine c_52 ha k1 hl.1.2.2.1 (fun p => ?_) (fun p => ex_0 ⟨_, _, _, rfl, noP q p⟩)
  obtain ⟨c1, cw⟩ := lone_v (s := F0 112) (w := mL F0) hv hs p.1 p.2
  simp only [k1]
  refine c_248 ha (Or.inr rfl) hv hs hl hpr p.1 (by omega) (fun F1 f1 f2 f3 f4 => ?_)
  have o1 : ∀ c, ¬ (11 ≤ c ∧ c ≤ 15) → F1 c = F c := fun c hc => f1 c (by omega) (by omega) (by omega) (by omega) (by omega)
  have fk : ∀ i, kpC i → F1 i = F i := fun i hi => o1 i (by unfold kpC at hi; omega)
  simp only [k1, lk ha, lk1 ha, lk2 ha, lk3 ha, lk4 ha, lk5 ha, lk6 ha, lk7 ha, lk8 ha, lk9 ha, lr0 ha, lr1 ha, lr2 ha, lr3 ha, lr4 ha, lr5 ha, lr6 ha, lr7 ha, lr8 ha]
  rw [o1 a (by omega), hl.1.2.2.2.1]
  refine ck_i rfl (c_257w (YK_Y hk0 (Or.inr rfl) (Or.inl rfl) fk f4.2.1 (by rw [o1 16 (by decide)]) (by omega) (by omega)) (SL_R (g := gL F0 x1) hv f4 (fun x x0 x1' => f2 x x0 (by omega)) (fun k k0 k1 => f3 k k0 (by omega)) rfl) c1 cw (by rw [o1 23 (by decide)]; exact v1) (fun F2 G2 g1 g2 g3 g4 g5 => ?_))
  have o2 : ∀ c, c ≠ 22 → c ≠ 23 → c ≠ 25 → c ≠ 18 → ¬ (11 ≤ c ∧ c ≤ 15) → c < 61 → F2 c = F c := fun c h1 h2 h3 h4 h5 h6 => (g1.1 c h1 h2 h3 (by omega) (by omega) h4).trans (o1 c h5)
  have q1 : QC S (lk2S S 11 16) F (u2 F2 1 17 0) G G2 := by
    refine QC_t (F1 := F) (G1 := G) QC_S ⟨fun c hc => ?_, fun i hi => ?_, fun c hc => g2 c (by omega), fun _ _ _ => rfl⟩
    · rw [u2_o hc.2.1, g1.1 c (by unfold kpC at hc; omega) (by unfold kpC at hc; omega) (by unfold kpC at hc; omega) (by unfold kpC at hc; omega) (by unfold kpC at hc; omega) (by unfold kpC at hc; omega)]
      exact fk c hc
    · rw [u2_n hi, o2 1 (by decide) (by decide) (by decide) (by decide) (by decide) (by decide)]
  have y1 : YK (lk2S S 11 16) (u2 F2 1 17 0) G2 a b (F0 100) (F0 112) (mL F0) := by
    refine YK_q hk0 q1 ⟨?_, ?_, ?_, ?_, ?_, fun z => ?_⟩
    · rw [u2_o (by decide)]
      exact g3
    · unfold RK
      rw [u2_o (by decide), u2_o (by decide), o2 24 (by decide) (by decide) (by decide) (by decide) (by decide) (by decide), g1.2 6 (by decide), o1 22 (by decide)]
      exact v2
    · rw [u2_o (by decide), o2 16 (by decide) (by decide) (by decide) (by decide) (by decide) (by decide)]
      exact v3
    · rw [u2_o (by decide), o2 19 (by decide) (by decide) (by decide) (by decide) (by decide) (by decide)]
      exact v4
    · left
      exact u2_s
    · rw [u2_s] at z
      exact absurd z (by decide)
  obtain ⟨-, -, ⟨-, -, k3', -⟩, -, -, -, hl', -⟩ := id y1
  refine sg_291_0 ?_
  rw [k3', lk ha, hl'.1.2.2.2.2.1, hl'.1.2.2.2.2.2.2, wr_id (a := 2 + x1) (by omega) (by omega)]
  refine ck_i rfl (ck_i rfl (l_291 y1 q1 (by unfold lk2S; rw [u2_n (by decide), u2_s]) (by unfold lk2S; rw [u2_s]) (by rw [u2_o (by decide), g1.1 11 (by decide) (by decide) (by decide) (by omega) (by omega) (by decide)]; exact f4.2.1) p.1 p.2 rfl g4 ⟨by omega, by omega, hv13, hv14, by omega, by omega⟩ (fun F' y2 y3 => ⟨_, _, _, rfl, _, _, _, rfl, ?_⟩)))
  have := ok q p _ F' G2 y2 y3
  rw [show (F0 100 3 + 1 - 0).toNat = (F0 100 3 + 1).toNat by omega]
  exact this
/-! ===== what is drawn ===== -/
theorem sm31 : ∀ k : Nat, k < 32 → ((Int32.ofInt (k : Int) &&& 31).toBitVec.smod 32) = BitVec.ofNat 32 k ∧ ((Int32.ofInt (k : Int)).toUInt32 &&& Int32.toUInt32 31).toBitVec % 32 = BitVec.ofNat 32 k := by decide +kernel
theorem sar_u {x : Int} {k c : Nat} (hk : k < 32) (hc : c < 2 ^ (32 - k)) : an (sar x k) c = an (ushr x k) c := by
  unfold an
  rw [← z_sar, ← z_ushr]
  congr 1
  rw [← Int32.toBitVec_inj]
  obtain ⟨s1, s2⟩ := sm31 k hk
  rw [Int32.toBitVec_and, Int32.toBitVec_and, Int32.toBitVec_shiftRight]
  rw [s1]
  apply BitVec.eq_of_getLsbD_eq
  intro i hi
  rw [BitVec.getLsbD_and, BitVec.getLsbD_and]
  by_cases h : i < 32 - k
  · congr 1
    have k1 : k % 4294967296 = k := Nat.mod_eq_of_lt (by omega)
    have k2 : k &&& 31 = k := (show ∀ k, k < 32 → k &&& 31 = k by decide) k hk
    have e : k + i < 32 := by omega
    simp [BitVec.getLsbD_sshiftRight, Nat.mod_eq_of_lt hk, s2, hi, k1, k2]
    rw [← BitVec.getLsbD_eq_getElem, BitVec.getLsbD_sshiftRight, if_pos e]
    simp
    omega
  · have z : (Int32.ofInt (c : Int)).toBitVec.getLsbD i = false := by
      have e : (Int32.ofInt (c : Int)).toBitVec = BitVec.ofNat 32 c := by
        rw [ofI_n]
        rfl
      rw [e, BitVec.getLsbD_ofNat]
      have : 2 ^ (32 - k) ≤ 2 ^ i := Nat.pow_le_pow_right (by decide) (by omega)
      rw [Nat.testBit_lt_two_pow (by omega)]
      simp
    rw [z, Bool.and_false, Bool.and_false]
theorem ofI_m (a : Int) : Int32.ofInt a = nI (a % 4294967296).toNat := by
  rw [← ofI_n, show (((a % 4294967296).toNat : Nat) : Int) = a % 4294967296 by omega, ← Int32.toBitVec_inj]
  apply BitVec.eq_of_toNat_eq
  show (BitVec.ofInt 32 a).toNat = (BitVec.ofInt 32 (a % 4294967296)).toNat
  rw [BitVec.toNat_ofInt, BitVec.toNat_ofInt, show ((2 ^ 32 : Nat) : Int) = 4294967296 from rfl]
  omega
theorem an_p2 {a : Int} {n : Nat} (hn : n ≤ 31) : an a ((2 ^ n - 1 : Nat) : Int) = a % 4294967296 % ((2 ^ n : Nat) : Int) := by
  obtain ⟨u, hu⟩ : ∃ u : Nat, (a % 4294967296).toNat = u := ⟨_, rfl⟩
  have hp : 2 ^ n ≤ 2 ^ 31 := Nat.pow_le_pow_right (by decide) hn
  have hp1 := Nat.two_pow_pos n
  have hm := Nat.mod_lt u hp1
  unfold an
  rw [ofI_m, ofI_n, hu, nI_an, Nat.and_two_pow_sub_one_eq_mod, nI_toInt (by omega), show a % 4294967296 = (u : Int) by omega]
  rfl
/-- what decides whether a way is open -/
theorem dn_e (x : Int) : an (ushr x 16) 15 = sDn x := by
  have e1 := sar_u (x := x) (k := 16) (c := 32767) (by decide) (by decide)
  have e2 := an_p2 (a := ushr x 16) (n := 15) (by decide)
  have e3 := an_p2 (a := ushr x 16) (n := 4) (by decide)
  unfold sDn
  have f1 : an (sar x 16) 32767 = an (ushr x 16) 32767 := e1
  have f2 : an (ushr x 16) 32767 = ushr x 16 % 4294967296 % 32768 := e2
  have f3 : an (ushr x 16) 15 = ushr x 16 % 4294967296 % 16 := e3
  rw [f1, f2, f3, Int.tmod_eq_emod_of_nonneg (by omega)]
  omega
/-! ===== journeys ===== -/
def JC (Fb F F0 : FI) (seed : Int) (h : Nat) : Prop := (∀ c, c ≠ 31 → c ≠ 36 → c ≠ 37 → c ≠ 38 → F c = Fb c) ∧ (∀ i, i ≠ 9 → i ≠ 10 → F 31 i = Fb 31 i) ∧ ∀ j : Nat, j < h → F 36 j = (sTr F0 seed j).2.1 ∧ F 37 j = (sTr F0 seed j).2.2 ∧ F 38 j = sTk (F0 100) (cBs F0) (F0 100 4) j (sTr F0 seed j).2.1 (sTr F0 seed j).2.2
def JE (Fb F F0 : FI) (seed : Int) (L : Nat) : Prop := JL F0 seed L ∧ JC Fb F F0 seed L ∧ F 36 L = (sTr F0 seed L).2.1 ∧ F 37 L = (sTr F0 seed L).2.2 ∧ F 31 9 = (L : Int) ∧ F 31 10 = sEnd (F0 100) L (sTr F0 seed L).2.1 (sTr F0 seed L).2.2
set_option maxRecDepth 100000 in
theorem l_289 {Q : Rs → Mm → Prop} {a : Nat} {F0 Fb : FI} {seed : Int} {S : FS} {G G0 : FJ} (ha : oL a) (k3 : S 22 0 = a) (hm : MV F0 G0) (hl : LR Fb G a (F0 100)) (h16 : Fb 16 0 = 1) (ht : ∀ h p n, vs (F0 100) (F0 100 4) h p n → Fb 18 (sp 16 h p n).toNat = sTk (F0 100) (cBs F0) (F0 100 4) h p n)
    (hk : ∀ (L : Nat) F', JE Fb F' F0 seed L → Q (.inl (some (.inl (L : Int)))) (mm S F' G)) : ∀ (K h : Nat) (x5 x6 x7 : Int) (F : FI), (K : Int) = F0 100 3 - h → (x7, x5, x6) = sTr F0 seed h → (∀ j, j < h → sEnd (F0 100) j (sTr F0 seed j).2.1 (sTr F0 seed j).2.2 = 0) → JC Fb F F0 seed h →
    wph 1 289 29 [.inr (.inr (.inl 26)), .inr (.inr (.inl 31)), .inr (.inr (.inl 16)), jk, .inr (.inr (.inl a)), .inl x5, .inl x6, .inl x7, .inl (h : Int)] [] (mm S F G) (0, 0) Q := by
  have hp : oP 31 := Or.inl rfl
  have hv := hm.1
  have hs := hm.2.1
  have hv' := hv
  obtain ⟨⟨hv1, hv2⟩, ⟨hv3, hv4⟩, ⟨hv5, hv6⟩, ⟨hv7, hv8⟩, ⟨hv9, hv10⟩, ⟨hv11, hv12⟩, ⟨hv13, hv14⟩, hvw, hvs, hvk, hvc, hvx⟩ := id hv
  have cv : CV (F0 100) (F0 100 4) (cBs F0) := sCf_v (w := mL F0) (F0 100 4) hv hs
  intro K
  induction K with
  | zero =>
    intro h x5 x6 x7 F hK htr hgo hj
    have th : ((h : Int)).toNat = h := by omega
    have w := sTr_v hm seed h (by omega) hgo
    have t5 : x5 = (sTr F0 seed h).2.1 := by rw [← htr]
    have t6 : x6 = (sTr F0 seed h).2.2 := by rw [← htr]
    rw [← t5, ← t6] at w
    obtain ⟨w1, w2, w3, w4, w5, w6⟩ := id w
    have he : sEnd (F0 100) h x5 x6 ≠ 0 := by
      rw [show (h : Int) = F0 100 3 by omega]
      exact sEnd_l _ _ _
    refine sg_289_29 ?_
    simp only [lk ha, lk1 ha, lk2 ha, lk3 ha, lk4 ha, lk5 ha, lk6 ha, lk7 ha, lk8 ha, lk9 ha, lr0 ha, lr1 ha, lr2 ha, lr3 ha, lr4 ha, lr5 ha, lr6 ha, lr7 ha, lr8 ha, pk_ hp, pk1 hp, pk2 hp, pk3 hp, pk4 hp, pk5 hp, pk6 hp, pk7 hp, pr0 hp, pr1 hp, pr2 hp, pr3 hp, pr4 hp, pr5 hp, pr6 hp, show kk 16 = (0, 7) from rfl, show rr 16 2 = 18 from rfl, show kk 18 = (1, 3900) from rfl]
    rw [hj.1 a (by omega) (by omega) (by omega) (by omega), hl.1.2.2.2.1]
    refine ck_i rfl (cd_f (by omega) (ck_i rfl (ck_i rfl (ck_i (jb_i w1 (by omega)) (ck_i rfl (ck_i rfl (ck_i (jb_i w1 (by omega)) (ck_i rfl (ck_i rfl ?_)))))))))
    refine c_208 ha (LR_c hl (fun i hi => ?_) rfl) hv2 w3 w4 (by omega) (fun v ev => ?_)
    · rw [u2_o (by omega), u2_o (by omega), u2_o (by omega)]
      exact hj.1 _ (by omega) (by omega) (by omega) (by omega)
    · rw [u2_s, u2_n (by decide), u2_s]
      refine ck_i rfl (ck_i rfl (cd_f (by rw [ev]; exact he) (ck_i rfl ?_)))
      refine hk h _ ⟨⟨by rw [← t5, ← t6]; exact he, hgo⟩, ⟨fun c c1 c2 c3 c4 => ?_, fun i i1 i2 => ?_, fun j hjl => ?_⟩, ?_, ?_, ?_, ?_⟩
      · rw [u2_o c1, u2_o c1, u2_o c3, u2_o c2]
        exact hj.1 c c1 c2 c3 c4
      · rw [u2_n i2, u2_n i1, u2_o (by decide), u2_o (by decide)]
        exact hj.2.1 i i1 i2
      · rw [th, u2_o (by decide), u2_o (by decide), u2_o (by decide), u2_n (by omega), u2_o (by decide), u2_o (by decide), u2_n (by omega), u2_o (by decide), u2_o (by decide), u2_o (by decide), u2_o (by decide)]
        exact hj.2.2 j hjl
      · rw [th, u2_o (by decide), u2_o (by decide), u2_o (by decide), u2_s, t5]
      · rw [th, u2_o (by decide), u2_o (by decide), u2_s, t6]
      · rw [u2_n (by decide), u2_s]
      · rw [u2_s, ev, t5, t6]
  | succ K ih =>
    intro h x5 x6 x7 F hK htr hgo hj
    have th : ((h : Int)).toNat = h := by omega
    have w := sTr_v hm seed h (by omega) hgo
    have t7 : x7 = (sTr F0 seed h).1 := by rw [← htr]
    have t5 : x5 = (sTr F0 seed h).2.1 := by rw [← htr]
    have t6 : x6 = (sTr F0 seed h).2.2 := by rw [← htr]
    rw [← t5, ← t6] at w
    obtain ⟨w1, w2, w3, w4, w5, w6⟩ := id w
    refine sg_289_29 ?_
    simp only [lk ha, lk1 ha, lk2 ha, lk3 ha, lk4 ha, lk5 ha, lk6 ha, lk7 ha, lk8 ha, lk9 ha, lr0 ha, lr1 ha, lr2 ha, lr3 ha, lr4 ha, lr5 ha, lr6 ha, lr7 ha, lr8 ha, pk_ hp, pk1 hp, pk2 hp, pk3 hp, pk4 hp, pk5 hp, pk6 hp, pk7 hp, pr0 hp, pr1 hp, pr2 hp, pr3 hp, pr4 hp, pr5 hp, pr6 hp, show kk 16 = (0, 7) from rfl, show rr 16 2 = 18 from rfl, show kk 18 = (1, 3900) from rfl]
    rw [hj.1 a (by omega) (by omega) (by omega) (by omega), hl.1.2.2.2.1]
    refine ck_i rfl (cd_f (by omega) (ck_i rfl (ck_i rfl (ck_i (jb_i w1 (by omega)) (ck_i rfl (ck_i rfl (ck_i (jb_i w1 (by omega)) (ck_i rfl (ck_i rfl ?_)))))))))
    refine c_208 ha (LR_c hl (fun i hi => ?_) rfl) hv2 w3 w4 (by omega) (fun v ev => ?_)
    · rw [u2_o (by omega), u2_o (by omega), u2_o (by omega)]
      exact hj.1 _ (by omega) (by omega) (by omega) (by omega)
    · rw [u2_s]
      refine ck_i rfl (ck_i rfl (cn_i (fun he => ?_) (fun he => ?_)))
      · rw [ev] at he
        have ce := sEnd_n he
        have tk := sTk_in hv cv w he
        have tb := tk_bit hv cv w he
        have am := AM_mask hv4 hv3 tk.1 tb
        have sb := sp_b (d := 16) (h := h) (p := x5) (n := x6) (Or.inl rfl) w1 (by omega) w3 (by omega) w5 (by omega)
        have t16 : tM 16 = 3900 := rfl
        have hmv := ht h x5 x6 w
        obtain ⟨m, em⟩ : ∃ m, m = sTk (F0 100) (cBs F0) (F0 100 4) h x5 x6 := ⟨_, rfl⟩
        rw [← em] at tk tb am hmv
        refine ck_i rfl (ck_i rfl (c_271 (Or.inl rfl) (by rw [u2_o (by decide), u2_o (by decide), u2_o (by decide), u2_o (by decide), hj.1 16 (by decide) (by decide) (by decide) (by decide)]; exact h16) w3 (by omega) w1 (by omega) w5 (by omega) (fun v2 ev2 => ?_)))
        subst ev2
        have e18 : u2 (u2 (u2 (u2 F 36 ((h : Int)).toNat x5) 37 ((h : Int)).toNat x6) 31 9 (h : Int)) 31 10 v 18 = Fb 18 := by
          rw [u2_o (by decide), u2_o (by decide), u2_o (by decide), u2_o (by decide)]
          exact hj.1 18 (by decide) (by decide) (by decide) (by decide)
        rw [e18, hmv]
        refine ck_i rfl (ck_i (jb_i sb.1 (by omega)) (ck_i rfl (ck_i rfl (ck_i (jb_i w1 (by omega)) ?_))))
        have hS : sTr F0 seed (h + 1) = sJs (F0 100) (F0 100 4) h m (x7, x5, x6) := by rw [htr, em, t5, t6]; rfl
        obtain ⟨M, eM⟩ : ∃ M, M = u2 (u2 (u2 (u2 (u2 F 36 ((h : Int)).toNat x5) 37 ((h : Int)).toNat x6) 31 9 (h : Int)) 31 10 v) 38 ((h : Int)).toNat m := ⟨_, rfl⟩
        rw [← eM]
        have jc : JC Fb M F0 seed (h + 1) := by
          rw [eM, th]
          refine ⟨fun c c1 c2 c3 c4 => ?_, fun i i1 i2 => ?_, fun j hjl => ?_⟩
          · rw [u2_o c4, u2_o c1, u2_o c1, u2_o c3, u2_o c2]
            exact hj.1 c c1 c2 c3 c4
          · rw [u2_o (by decide), u2_n i2, u2_n i1, u2_o (by decide), u2_o (by decide)]
            exact hj.2.1 i i1 i2
          · rw [u2_o (show (36 : Nat) ≠ 38 by decide), u2_o (show (36 : Nat) ≠ 31 by decide), u2_o (show (36 : Nat) ≠ 31 by decide), u2_o (show (36 : Nat) ≠ 37 by decide), u2_o (show (37 : Nat) ≠ 38 by decide), u2_o (show (37 : Nat) ≠ 31 by decide), u2_o (show (37 : Nat) ≠ 31 by decide)]
            by_cases q : j = h
            · rw [q, u2_s, u2_s, u2_s, ← t5, ← t6]
              exact ⟨rfl, rfl, em⟩
            · rw [u2_n q, u2_n q, u2_n q, u2_o (by decide), u2_o (by decide), u2_o (by decide), u2_o (by decide), u2_o (by decide)]
              exact hj.2.2 j (by omega)
        have hlM : LR M G a (F0 100) := LR_c hl (fun i hi => jc.1 _ (by omega) (by omega) (by omega) (by omega)) rfl
        have nxt : ∀ x' p' n' : Int, (x', p', n') = sJs (F0 100) (F0 100 4) h m (x7, x5, x6) → wph 1 289 29 [.inr (.inr (.inl 26)), .inr (.inr (.inl 31)), .inr (.inr (.inl 16)), jk, .inr (.inr (.inl a)), .inl p', .inl n', .inl x', .inl (wr ((h : Int) + 1))] [] (mm S M G) (0, 0) Q := by
          intro x' p' n' en
          rw [wr_id (by omega) (by omega), show (h : Int) + 1 = ((h + 1 : Nat) : Int) by omega]
          refine ih (h + 1) p' n' x' M (by omega) (en.trans hS.symm) (fun j a => ?_) jc
          by_cases q : j = h
          · rw [q, ← t5, ← t6]; exact he
          · exact hgo j (by omega)
        have s1b := sTo1_b hv w3 w4 tk.1 tk.2
        have e13 := hlM.1.2.2.2.2.1
        have go : ∀ x', (0 < m → (0 < sSn (F0 100) (m - 1) h → x' = sDw x7 ∧ ¬ sDn x' < sSn (F0 100) (m - 1) h) ∧ (¬ 0 < sSn (F0 100) (m - 1) h → x' = x7)) → (¬ 0 < m → x' = x7) → calI 0 286 [.inr (.inr (.inl 26)), .inl x5, .inl m] (mm S M G) (fun v3 S3 F3 G3 => chk (kq (0, 0) 0 0) (chk (kq (0, 0) 0 0) (calI 0 207 [.inr (.inr (.inl a)), .inl v3, .inl x6, .inl (F3 a 13)] (mm S3 F3 G3) (fun v4 S4 F4 G4 => wph 1 289 29 [.inr (.inr (.inl 26)), .inr (.inr (.inl 31)), .inr (.inr (.inl 16)), jk, .inr (.inr (.inl a)), .inl v3, .inl v4, .inl x', .inl (wr ((h : Int) + 1))] [] (mm S4 F4 G4) (0, 0) Q) nof))) nof := by
          intro x' h1 h2
          refine c_286 ha hlM k3 hv w3 w4 am ?_
          rw [e13]
          refine ck_i rfl (ck_i rfl (c_207 ha hlM hv2 s1b.1 s1b.2 (by omega) (by omega) (fun v4 e4 => nxt _ _ _ ?_)))
          subst e4
          unfold sJs sTo1
          dsimp only
          by_cases m0 : m = 0
          · rw [if_pos m0, if_neg (by omega), if_neg (by omega), h2 (by omega)]
          · have h1' := h1 (by omega)
            rw [if_neg m0]
            by_cases sn : 0 < sSn (F0 100) (m - 1) h
            · obtain ⟨u1, u2⟩ := h1'.1 sn
              rw [if_pos ⟨by omega, sn⟩, ← u1, if_pos ⟨by omega, fun y => u2 y.2⟩]
            · rw [if_neg (fun y => sn y.2), if_pos ⟨by omega, fun y => sn y.1⟩, h1'.2 sn]
        refine cn_i (fun z => ?_) (fun z => ?_)
        · exact go x7 (fun q => by omega) (fun _ => rfl)
        · rw [wr_id (a := m - 1) (by omega) (by omega)]
          refine ck_i rfl (c_206 ha hlM hv4 (by omega) (by omega) w1 (by omega) (fun v5 e5 => ?_))
          subst e5
          refine cn_i (fun z1 => ?_) (fun z1 => ?_)
          · rw [dn_e]
            refine cn_i (fun z2 => ?_) (fun z2 => ?_)
            · rw [e13]
              refine ck_i rfl (ck_i rfl (c_207 ha hlM hv2 w3 w4 (by omega) (by omega) (fun v4 e4 => nxt _ _ _ ?_)))
              subst e4
              unfold sJs
              dsimp only
              rw [if_pos ⟨by omega, z1⟩]
              have z2' : sDn (sDw x7) < sSn (F0 100) (m - 1) h := z2
              rw [if_neg (fun y => y.2 ⟨z1, z2'⟩)]
              rfl
            · exact go _ (fun _ => ⟨fun _ => ⟨rfl, z2⟩, fun y => absurd z1 y⟩) (fun y => absurd z (by omega))
          · exact go x7 (fun _ => ⟨fun y => absurd y z1, fun _ => rfl⟩) (fun y => rfl)
      · rw [u2_n (by decide), u2_s]
        refine ck_i rfl (hk h _ ⟨⟨by rw [← t5, ← t6, ← ev]; exact he, hgo⟩, ⟨fun c c1 c2 c3 c4 => ?_, fun i i1 i2 => ?_, fun j hjl => ?_⟩, ?_, ?_, ?_, ?_⟩)
        · rw [u2_o c1, u2_o c1, u2_o c3, u2_o c2]
          exact hj.1 c c1 c2 c3 c4
        · rw [u2_n i2, u2_n i1, u2_o (by decide), u2_o (by decide)]
          exact hj.2.1 i i1 i2
        · rw [th, u2_o (by decide), u2_o (by decide), u2_o (by decide), u2_n (by omega), u2_o (by decide), u2_o (by decide), u2_n (by omega), u2_o (by decide), u2_o (by decide), u2_o (by decide), u2_o (by decide)]
          exact hj.2.2 j hjl
        · rw [th, u2_o (by decide), u2_o (by decide), u2_o (by decide), u2_s, t5]
        · rw [th, u2_o (by decide), u2_o (by decide), u2_s, t6]
        · rw [u2_n (by decide), u2_s]
        · rw [u2_s, ev, t5, t6]
