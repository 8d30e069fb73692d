/-! ===== the reference answers: longer turns, rounds ===== -/
/-- who leads, by a way to tell it where nobody was told -/
def cLs (F : FI) (f : Int → Int) : Cf := (fun h => if F 112 (29 + h).toNat = -1 then f h else F 112 (29 + h).toNat, (fun k => F 112 k.toNat, fun h => F 112 (5 + h).toNat, fun _ _ _ _ => 0, -1, -1, 0))
noncomputable def cLw (F : FI) (f : Int → Int) : Cf := ((cLs F f).1, (cBs F).2)
theorem RD_eq {F F' : FI} {G G' : FJ} {c d : Cf} (h : RD F F' G G' c) (h1 : ∀ x, 0 ≤ x → x < F 100 3 → F' 114 x.toNat = d.1 x) (h2 : c.2 = d.2) : RD F F' G G' d := by
  obtain ⟨d1, d2, d3, d4, ⟨e1, e2, e3, e4, e5⟩, d6, d7⟩ := h
  rw [h2] at e2 e3 e4 e5
  exact ⟨d1, d2, d3, d4, ⟨h1, e2, e3, e4, e5⟩, d6, d7⟩
theorem cLw_v {F : FI} {G : FJ} {f : Int → Int} (hm : MV F G) (hf : ∀ h, 0 ≤ h → h < F 100 3 → 0 ≤ f h ∧ f h < F 100 2) : CV (F 100) (F 100 4) (cLw F f) := by
  have hv := hm.1
  obtain ⟨⟨hv1, hv2⟩, ⟨hv3, hv4⟩, ⟨hv5, hv6⟩, ⟨hv7, hv8⟩, ⟨hv9, hv10⟩, ⟨hv11, hv12⟩, ⟨hv13, hv14⟩, hvw, hvs, hvk, hvc, hvx⟩ := id hv
  have cv : CV (F 100) (F 100 4) (cBs F) := sCf_v (w := mL F) (F 100 4) hv hm.2.1
  refine ⟨fun h a b => ?_, cv.2⟩
  have t := hm.2.1.2.2.1 h a (by omega)
  show 0 ≤ (if F 112 (29 + h).toNat = -1 then f h else F 112 (29 + h).toNat) ∧ (if F 112 (29 + h).toNat = -1 then f h else F 112 (29 + h).toNat) < F 100 2
  split
  · exact hf h a b
  · omega
def fLn (F : FI) (n : Int) : Int → Int := fun h => Int.tmod (Int.tdiv h n) (F 100 2)
noncomputable def sLnV (F : FI) (who n : Int) : Int := sTo (F 100) (cLw F (fLn F n)) (F 100 4) who
/-- the best of turns up to so long -/
noncomputable def sLn (F : FI) (who : Int) : Nat → Int
  | 0 => -1
  | n + 1 => if sLn F who n = -1 ∨ sLnV F who (sLn F who n) < sLnV F who ((n : Int) + 1) then (n : Int) + 1 else sLn F who n
theorem sLn_r (F : FI) (who : Int) : ∀ n : Nat, -1 ≤ sLn F who n ∧ sLn F who n ≤ n := by
  intro n
  induction n with
  | zero => exact ⟨Int.le_refl _, by simp [sLn]⟩
  | succ m ih =>
    unfold sLn
    split <;> omega
theorem l_174 {Q : Rs → Mm → Prop} (N : Nat) : ∀ {x1 x2 y3 x5 : Int} {S : FS} {F F1 : FI} {G G1 : FJ} {c : Cf}, N = (13 - x5).toNat → MV F G → -1 ≤ x1 → x1 < F 100 2 → 1 ≤ x5 → x5 ≤ 13 → RD F F1 G G1 c → c.2 = (cBs F).2 → x2 = sLn F x1 (x5 - 1).toNat → (x2 ≠ -1 → y3 = sLnV F x1 x2) →
    (∀ F2 G2 c, RD F F2 G G2 c → c.2 = (cBs F).2 → Q (.inl (some (.inl (sLn F x1 12)))) (mm S F2 G2)) → wph 7 174 35 [.inr (.inr (.inl 97)), .inl x1, .inl x2, .inr (.inl y3), jk, .inl x5] [] (mm S F1 G1) (0, 0) Q := by
  induction N with
  | zero =>
    intro x1 x2 y3 x5 S F F1 G G1 c hN hm h1 h2 h3 h4 hd hc e2 e3 hq
    refine sg_174_35 ?_
    refine cn_i (fun h => ?_) (fun h => by omega)
    rw [e2, show (x5 - 1).toNat = 12 by omega]
    exact hq F1 G1 c hd hc
  | succ N ih =>
    intro x1 x2 y3 x5 S F F1 G G1 c hN hm h1 h2 h3 h4 hd hc e2 e3 hq
    have hv := hm.1
    obtain ⟨⟨hv1, hv2⟩, ⟨hv3, hv4⟩, ⟨hv5, hv6⟩, ⟨hv7, hv8⟩, ⟨hv9, hv10⟩, ⟨hv11, hv12⟩, ⟨hv13, hv14⟩, hvw, hvs, hvk, hvc, hvx⟩ := id hv
    refine sg_174_35 ?_
    refine cn_i (fun h => by omega) (fun h => ?_)
    -- the leaders are told anew, hour by hour
    have inner : ∀ (K : Nat) (x6 : Int) (F1 : FI) (c : Cf), K = (F 100 3 - x6).toNat → 0 ≤ x6 → x6 ≤ F 100 3 → RD F F1 G G1 c → c.2 = (cBs F).2 → (∀ h, 0 ≤ h → h < x6 → F1 114 h.toNat = (cLw F (fLn F x5)).1 h) →
        wph 7 174 45 [.inr (.inr (.inl 97)), .inl x1, .inl x2, .inr (.inl y3), jk, .inl x5, .inl x6] [] (mm S F1 G1) (0, 0) Q := by
      intro K
      induction K with
      | zero =>
        intro x6 F1 c hK a1 a2 hd hc hl
        refine sg_174_45 ?_
        rw [hd.1.1 100 kp100]
        refine cn_i (fun h => by omega) (fun h => ?_)
        have hd' : RD F F1 G G1 (cLw F (fLn F x5)) := RD_eq hd (fun x a b => hl x a (by omega)) hc
        have cv := cLw_v (f := fLn F x5) hm (fun h a b => by
          have d := div_b (d := x5) a (by omega)
          exact mod_b d.1 hv5)
        refine c_play hm hd' cv (fun F2 G2 hd2 ht2 _ _ => ?_)
        refine c_148 hv (by omega) (by omega) cv (TN_of hd2 ht2) h1 h2 (fun v e => ?_)
        have e' : v = sLnV F x1 x5 := e
        have en : (x5 + 1 - 1).toNat = (x5 - 1).toNat + 1 := by omega
        have st : sLn F x1 (x5 + 1 - 1).toNat = if x2 = -1 ∨ sLnV F x1 x2 < sLnV F x1 x5 then x5 else x2 := by
          rw [en, e2]
          show (if _ then ((((x5 - 1).toNat : Nat) : Int) + 1) else _) = _
          rw [show (((x5 - 1).toNat : Nat) : Int) + 1 = x5 by omega]
        rw [wr_id (by omega) (by omega)]
        refine cn_i (fun q => ?_) (fun q => ?_)
        · exact ih (by omega) hm h1 h2 (by omega) (by omega) hd2 rfl (by rw [st, if_pos (Or.inl q)]) (fun _ => e') hq
        · rw [e3 q]
          refine cn_i (fun g => ?_) (fun g => ?_)
          · rw [lc_p, e'] at g
            exact ih (by omega) hm h1 h2 (by omega) (by omega) hd2 rfl (by rw [st, if_pos (Or.inr g)]) (fun _ => e') hq
          · rw [lc_p, e'] at g
            exact ih (by omega) hm h1 h2 (by omega) (by omega) hd2 rfl (by rw [st, if_neg (fun r => r.elim q g)]) (fun _ => rfl) hq
      | succ K ihK =>
        intro x6 F1 c hK a1 a2 hd hc hl
        refine sg_174_45 ?_
        rw [hd.1.1 100 kp100, hd.1.1 112 kp112]
        refine cn_i (fun h => ?_) (fun h => by omega)
        have nxt : ∀ v, v = (cLw F (fLn F x5)).1 x6 → wph 7 174 45 [.inr (.inr (.inl 97)), .inl x1, .inl x2, .inr (.inl y3), jk, .inl x5, .inl (x6 + 1)] [] (mm S (u2 F1 114 x6.toNat v) G1) (0, 0) Q := by
          intro v ev
          refine ihK (x6 + 1) _ (cLed c x6 v) (by omega) (by omega) (by omega) (RD_led hd a1) hc (fun h a b => ?_)
          rw [u2_k]
          by_cases q : h = x6
          · rw [q, if_pos rfl, ev]
          · rw [if_neg (by omega)]
            exact hl h a (by omega)
        have d := div_b (d := x5) a1 (by omega)
        try simp (disch := omega) only [wr_id]
        refine ck_i (by (first | exact jb_i (by (first | assumption | omega | (simp (disch := omega) only [wr_id]; omega))) (by (first | assumption | omega | (simp (disch := omega) only [wr_id]; omega))) | exact jo_i (by omega) | exact jz_i (by omega) | rfl | (simp only [*]; first | rfl | exact jb_i (by (first | assumption | omega | (simp (disch := omega) only [wr_id]; omega))) (by (first | assumption | omega | (simp (disch := omega) only [wr_id]; omega)))))) (cn_i (fun g => ?_) (fun g => ?_))
        · refine ck_i (jz_i (by omega)) (ck_i (jz_i (by omega)) (ck_i (by (first | exact jb_i (by (first | assumption | omega | (simp (disch := omega) only [wr_id]; omega))) (by (first | assumption | omega | (simp (disch := omega) only [wr_id]; omega))) | exact jo_i (by omega) | exact jz_i (by omega) | rfl | (simp only [*]; first | rfl | exact jb_i (by (first | assumption | omega | (simp (disch := omega) only [wr_id]; omega))) (by (first | assumption | omega | (simp (disch := omega) only [wr_id]; omega)))))) (nxt _ ?_)))
          show _ = if F 112 (29 + x6).toNat = -1 then _ else _
          rw [if_pos g]
          rfl
        · refine ck_i (by (first | exact jb_i (by (first | assumption | omega | (simp (disch := omega) only [wr_id]; omega))) (by (first | assumption | omega | (simp (disch := omega) only [wr_id]; omega))) | exact jo_i (by omega) | exact jz_i (by omega) | rfl | (simp only [*]; first | rfl | exact jb_i (by (first | assumption | omega | (simp (disch := omega) only [wr_id]; omega))) (by (first | assumption | omega | (simp (disch := omega) only [wr_id]; omega)))))) (ck_i (by (first | exact jb_i (by (first | assumption | omega | (simp (disch := omega) only [wr_id]; omega))) (by (first | assumption | omega | (simp (disch := omega) only [wr_id]; omega))) | exact jo_i (by omega) | exact jz_i (by omega) | rfl | (simp only [*]; first | rfl | exact jb_i (by (first | assumption | omega | (simp (disch := omega) only [wr_id]; omega))) (by (first | assumption | omega | (simp (disch := omega) only [wr_id]; omega)))))) (nxt _ ?_))
          show _ = if F 112 (29 + x6).toNat = -1 then _ else _
          rw [if_neg g]
    exact inner _ 0 F1 c rfl (by omega) (by omega) hd hc (fun h a b => by omega)
theorem q_174 {k : Int → FS → FI → FJ → Prop} {x1 : Int} {S : FS} {F : FI} {G : FJ} (hM : F 97 12 ≠ 0 → MV F G) (noL : F 97 12 = 0 → k 0 S (rfs (zF F) 2 3) G) (noP : F 97 12 ≠ 0 → ¬ (-1 ≤ x1 ∧ x1 < F 100 2) → k 0 S (rfs (zF F) 1 0) G)
    (ok : F 97 12 ≠ 0 → -1 ≤ x1 ∧ x1 < F 100 2 → ∀ F' G', QP F F' G G' → k (sLn (zF F) x1 12) S F' G') : calI 7 174 [.inr (.inr (.inl 97)), .inl x1] (mm S F G) k nof := by
  refine sg_174_0 ?_
  rw [show u2 F 97 0 0 = zF F from rfl]
  refine c_109 z_0 (by decide) (fun hl => cn_1 ?_) (fun hl => cn_0 ⟨_, _, _, rfl, noL (here_z hl)⟩)
  have hl := here_n hl
  have hm := hM hl
  have hv := hm.1
  have hz := MV_z hm
  obtain ⟨⟨hv1, hv2⟩, ⟨hv3, hv4⟩, ⟨hv5, hv6⟩, ⟨hv7, hv8⟩, ⟨hv9, hv10⟩, ⟨hv11, hv12⟩, ⟨hv13, hv14⟩, hvw, hvs, hvk, hvc, hvx⟩ := id hv
  have e0 : zF F 100 = F 100 := z_n (by decide)
  refine c_111 z_0 (by decide) (by rw [e0]; omega) (by rw [e0]; omega) (fun p1 p2 => cn_1 ?_) (fun q => cn_0 ⟨_, _, _, rfl, noP hl (by rw [e0] at q; exact q)⟩)
  refine c_143 hz (fun F1 G1 hd => ?_)
  refine l_174 (F := zF F) _ rfl hz p1 p2 (by omega) (by omega) hd rfl rfl (fun q => absurd rfl q) (fun F2 G2 c hd2 hc => ⟨_, _, _, rfl, ?_⟩)
  rw [e0] at p2
  exact ok hl ⟨p1, p2⟩ F2 G2 (QP_d hd2 (by rw [hc]; rfl))
