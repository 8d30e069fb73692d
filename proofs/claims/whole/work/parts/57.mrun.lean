/-! ===== the reference answers: journeys ===== -/
def sDw (x : Int) : Int := wr (wr (x * 1103515245) + 12345)
def sDn (x : Int) : Int := Int.tmod (an (sar x 16) 32767) 16
/-- an hour of a journey: what was drawn, the place, the stores -/
def sJs (l : Nat → Int) (st h m : Int) (q : Int × Int × Int) : Int × Int × Int :=
  let x := if 0 < m ∧ 0 < sSn l (m - 1) h then sDw q.1 else q.1
  let p := if 0 < m ∧ ¬ (0 < sSn l (m - 1) h ∧ sDn x < sSn l (m - 1) h) then sOth l (m - 1) q.2.1 else q.2.1
  (x, p, sAf l st p q.2.2)
noncomputable def sTr (F : FI) (seed : Int) : Nat → Int × Int × Int
  | 0 => (seed, F 100 6, F 100 4)
  | h + 1 => sJs (F 100) (F 100 4) h (sTk (F 100) (cBs F) (F 100 4) h (sTr F seed h).2.1 (sTr F seed h).2.2) (sTr F seed h)
/-- it is so long -/
def JL (F : FI) (seed : Int) (L : Nat) : Prop := sEnd (F 100) L (sTr F seed L).2.1 (sTr F seed L).2.2 ≠ 0 ∧ ∀ j, j < L → sEnd (F 100) j (sTr F seed j).2.1 (sTr F seed j).2.2 = 0
/-- the journey up to an hour, as it is kept -/
def JK (F : FI) (seed : Int) (s s0 : Nat → Int) (h : Nat) : Prop := s 79 = 1 ∧ (∀ j : Nat, j ≤ h → s (82 + j) = (sTr F seed j).2.1 ∧ s (107 + j) = (sTr F seed j).2.2) ∧ (∀ j : Nat, j < h → s (132 + j) = sTk (F 100) (cBs F) (F 100 4) j (sTr F seed j).2.1 (sTr F seed j).2.2) ∧ (∀ i, i < 79 → s i = s0 i)
theorem sTr_v {F : FI} {G : FJ} (hm : MV F G) (seed : Int) : ∀ h : Nat, (h : Int) ≤ F 100 3 → (∀ j, j < h → sEnd (F 100) j (sTr F seed j).2.1 (sTr F seed j).2.2 = 0) → vs (F 100) (F 100 4) h (sTr F seed h).2.1 (sTr F seed h).2.2 := by
  have hv := hm.1
  obtain ⟨⟨hv1, hv2⟩, ⟨hv3, hv4⟩, ⟨hv5, hv6⟩, ⟨hv7, hv8⟩, ⟨hv9, hv10⟩, ⟨hv11, hv12⟩, ⟨hv13, hv14⟩, hvw, hvs, hvk, hvc, hvx⟩ := id hv
  have cv : CV (F 100) (F 100 4) (cBs F) := sCf_v (w := mL F) (F 100 4) hv hm.2.1
  intro h
  induction h with
  | zero => intro _ _; exact ⟨by omega, by omega, hv13, hv14, by show 0 ≤ F 100 4; omega, Int.le_refl _⟩
  | succ h ih =>
    intro h1 h2
    have w := ih (by omega) (fun j hj => h2 j (by omega))
    have he := h2 h (by omega)
    have ce := sEnd_n he
    have tk := sTk_in hv cv w he
    unfold vs at w
    have pb : ∀ p, p = (sTr F seed (h + 1)).2.1 → 0 ≤ p ∧ p < F 100 0 := by
      intro p e
      rw [e]
      rw [show (sTr F seed (h + 1)).2.1 = (sJs (F 100) (F 100 4) h (sTk (F 100) (cBs F) (F 100 4) h (sTr F seed h).2.1 (sTr F seed h).2.2) (sTr F seed h)).2.1 from rfl]
      obtain ⟨m, em⟩ : ∃ m, m = sTk (F 100) (cBs F) (F 100 4) h (sTr F seed h).2.1 (sTr F seed h).2.2 := ⟨_, rfl⟩
      rw [← em] at tk ⊢
      unfold sJs
      simp only
      have gen : ∀ c : Prop, ∀ _ : Decidable c, (c → 0 < m) → 0 ≤ (if c then sOth (F 100) (m - 1) (sTr F seed h).2.1 else (sTr F seed h).2.1) ∧ (if c then sOth (F 100) (m - 1) (sTr F seed h).2.1 else (sTr F seed h).2.1) < F 100 0 := by
        intro c dc q
        split
        · rename_i qc
          have := q qc
          exact sOth_b hv (by omega) (by omega)
        · omega
      exact gen _ _ (fun q => q.1)
    have p1 := pb _ rfl
    have ab := sAf_b (l := F 100) (q := (sTr F seed (h + 1)).2.1) (st := F 100 4) (n := (sTr F seed h).2.2) (by omega) (by omega) (by omega) w.2.2.2.2.2
    exact ⟨by omega, by omega, p1.1, p1.2, ab.1, ab.2⟩
set_option maxRecDepth 100000 in
theorem l_156_63 {Q : Rs → Mm → Prop} {seed x2 x3 x4 : Int} {S : FS} {F Fb : FI} {G G1 : FJ} (hm : MV F G) (hd : RD F Fb G G1 (cBs F)) (ht : TB (F 100) (cBs F) (F 100 4) Fb G1) : ∀ (K h : Nat) (x2 x3 x4 : Int) (F1 : FI), (K : Int) = F 100 3 - h → (x2, x3, x4) = sTr F seed h → (∀ j, j < h → sEnd (F 100) j (sTr F seed j).2.1 (sTr F seed j).2.2 = 0) → (∀ a, a ≠ 112 → F1 a = Fb a) → JK F seed (F1 112) (F 112) h →
    (∀ (L : Nat) (F2 : FI), JL F seed L → (∀ a, a ≠ 112 → F2 a = Fb a) → JK F seed (F2 112) (F 112) L → F2 112 80 = (L : Int) → F2 112 81 = Int.tmod (sEnd (F 100) L (sTr F seed L).2.1 (sTr F seed L).2.2) 3 → Q (.inl (some (.inl (L : Int)))) (mm S F2 G1)) →
    wph 8 156 63 [.inr (.inr (.inl 97)), jk, .inl x2, .inl x3, .inl x4, .inl (h : Int)] [] (mm S F1 G1) (0, 0) Q := by
  have hv := hm.1
  obtain ⟨⟨hv1, hv2⟩, ⟨hv3, hv4⟩, ⟨hv5, hv6⟩, ⟨hv7, hv8⟩, ⟨hv9, hv10⟩, ⟨hv11, hv12⟩, ⟨hv13, hv14⟩, hvw, hvs, hvk, hvc, hvx⟩ := id hv
  have cv : CV (F 100) (F 100 4) (cBs F) := sCf_v (w := mL F) (F 100 4) hv hm.2.1
  have b100 := hd.1.1 100 kp100
  have b31 := hd.2.2.2.1
  intro K
  induction K with
  | zero =>
    intro h x2 x3 x4 F1 hK htr hgo hF hj hq
    have e100 := (hF 100 (by decide)).trans b100
    have w := sTr_v hm seed h (by omega) hgo
    have t3 : x3 = (sTr F seed h).2.1 := by rw [← htr]
    have t4 : x4 = (sTr F seed h).2.2 := by rw [← htr]
    rw [← t3, ← t4] at w
    have w' := w
    unfold vs at w'
    have hne : sEnd (F 100) h x3 x4 ≠ 0 := by
      rw [show (h : Int) = F 100 3 by omega]
      exact sEnd_l _ _ _
    refine sg_156_63 ?_
    refine c_124 (by omega) (by omega) (fun v e => ?_)
    rw [e100] at e
    refine cn_i (fun g => absurd (e.symm.trans g) hne) (fun g => ?_)
    refine c_124 (by omega) (by omega) (fun v5 e5 => ?_)
    rw [u2_o (by decide), e100] at e5
    refine hq h _ ⟨by rw [← t3, ← t4]; exact hne, hgo⟩ (fun a ha => by rw [u2_o ha, u2_o ha]; exact hF a ha) ?_ ?_ ?_
    · obtain ⟨j1, j2, j3, j4⟩ := hj
      refine ⟨?_, fun j a => ?_, fun j a => ?_, fun i a => ?_⟩
      · rw [u2_n (by decide), u2_n (by decide)]; exact j1
      · rw [u2_n (by omega), u2_n (by omega), u2_n (by omega), u2_n (by omega)]; exact j2 j a
      · rw [u2_n (by omega), u2_n (by omega)]; exact j3 j a
      · rw [u2_n (by omega), u2_n (by omega)]; exact j4 i a
    · rw [u2_n (by decide), u2_s]
    · rw [u2_s, e5, t3, t4]
  | succ K ih =>
    intro h x2 x3 x4 F1 hK htr hgo hF hj hq
    have e100 := (hF 100 (by decide)).trans b100
    have e31 : F1 97 31 = F 100 4 := by rw [hF 97 (by decide)]; exact b31
    have e117 := hF 117 (by decide)
    have w := sTr_v hm seed h (by omega) hgo
    have t2 : x2 = (sTr F seed h).1 := by rw [← htr]
    have t3 : x3 = (sTr F seed h).2.1 := by rw [← htr]
    have t4 : x4 = (sTr F seed h).2.2 := by rw [← htr]
    rw [← t3, ← t4] at w
    have w' := w
    unfold vs at w'
    refine sg_156_63 ?_
    refine c_124 (by omega) (by omega) (fun v e => ?_)
    rw [e100] at e
    refine cn_i (fun g => ?_) (fun g => ?_)
    · have he : sEnd (F 100) h x3 x4 = 0 := by omega
      have ce := sEnd_n he
      have tk := sTk_in hv cv w he
      have tt : F1 117 (((h : Int) * 12 + x3) * 13 + x4).toNat = sTk (F 100) (cBs F) (F 100 4) h x3 x4 := by rw [e117]; exact ht.1 h x3 x4 w
      obtain ⟨m, em⟩ : ∃ m, m = sTk (F 100) (cBs F) (F 100 4) h x3 x4 := ⟨_, rfl⟩
      rw [← em] at tk tt
      have hS : sTr F seed (h + 1) = sJs (F 100) (F 100 4) h m (x2, x3, x4) := by rw [htr, em, t3, t4]; rfl
      have nxt : ∀ x' p' n' : Int, (x', p', n') = sJs (F 100) (F 100 4) h m (x2, x3, x4) → wph 8 156 63 [.inr (.inr (.inl 97)), jk, .inl x', .inl p', .inl n', .inl ((h : Int) + 1)] [] (mm S (u2 (u2 (u2 F1 112 (132 + (h : Int)).toNat m) 112 (82 + ((h : Int) + 1)).toNat p') 112 (107 + ((h : Int) + 1)).toNat n') G1) (0, 0) Q := by
        intro x' p' n' en
        have hc : ((h : Int) + 1) = ((h + 1 : Nat) : Int) := by omega
        rw [hc]
        refine ih (h + 1) x' p' n' _ (by omega) (en.trans hS.symm) (fun j a => ?_) (fun a ha => by rw [u2_o ha, u2_o ha, u2_o ha]; exact hF a ha) ?_ hq
        · by_cases q : j = h
          · rw [q, ← t3, ← t4]; exact he
          · exact hgo j (by omega)
        · obtain ⟨j1, j2, j3, j4⟩ := hj
          refine ⟨?_, fun j a => ?_, fun j a => ?_, fun i a => ?_⟩
          · rw [u2_n (by omega), u2_n (by omega), u2_n (by omega)]; exact j1
          · by_cases q : j = h + 1
            · rw [q, hS, ← en]
              constructor
              · rw [u2_n (by omega), u2_k, if_pos (by omega)]
              · rw [u2_k, if_pos (by omega)]
            · rw [u2_n (by omega), u2_n (by omega), u2_n (by omega), u2_n (by omega), u2_n (by omega), u2_n (by omega)]
              exact j2 j (by omega)
          · by_cases q : j = h
            · rw [u2_n (by omega), u2_n (by omega), u2_k, if_pos (by omega), q, em, t3, t4]
            · rw [u2_n (by omega), u2_n (by omega), u2_n (by omega)]
              exact j3 j (by omega)
          · rw [u2_n (by omega), u2_n (by omega), u2_n (by omega)]; exact j4 i a
      refine c_123 (by omega) (by omega) (by omega) (by omega) (by omega) (by omega) (fun _ e => ?_)
      subst e
      rw [tt, e100, e31]
      try simp (disch := omega) only [wr_id]
      refine ck_i (by (first | exact jb_i (by (first | assumption | omega | (simp (disch := omega) only [wr_id]; omega))) (by (first | assumption | omega | (simp (disch := omega) only [wr_id]; omega))) | exact jo_i (by omega) | exact jz_i (by omega) | rfl | (simp only [*]; first | rfl | exact jb_i (by (first | assumption | omega | (simp (disch := omega) only [wr_id]; omega))) (by (first | assumption | omega | (simp (disch := omega) only [wr_id]; omega)))))) (ck_i (by (first | exact jb_i (by (first | assumption | omega | (simp (disch := omega) only [wr_id]; omega))) (by (first | assumption | omega | (simp (disch := omega) only [wr_id]; omega))) | exact jo_i (by omega) | exact jz_i (by omega) | rfl | (simp only [*]; first | rfl | exact jb_i (by (first | assumption | omega | (simp (disch := omega) only [wr_id]; omega))) (by (first | assumption | omega | (simp (disch := omega) only [wr_id]; omega)))))) (cn_i (fun g1 => ?_) (fun g1 => ?_)))
      · have ob := sOth_b (p := x3) (w := m - 1) hv (by omega) (by omega)
        have hN := hvs (m - 1) h (by omega) (by omega) (by omega) (by omega)
        have fin : ∀ (x' p' : Int), x' = (if 0 < m ∧ 0 < sSn (F 100) (m - 1) h then sDw x2 else x2) → p' = (if 0 < m ∧ ¬ (0 < sSn (F 100) (m - 1) h ∧ sDn x' < sSn (F 100) (m - 1) h) then sOth (F 100) (m - 1) x3 else x3) → ∀ n', n' = sAf (F 100) (F 100 4) p' x4 → (x', p', n') = sJs (F 100) (F 100 4) h m (x2, x3, x4) := by
          intro x' p' a b n' c
          unfold sJs
          simp only
          rw [← a, ← b, ← c]
        have away : ∀ x', x' = (if 0 < m ∧ 0 < sSn (F 100) (m - 1) h then sDw x2 else x2) → ¬ (0 < sSn (F 100) (m - 1) h ∧ sDn x' < sSn (F 100) (m - 1) h) → calI 0 125 [.inr (.inr (.inl 97)), .inl (m - 1), .inl x3] (mm S (u2 F1 112 (132 + (h : Int)).toNat m) G1) (fun v3 S3 F3 G3 => chk (ib (wr (7 + v3)) 708) (cnd (decide ((F3 100 (((wr (7 + v3))).toNat)) = 1)) (chk (ib (82 + ((h : Int) + 1)) 156) (chk (ib (107 + ((h : Int) + 1)) 156) (wph 8 156 63 [.inr (.inr (.inl 97)), jk, .inl x', .inl v3, .inl (F3 97 31), .inl ((h : Int) + 1)] [] (mm S3 (u2 (u2 F3 112 (82 + ((h : Int) + 1)).toNat v3) 112 (107 + ((h : Int) + 1)).toNat (F3 97 31)) G3) (0, 0) Q))) (chk (ib (82 + ((h : Int) + 1)) 156) (chk (ib (107 + ((h : Int) + 1)) 156) (wph 8 156 63 [.inr (.inr (.inl 97)), jk, .inl x', .inl v3, .inl (x4 - 1), .inl ((h : Int) + 1)] [] (mm S3 (u2 (u2 F3 112 (82 + ((h : Int) + 1)).toNat v3) 112 (107 + ((h : Int) + 1)).toNat (x4 - 1)) G3) (0, 0) Q))))) nof := by
          intro x' ex hn
          refine c_125 (by omega) (by omega) (fun v3 e3 => ?_)
          rw [u2_o (by decide), e100] at e3
          rw [u2_o (by decide), u2_o (by decide), e100, e31]
          have ep : v3 = (if 0 < m ∧ ¬ (0 < sSn (F 100) (m - 1) h ∧ sDn x' < sSn (F 100) (m - 1) h) then sOth (F 100) (m - 1) x3 else x3) := by rw [if_pos ⟨g1, hn⟩]; exact e3
          try simp (disch := omega) only [wr_id]
          refine ck_i (by (first | exact jb_i (by (first | assumption | omega | (simp (disch := omega) only [wr_id]; omega))) (by (first | assumption | omega | (simp (disch := omega) only [wr_id]; omega))) | exact jo_i (by omega) | exact jz_i (by omega) | rfl | (simp only [*]; first | rfl | exact jb_i (by (first | assumption | omega | (simp (disch := omega) only [wr_id]; omega))) (by (first | assumption | omega | (simp (disch := omega) only [wr_id]; omega)))))) (cn_i (fun z => ?_) (fun z => ?_))
          · exact ck_i (by (first | exact jb_i (by (first | assumption | omega | (simp (disch := omega) only [wr_id]; omega))) (by (first | assumption | omega | (simp (disch := omega) only [wr_id]; omega))) | exact jo_i (by omega) | exact jz_i (by omega) | rfl | (simp only [*]; first | rfl | exact jb_i (by (first | assumption | omega | (simp (disch := omega) only [wr_id]; omega))) (by (first | assumption | omega | (simp (disch := omega) only [wr_id]; omega)))))) (ck_i (by (first | exact jb_i (by (first | assumption | omega | (simp (disch := omega) only [wr_id]; omega))) (by (first | assumption | omega | (simp (disch := omega) only [wr_id]; omega))) | exact jo_i (by omega) | exact jz_i (by omega) | rfl | (simp only [*]; first | rfl | exact jb_i (by (first | assumption | omega | (simp (disch := omega) only [wr_id]; omega))) (by (first | assumption | omega | (simp (disch := omega) only [wr_id]; omega)))))) (nxt x' v3 _ (fin x' v3 ex ep _ (by unfold sAf; rw [if_pos z]))))
          · exact ck_i (by (first | exact jb_i (by (first | assumption | omega | (simp (disch := omega) only [wr_id]; omega))) (by (first | assumption | omega | (simp (disch := omega) only [wr_id]; omega))) | exact jo_i (by omega) | exact jz_i (by omega) | rfl | (simp only [*]; first | rfl | exact jb_i (by (first | assumption | omega | (simp (disch := omega) only [wr_id]; omega))) (by (first | assumption | omega | (simp (disch := omega) only [wr_id]; omega)))))) (ck_i (by (first | exact jb_i (by (first | assumption | omega | (simp (disch := omega) only [wr_id]; omega))) (by (first | assumption | omega | (simp (disch := omega) only [wr_id]; omega))) | exact jo_i (by omega) | exact jz_i (by omega) | rfl | (simp only [*]; first | rfl | exact jb_i (by (first | assumption | omega | (simp (disch := omega) only [wr_id]; omega))) (by (first | assumption | omega | (simp (disch := omega) only [wr_id]; omega)))))) (nxt x' v3 _ (fin x' v3 ex ep _ (by unfold sAf; rw [if_neg z]))))
        refine ck_i (by (first | exact jb_i (by (first | assumption | omega | (simp (disch := omega) only [wr_id]; omega))) (by (first | assumption | omega | (simp (disch := omega) only [wr_id]; omega))) | exact jo_i (by omega) | exact jz_i (by omega) | rfl | (simp only [*]; first | rfl | exact jb_i (by (first | assumption | omega | (simp (disch := omega) only [wr_id]; omega))) (by (first | assumption | omega | (simp (disch := omega) only [wr_id]; omega)))))) (cn_i (fun g2 => ?_) (fun g2 => ?_))
        · have g2' : 0 < sSn (F 100) (m - 1) h := g2
          have ex : sDw x2 = (if 0 < m ∧ 0 < sSn (F 100) (m - 1) h then sDw x2 else x2) := (if_pos ⟨g1, g2'⟩).symm
          refine cn_i (fun g3 => ?_) (fun g3 => ?_)
          · have g3' : sDn (sDw x2) < sSn (F 100) (m - 1) h := g3
            have ep : x3 = (if 0 < m ∧ ¬ (0 < sSn (F 100) (m - 1) h ∧ sDn (sDw x2) < sSn (F 100) (m - 1) h) then sOth (F 100) (m - 1) x3 else x3) := by rw [if_neg (fun r => r.2 ⟨g2', g3'⟩)]
            refine ck_i (by (first | exact jb_i (by (first | assumption | omega | (simp (disch := omega) only [wr_id]; omega))) (by (first | assumption | omega | (simp (disch := omega) only [wr_id]; omega))) | exact jo_i (by omega) | exact jz_i (by omega) | rfl | (simp only [*]; first | rfl | exact jb_i (by (first | assumption | omega | (simp (disch := omega) only [wr_id]; omega))) (by (first | assumption | omega | (simp (disch := omega) only [wr_id]; omega)))))) (cn_i (fun z => ?_) (fun z => ?_))
            · exact ck_i (by (first | exact jb_i (by (first | assumption | omega | (simp (disch := omega) only [wr_id]; omega))) (by (first | assumption | omega | (simp (disch := omega) only [wr_id]; omega))) | exact jo_i (by omega) | exact jz_i (by omega) | rfl | (simp only [*]; first | rfl | exact jb_i (by (first | assumption | omega | (simp (disch := omega) only [wr_id]; omega))) (by (first | assumption | omega | (simp (disch := omega) only [wr_id]; omega)))))) (ck_i (by (first | exact jb_i (by (first | assumption | omega | (simp (disch := omega) only [wr_id]; omega))) (by (first | assumption | omega | (simp (disch := omega) only [wr_id]; omega))) | exact jo_i (by omega) | exact jz_i (by omega) | rfl | (simp only [*]; first | rfl | exact jb_i (by (first | assumption | omega | (simp (disch := omega) only [wr_id]; omega))) (by (first | assumption | omega | (simp (disch := omega) only [wr_id]; omega)))))) (nxt (sDw x2) x3 _ (fin _ x3 ex ep _ (by unfold sAf; rw [if_pos z]))))
            · exact ck_i (by (first | exact jb_i (by (first | assumption | omega | (simp (disch := omega) only [wr_id]; omega))) (by (first | assumption | omega | (simp (disch := omega) only [wr_id]; omega))) | exact jo_i (by omega) | exact jz_i (by omega) | rfl | (simp only [*]; first | rfl | exact jb_i (by (first | assumption | omega | (simp (disch := omega) only [wr_id]; omega))) (by (first | assumption | omega | (simp (disch := omega) only [wr_id]; omega)))))) (ck_i (by (first | exact jb_i (by (first | assumption | omega | (simp (disch := omega) only [wr_id]; omega))) (by (first | assumption | omega | (simp (disch := omega) only [wr_id]; omega))) | exact jo_i (by omega) | exact jz_i (by omega) | rfl | (simp only [*]; first | rfl | exact jb_i (by (first | assumption | omega | (simp (disch := omega) only [wr_id]; omega))) (by (first | assumption | omega | (simp (disch := omega) only [wr_id]; omega)))))) (nxt (sDw x2) x3 _ (fin _ x3 ex ep _ (by unfold sAf; rw [if_neg z]))))
          · exact away (sDw x2) ex (fun r => g3 r.2)
        · have g2' : ¬ 0 < sSn (F 100) (m - 1) h := g2
          exact away x2 (if_neg (fun r => g2' r.2)).symm (fun r => g2' r.1)
      · have fin : ∀ n', n' = sAf (F 100) (F 100 4) x3 x4 → (x2, x3, n') = sJs (F 100) (F 100 4) h m (x2, x3, x4) := by
          intro n' c
          unfold sJs
          simp only [g1, false_and, if_false]
          rw [← c]
        refine ck_i (by (first | exact jb_i (by (first | assumption | omega | (simp (disch := omega) only [wr_id]; omega))) (by (first | assumption | omega | (simp (disch := omega) only [wr_id]; omega))) | exact jo_i (by omega) | exact jz_i (by omega) | rfl | (simp only [*]; first | rfl | exact jb_i (by (first | assumption | omega | (simp (disch := omega) only [wr_id]; omega))) (by (first | assumption | omega | (simp (disch := omega) only [wr_id]; omega)))))) (cn_i (fun z => ?_) (fun z => ?_))
        · exact ck_i (by (first | exact jb_i (by (first | assumption | omega | (simp (disch := omega) only [wr_id]; omega))) (by (first | assumption | omega | (simp (disch := omega) only [wr_id]; omega))) | exact jo_i (by omega) | exact jz_i (by omega) | rfl | (simp only [*]; first | rfl | exact jb_i (by (first | assumption | omega | (simp (disch := omega) only [wr_id]; omega))) (by (first | assumption | omega | (simp (disch := omega) only [wr_id]; omega)))))) (ck_i (by (first | exact jb_i (by (first | assumption | omega | (simp (disch := omega) only [wr_id]; omega))) (by (first | assumption | omega | (simp (disch := omega) only [wr_id]; omega))) | exact jo_i (by omega) | exact jz_i (by omega) | rfl | (simp only [*]; first | rfl | exact jb_i (by (first | assumption | omega | (simp (disch := omega) only [wr_id]; omega))) (by (first | assumption | omega | (simp (disch := omega) only [wr_id]; omega)))))) (nxt x2 x3 _ (fin _ (by unfold sAf; rw [if_pos z]))))
        · exact ck_i (by (first | exact jb_i (by (first | assumption | omega | (simp (disch := omega) only [wr_id]; omega))) (by (first | assumption | omega | (simp (disch := omega) only [wr_id]; omega))) | exact jo_i (by omega) | exact jz_i (by omega) | rfl | (simp only [*]; first | rfl | exact jb_i (by (first | assumption | omega | (simp (disch := omega) only [wr_id]; omega))) (by (first | assumption | omega | (simp (disch := omega) only [wr_id]; omega)))))) (ck_i (by (first | exact jb_i (by (first | assumption | omega | (simp (disch := omega) only [wr_id]; omega))) (by (first | assumption | omega | (simp (disch := omega) only [wr_id]; omega))) | exact jo_i (by omega) | exact jz_i (by omega) | rfl | (simp only [*]; first | rfl | exact jb_i (by (first | assumption | omega | (simp (disch := omega) only [wr_id]; omega))) (by (first | assumption | omega | (simp (disch := omega) only [wr_id]; omega)))))) (nxt x2 x3 _ (fin _ (by unfold sAf; rw [if_neg z]))))
    · have hne : sEnd (F 100) h x3 x4 ≠ 0 := fun q => g (e.trans q)
      refine c_124 (by omega) (by omega) (fun v5 e5 => ?_)
      rw [u2_o (by decide), e100] at e5
      refine hq h _ ⟨by rw [← t3, ← t4]; exact hne, hgo⟩ (fun a ha => by rw [u2_o ha, u2_o ha]; exact hF a ha) ?_ ?_ ?_
      · obtain ⟨j1, j2, j3, j4⟩ := hj
        refine ⟨?_, fun j a => ?_, fun j a => ?_, fun i a => ?_⟩
        · rw [u2_n (by decide), u2_n (by decide)]; exact j1
        · rw [u2_n (by omega), u2_n (by omega), u2_n (by omega), u2_n (by omega)]; exact j2 j a
        · rw [u2_n (by omega), u2_n (by omega)]; exact j3 j a
        · rw [u2_n (by omega), u2_n (by omega)]; exact j4 i a
      · rw [u2_n (by decide), u2_s]
      · rw [u2_s, e5, t3, t4]
/-- a journey leaves it so -/
def QJ (F F' : FI) (G G' : FJ) (seed : Int) (L : Nat) : Prop := (∃ Fb, PM (zF F) Fb G G' ∧ ∀ a, a ≠ 112 → F' a = Fb a) ∧ KNO F' G' ∧ GB G' ∧ JL (zF F) seed L ∧ JK (zF F) seed (F' 112) (F 112) L ∧ F' 112 80 = (L : Int) ∧ F' 112 81 = Int.tmod (sEnd (F 100) L (sTr (zF F) seed L).2.1 (sTr (zF F) seed L).2.2) 3
set_option maxRecDepth 100000 in
theorem q_156 {k : Int → FS → FI → FJ → Prop} {x1 : Int} {S : FS} {F : FI} {G : FJ} (hM : F 97 12 ≠ 0 → MV F G) (noL : F 97 12 = 0 → k 0 S (rfs (zF F) 1 3) G) (ok : F 97 12 ≠ 0 → ∀ F' G' (L : Nat), QJ F F' G G' x1 L → k (L : Int) S F' G') : calI 8 156 [.inr (.inr (.inl 97)), .inl x1] (mm S F G) k nof := by
  refine sg_156_0 ?_
  rw [show u2 F 97 0 0 = zF F from rfl]
  refine c_109 z_0 (by decide) (fun hl => cn_1 ?_) (fun hl => cn_0 ⟨_, _, _, rfl, noL (here_z hl)⟩)
  have hl := here_n hl
  have hm := hM hl
  have hv := hm.1
  have hz := MV_z hm
  obtain ⟨⟨hv1, hv2⟩, ⟨hv3, hv4⟩, ⟨hv5, hv6⟩, ⟨hv7, hv8⟩, ⟨hv9, hv10⟩, ⟨hv11, hv12⟩, ⟨hv13, hv14⟩, hvw, hvs, hvk, hvc, hvx⟩ := id hv
  have e0 : zF F 100 = F 100 := z_n (by decide)
  have e1 : zF F 112 = F 112 := z_n (by decide)
  refine c_144 hz (fun F1 G1 hd ht => ?_)
  have hd : RD (zF F) F1 G G1 (cBs (zF F)) := hd
  have ht : TB (zF F 100) (cBs (zF F)) (zF F 100 4) F1 G1 := ht
  have p112 := hd.1.1 112 kp112
  rw [hd.1.1 100 kp100, hd.2.2.2.1]
  refine l_156_63 (F := zF F) (seed := x1) (x2 := 0) (x3 := 0) (x4 := 0) hz hd ht (F 100 3).toNat 0 x1 _ _ _ (by rw [e0]; omega) rfl (fun j a => by omega) (fun a ha => by rw [u2_o ha, u2_o ha, u2_o ha]) ⟨?_, fun j a => ?_, fun j a => by omega, fun i a => ?_⟩ (fun L F2 hL hF2 hJ h80 h81 => ⟨_, _, _, rfl, ok hl F2 G1 L ⟨⟨F1, hd.1, hF2⟩, ?_, hd.2.2.2.2.2.2, hL, ?_, h80, ?_⟩⟩)
  · rw [u2_n (by decide), u2_n (by decide), u2_s]
  · have : j = 0 := by omega
    subst this
    constructor
    · rw [u2_n (by decide), u2_s]
      rfl
    · rw [u2_s]
      rfl
  · rw [u2_n (by omega), u2_n (by omega), u2_n (by omega), p112]
  · obtain ⟨⟨o1, o2, o3, o4⟩, k1, k2⟩ := RD_K hd rfl
    have f97 := hF2 97 (by decide)
    have fL : mL F2 = mL F1 := mL_c (by rw [f97]) (hF2 _ (by decide)) (hF2 _ (by decide)) (hF2 _ (by decide)) (hF2 _ (by decide))
    refine ⟨by unfold OM; rw [f97]; exact ⟨o1, o2, o3, o4⟩, by rw [f97]; exact k1, fun q => ?_⟩
    rw [f97] at q
    rw [hF2 100 (by decide), fL]
    exact RDY_c (k2 q) (hF2 _ (by decide)) (hF2 _ (by decide)) rfl rfl
  · rw [e1] at hJ
    exact hJ
  · rw [e0] at h81
    exact h81
