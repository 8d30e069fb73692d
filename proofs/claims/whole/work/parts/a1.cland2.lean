/-! ===== the class reads a land, line by line ===== -/
theorem c_275 {k : FS → FI → FJ → Prop} {t : Nat → Int} {n : Int} {S : FS} {F : FI} {G : FJ} (h0 : 0 ≤ n) (hn : n ≤ 600) (hB : ∀ i : Nat, (i : Int) < n → F 3 i = t i) (hk : ∀ F', (∀ c, c ≠ 2 → F' c = F c) → F' 2 1 = F 2 1 → F' 2 8 = -1 → CTk F' t n (pSp t n 0) → k S F' G) : calV 2 275 [.inr (.inr (.inl 2)), .inl n] (mm S F G) k nof := by
  refine sg_275_0 (c_276 (a := 0) hn (Int.le_refl 0) h0 (fun i hi => by rw [u2_o (by decide), u2_o (by decide), u2_o (by decide), u2_o (by decide)]; exact hB i hi) ?_ ?_ (fun F' f c => ⟨_, _, _, rfl, hk F' (fun d hd => ?_) ?_ ?_ c⟩))
  · rw [u2_n (by decide), u2_n (by decide), u2_n (by decide), u2_s]
  · rw [u2_n (by decide), u2_n (by decide), u2_s]
  · rw [f.1 d hd, u2_o hd, u2_o hd, u2_o hd, u2_o hd]
  · rw [f.2 1 (by decide) (by decide) (by decide) (by decide), u2_n (by decide), u2_n (by decide), u2_n (by decide), u2_n (by decide)]
  · rw [f.2 8 (by decide) (by decide) (by decide) (by decide), u2_s]
theorem TX_c {F F' : FI} {a : Nat} (ha : oL a) (h : TX F) (f : FRc a F F') : TX F' := by
  intro t i x y
  rw [f.1 (2000000 + t) (by omega) (by rcases ha with e | e <;> subst e <;> omega)]
  exact h t i x y
theorem tS_0 {t : Nat → Int} {n b : Int} : tS t n b = 0 ↔ n ≤ b := by
  unfold tS
  by_cases q : n ≤ b
  · rw [if_pos q]
    exact ⟨fun _ => q, fun _ => rfl⟩
  · rw [if_neg q]
    refine ⟨fun h => ?_, fun h => absurd h q⟩
    split at h
    · exact absurd h (by decide)
    · split at h <;> exact absurd h (by decide)
theorem lLo_x {t : Nat → Int} {n : Int} {K many : Nat} {p : Pz} {l : Nat → Int} (h : p.2.1 ≠ -1) : lLo t n (K + 1) many p l = (p, l) := by
  unfold lLo
  rw [if_pos h]
theorem pE_x {p : Pz} {l : Nat → Int} {n : Int} (h : p.2.1 ≠ -1) : pE p l n = p := by
  unfold pE
  rw [if_neg (fun r => h r.1)]
set_option maxRecDepth 100000 in
theorem l_211_22 {Q : Rs → Mm → Prop} {F0 : FI} {t : Nat → Int} {n : Int} {a : Nat} {R : Pz × (Nat → Int)} {S : FS} {G : FJ} (ha : oL a) (hS : S 4 1 = a) (hT : TX F0)
    (bad : (pE R.1 R.2 n).2.1 ≠ -1 → ∀ F', FRc a F0 F' → F' 2 7 = (pE R.1 R.2 n).2.2 → F' 2 8 = (pE R.1 R.2 n).2.1 → Q (.inl (some (.inl 0))) (mm S F' G))
    (good : (pE R.1 R.2 n).2.1 = -1 → RV R.2 → ∀ F', FRd a F0 F' → LRp F' a R.2 → calV 1 203 [.inr (.inr (.inl a))] (mm S F' G) (fun S3 F3 G3 => Q (.inl (some (.inl 1))) (mm S3 F3 G3)) nof) :
    ∀ (K many : Nat) (p : Pz) (l : Nat → Int) (F : FI), K + many = 60 → lLo t n (K + 1) many p l = R → p.2.1 = -1 → FRd a F0 F → CTk F t n (pSp t n p.1) → LRp F a l → RV l → wph 6 211 22 [.inr (.inr (.inl 4)), jk, jk, .inl (many : Int)] [] (mm S F G) (0, 0) Q := by
  have ka : kq (kk (S 4 1)) 0 0 = true := by rw [hS, lk ha]; rfl
  have end' : ∀ (p : Pz) (l : Nat → Int) (F : FI), R = (p, l) → p.2.1 = -1 → FRd a F0 F → CTk F t n n → LRp F a l → RV l → chk (kq (kk (S 4 1)) 0 0) (cnd (decide ((F (S 4 1) 9) = 0)) (calI 0 281 [.inr (.inr (.inl 2)), .inl 4] (mm S F G) (fun v4 S4 F4 G4 => chk (zb v4) (Q (.inl (some (.inl v4))) (mm S4 F4 G4))) nof) (chk (kq (kk (S 4 1)) 0 0) (cnd (decide ((F (S 4 1) 11) = 0)) (calI 0 281 [.inr (.inr (.inl 2)), .inl 4] (mm S F G) (fun v5 S5 F5 G5 => chk (zb v5) (Q (.inl (some (.inl v5))) (mm S5 F5 G5))) nof) (chk (kq (kk (S 4 1)) 0 0) (calV 1 203 [.inr (.inr (.inl (S 4 1)))] (mm S F G) (fun S6 F6 G6 => Q (.inl (some (.inl 1))) (mm S6 F6 G6)) nof))))) := by
    intro p l F eR hp fr hc hl hv
    rw [eR] at bad good
    have n0 := hc.2.2.1.1
    have ef : (l 0 = 0 ∨ l 2 = 0) → pE p l n = (p.1, n, 4) := fun q => by
      unfold pE pFl
      rw [if_pos ⟨hp, q⟩, if_pos hp]
    have flt : (l 0 = 0 ∨ l 2 = 0) → calI 0 281 [.inr (.inr (.inl 2)), .inl 4] (mm S F G) (fun v4 S4 F4 G4 => chk (zb v4) (Q (.inl (some (.inl v4))) (mm S4 F4 G4))) nof := fun q => by
      have bad : (pE p l n).2.1 ≠ -1 → ∀ F', FRc a F0 F' → F' 2 7 = (pE p l n).2.2 → F' 2 8 = (pE p l n).2.1 → Q (.inl (some (.inl 0))) (mm S F' G) := bad
      rw [ef q] at bad
      exact c_281 hc (ck_i rfl (bad (by show n ≠ -1; omega) (cFt F 4 n) (FRc_e fr.1) cFt_7.1 cFt_7.2))
    refine ck_i ka (cn_i (fun z => flt (Or.inl (by rw [hS] at z; exact hl.1.1.symm.trans z))) (fun z => ck_i ka (cn_i (fun z2 => flt (Or.inr (by rw [hS] at z2; exact hl.1.2.2.1.symm.trans z2))) (fun z2 => ck_i ka ?_))))
    rw [hS] at z z2 ⊢
    have z' : l 0 ≠ 0 := fun q => z (hl.1.1.trans q)
    have z2' : l 2 ≠ 0 := fun q => z2 (hl.1.2.2.1.trans q)
    refine good ?_ hv F fr hl
    show (pE p l n).2.1 = -1
    unfold pE
    rw [if_neg (fun r => r.2.elim z' z2')]
    exact hp
  have step : ∀ (K many : Nat) (p : Pz) (l : Nat → Int) (F : FI), K + many = 60 → lLo t n (K + 1) many p l = R → p.2.1 = -1 → FRd a F0 F → CTk F t n (pSp t n p.1) → LRp F a l → RV l →
      (∀ K', K = K' + 1 → ∀ (p' : Pz) (l' : Nat → Int) (F' : FI), lLo t n K (many + 1) p' l' = R → p'.2.1 = -1 → FRd a F0 F' → CTk F' t n (pSp t n p'.1) → LRp F' a l' → RV l' → wph 6 211 22 [.inr (.inr (.inl 4)), jk, jk, .inl ((many + 1 : Nat) : Int)] [] (mm S F' G) (0, 0) Q) → wph 6 211 22 [.inr (.inr (.inl 4)), jk, jk, .inl (many : Int)] [] (mm S F G) (0, 0) Q := by
    intro K many p l F hK hR hp fr hc hl hv nxt
    have b1 := hc.2.2.1
    have e5 : F 2 5 = tS t n (pSp t n p.1) := hc.1.2.2.2
    have rb := pLe_b (t := t) (n := n) (n - pSp t n p.1).toNat (pSp t n p.1) (by omega)
    have rr1 : pAt p (pLe t n (pSp t n p.1)) = (pLe t n (pSp t n p.1), -1, (pAt p (pLe t n (pSp t n p.1))).2.2) := by
      show (pLe t n (pSp t n p.1), p.2) = (pLe t n (pSp t n p.1), -1, p.2.2)
      rw [show ((-1 : Int), p.2.2) = p.2 from by rw [← hp]]
    unfold lLo at hR
    rw [if_neg (fun r => r hp)] at hR
    refine sg_211_22 (cd_f (by omega) ?_)
    rw [e5]
    refine cn_i (fun z => ?_) (fun z => ?_)
    · have z' := tS_0.mp z
      have en : pSp t n p.1 = n := by omega
      rw [if_pos z', en] at hR
      rw [en] at hc
      exact end' _ _ F hR.symm hp fr hc hl hv
    · have z' : ¬ n ≤ pSp t n p.1 := fun q => z (tS_0.mpr q)
      rw [if_neg z'] at hR
      -- a fault at the line's beginning
      have flt : ∀ kd : Int, R = (pFl (pAt p (pSp t n p.1)) kd (pSp t n p.1), l) → Q (.inl (some (.inl 0))) (mm S (cFt F kd (pSp t n p.1)) G) := by
        intro kd eR
        rw [eR] at bad
        have ef : pFl (pAt p (pSp t n p.1)) kd (pSp t n p.1) = (pSp t n p.1, pSp t n p.1, kd) := by
          unfold pFl
          rw [if_pos (show (pAt p (pSp t n p.1)).2.1 = -1 from hp)]
          rfl
        rw [ef] at bad
        have ne : ((pSp t n p.1, pSp t n p.1, kd) : Pz).2.1 ≠ -1 := by show pSp t n p.1 ≠ -1; omega
        have bad : (pE (pSp t n p.1, pSp t n p.1, kd) l n).2.1 ≠ -1 → ∀ F', FRc a F0 F' → F' 2 7 = (pE (pSp t n p.1, pSp t n p.1, kd) l n).2.2 → F' 2 8 = (pE (pSp t n p.1, pSp t n p.1, kd) l n).2.1 → Q (.inl (some (.inl 0))) (mm S F' G) := bad
        rw [pE_x ne] at bad
        exact bad ne _ (FRc_e fr.1) cFt_7.1 cFt_7.2
      by_cases cl : isCl (pWd t n (pSp t n p.1))
      · rw [if_neg (fun r => r cl)] at hR
        by_cases m60 : many = 60
        · rw [if_pos (Or.inl m60)] at hR
          exact cd_f (by omega) (c_212 (r := pAt p (pLe t n (pSp t n p.1))) ha hS (TX_c ha hT fr.1) hc rr1 hl hv (Or.inl rfl) (fun q => absurd cl q) (fun _ _ => cd_t rfl (flt 3 hR.symm)) (fun _ q => absurd q (by decide)))
        · refine cd_t (by omega) (c_212 (r := pAt p (pLe t n (pSp t n p.1))) ha hS (TX_c ha hT fr.1) hc rr1 hl hv (Or.inr rfl) (fun q => absurd cl q) (fun _ q => cd_t rfl (flt 3 ?_)) (fun _ _ nf F1 v o => ?_))
          · rw [if_pos (Or.inr (q.resolve_left (by decide)))] at hR
            exact hR.symm
          · rw [if_neg (fun r => r.elim m60 nf)] at hR
            obtain ⟨K', eK⟩ : ∃ K', K = K' + 1 := ⟨K - 1, by omega⟩
            obtain ⟨X, eX⟩ : ∃ X, X = rC t n (pWd t n (pSp t n p.1)) (pAt p (pLe t n (pSp t n p.1))) l := ⟨_, rfl⟩
            have rv := rC_RV (t := t) (n := n) (p := pAt p (pLe t n (pSp t n p.1))) hv cl nf (by show 0 ≤ pLe t n (pSp t n p.1); omega) rb.2
            rw [← eX] at hR o rv
            -- a fault in the line
            have fl2 : ∀ (q : Pz) (F' : FI), R = (q, X.2) → q.2.1 ≠ -1 → FRc a F0 F' → F' 2 7 = q.2.2 → F' 2 8 = q.2.1 → Q (.inl (some (.inl 0))) (mm S F' G) := by
              intro q F' eR ne f e7 e8
              rw [eR] at bad
              have bad : (pE q X.2 n).2.1 ≠ -1 → ∀ F', FRc a F0 F' → F' 2 7 = (pE q X.2 n).2.2 → F' 2 8 = (pE q X.2 n).2.1 → Q (.inl (some (.inl 0))) (mm S F' G) := bad
              rw [pE_x ne] at bad
              exact bad ne F' f e7 e8
            obtain ⟨fo, ⟨o1, o2, o3, o4, o5⟩ | ⟨o1, o2, o3, o4⟩⟩ := o
            · subst o2
              have fd : FRd a F0 F1 := FRd_t fr ⟨fo, o5⟩
              refine cd_f (by decide) (c_283 (p := X.1) o3 o1 (by decide) (fun ep F2 f2 c2 => cd_f (by decide) ?_) (fun q eq hq => cd_t rfl ?_))
              · rw [wr_id (by omega) (by omega), show (many : Int) + 1 = ((many + 1 : Nat) : Int) by omega]
                rw [ep] at hR
                exact nxt K' eK _ _ F2 hR o1 (FRd_t fd (FRd_f f2)) c2 (LRp_t ha o4 f2) (rv o1)
              · rw [← eq, eK, lLo_x hq] at hR
                exact fl2 q _ hR.symm hq (FRc_e fd.1) cFt_7.1 cFt_7.2
            · subst o2
              have ex : pEx t n X.1 59 = X.1 := by unfold pEx; rw [if_pos o1]
              rw [ex, eK, lLo_x o1] at hR
              exact cd_t rfl (fl2 X.1 F1 hR.symm o1 (FRc_t fr.1 fo) o3 o4)
      · rw [if_pos cl] at hR
        refine cn_i (fun m => ?_) (fun m => ?_)
        · exact c_212 (r := pAt p (pLe t n (pSp t n p.1))) ha hS (TX_c ha hT fr.1) hc rr1 hl hv (Or.inr rfl) (fun _ => cd_t rfl (flt 1 hR.symm)) (fun q => absurd q cl) (fun q => absurd q cl)
        · exact c_212 (r := pAt p (pLe t n (pSp t n p.1))) ha hS (TX_c ha hT fr.1) hc rr1 hl hv (Or.inl rfl) (fun _ => cd_t rfl (flt 1 hR.symm)) (fun q => absurd q cl) (fun q => absurd q cl)
  intro K
  induction K with
  | zero =>
    intro many p l F hK hR hp fr hc hl hv
    exact step 0 many p l F hK hR hp fr hc hl hv (fun K' q => absurd q (by omega))
  | succ K ih =>
    intro many p l F hK hR hp fr hc hl hv
    exact step (K + 1) many p l F hK hR hp fr hc hl hv (fun K' q p' l' F' a b c d e f => ih (many + 1) p' l' F' (by omega) a b c d e f)
set_option maxRecDepth 100000 in
theorem c_211 {k : Int → FS → FI → FJ → Prop} {t : Nat → Int} {n kd : Int} {g : Nat → Int} {a : Nat} {R : Pz × (Nat → Int)} {S : FS} {F : FI} {G : FJ} (ha : oL a) (hT : TX F) (h0 : 0 ≤ n) (hn : n ≤ 600) (hB : ∀ i : Nat, (i : Int) < n → F 3 i = t i) (hR : R = lLo t n 61 0 (0, -1, kd) (l00 g))
    (bad : (pE R.1 R.2 n).2.1 ≠ -1 → ∀ F', FRc a F F' → F' 2 7 = (pE R.1 R.2 n).2.2 → F' 2 8 = (pE R.1 R.2 n).2.1 → k 0 (u2 S 4 1 a) F' G)
    (good : (pE R.1 R.2 n).2.1 = -1 → RV R.2 → 1 ≤ R.2 0 ∧ 1 ≤ R.2 2 → ∀ F' G', FRc a F F' → F' 2 8 = -1 → (∀ c, c ≠ a + 8 → G' c = G c) → LR F' G' a R.2 → k 1 (u2 S 4 1 a) F' G') : calI 6 211 [.inr (.inr (.inl 4)), .inr (.inr (.inl a)), .inl n] (mm S F G) k nof := by
  have ka : kq (kk a) 0 0 = true := by rw [lk ha]; rfl
  refine sg_211_0 (ck_i (by rcases ha with e | e <;> subst e <;> rfl) (ck_i ka (c_202 g ha (fun F1 f1 l1 => ?_))))
  have e3 : F1 3 = F 3 := f1 3 (by rcases ha with e | e <;> subst e <;> decide)
  have e2 : F1 2 = F 2 := f1 2 (by rcases ha with e | e <;> subst e <;> decide)
  refine c_275 (t := t) h0 hn (fun i hi => by rw [e3]; exact hB i hi) (fun F2 g1 g2 g3 c2 => ?_)
  have f12 : FRc a F F2 := ⟨fun c x y => (g1 c x).trans (f1 c y), g2.trans (by rw [e2])⟩
  refine l_211_22 (F0 := F2) (t := t) (n := n) (R := R) ha u2_s (TX_c ha hT f12) (fun b F' fr e7 e8 => ⟨_, _, _, rfl, bad b F' (FRc_t f12 fr) e7 e8⟩) (fun b rv F' fr l' => ?_) 60 0 (0, -1, kd) (l00 g) F2 rfl hR.symm rfl FRd_r c2 (LRp_c l1 (fun i _ => g1 _ (by rcases ha with e | e <;> subst e <;> omega))) (RV_00 g)
  have ne := pE_n h0 b
  have rv0 := rv.1.1
  have rv2 := rv.1.2.2.1
  refine c_203 ha l' rv (by omega) (by omega) (fun F3 G3 f3 h3 lr => ⟨_, _, _, rfl, good b rv ⟨by omega, by omega⟩ F3 G3 ?_ ?_ h3 lr⟩)
  · refine FRc_t f12 (FRc_t fr.1 ⟨fun c x y => f3 c (by omega), ?_⟩)
    rw [f3 2 (by rcases ha with e | e <;> subst e <;> decide)]
  · rw [f3 2 (by rcases ha with e | e <;> subst e <;> decide), fr.2]
    exact g3
