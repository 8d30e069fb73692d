/-! ===== the class is told a law ===== -/
theorem LW_WR {F : FI} {b : Nat} {w : La} {rl prog : List (Int × Int)} (hr : CRl F b rl) (hp : CPr F b prog) (hm : LMt w rl prog) (hf : RWF rl prog) (hk : ∀ k : Nat, k < rl.length → frm w k = frl rl k) : WR F b w := by
  obtain ⟨r1, r0, r2⟩ := hr
  obtain ⟨e1, e2, e3⟩ := hm
  refine ⟨by rw [r1, e1], fun k k0 k1 => ?_⟩
  obtain ⟨j, ej⟩ : ∃ j : Nat, k = j := ⟨k.toNat, by omega⟩
  subst ej
  have hj : j < rl.length := by omega
  obtain ⟨⟨a1, a2, a3⟩, -⟩ := hf.1 j hj
  have ej := e2 j hj
  have rj := r2 j hj
  have fj := hk j hj
  refine ⟨?_, ?_, ?_, fun i i0 i1 => ?_⟩
  · rw [show ((j : Int)).toNat = j by omega, rj.1, ej.1]
  · rw [show ((j : Int)).toNat = j by omega, fj]
    unfold frl
    by_cases q : j = 0
    · rw [if_pos q, q, r0]
    · rw [if_neg q]
      have := (r2 (j - 1) (by omega)).2
      rw [show j - 1 + 1 = j by omega] at this
      exact this
  · rw [show ((j : Int) + 1).toNat = j + 1 by omega, rj.2, ej.2]
  · rw [ej.2] at i1
    rw [fj] at i0
    have := e3 i.toNat (by omega)
    rw [show ((i.toNat : Nat) : Int) = i by omega] at this
    rw [hp.2 i.toNat (by omega), this.1, this.2]
set_option maxRecDepth 100000 in
theorem l_231_22 {Q : Rs → Mm → Prop} {F0 : FI} {t : Nat → Int} {n : Int} {b : Nat} {R : Px × List (Int × Int)} {S : FS} {G : FJ} (hb : oW b) (hn : n ≤ 600)
    (bad : R.1.1.2.1 ≠ -1 → ∀ F', FRw b F0 F' → F' 2 7 = R.1.1.2.2 → F' 2 8 = R.1.1.2.1 → Q (.inl (some (.inl 0))) (mm S F' G))
    (good : R.1.1.2.1 = -1 → ∀ F', FRv b F0 F' → CRl F' b R.2 → CPr F' b R.1.2 → Q (.inl (some (.inl 1))) (mm S F' G)) :
    ∀ (K : Nat) (x : Px) (rl : List (Int × Int)) (F : FI), K + rl.length = 11 → RUL t n K x rl R → x.1.2.1 = -1 → 0 ≤ x.1.1 ∧ x.1.1 ≤ n → (x.2.length : Int) ≤ x.1.1 → rl.length ≤ 10 → cXs S F t n b x → CRl F b rl → FRv b F0 F → wph 92 231 22 [.inr (.inr (.inl 5)), jk, jk, .inl (rl.length : Int)] [] (mm S F G) (0, 0) Q := by
  intro K
  induction K with
  | zero => intro x rl F hK hR hok hx hl h10; omega
  | succ K ih =>
    intro x rl F hK hR hok hx hl h10 hc hr fr
    have ct := hc.2.2.1
    have e5 : F 2 5 = tS t n (pSp t n x.1.1) := ct.1.2.2.2
    refine sg_231_22 (cd_f (by omega) ?_)
    rw [e5]
    refine cn_i (fun z => ?_) (fun z => ?_)
    · have z' := tS_0.mp z
      have eR : R = ((pAt x.1 (pSp t n x.1.1), x.2), rl) := by
        rcases hR with ⟨hf, -⟩ | ⟨-, -, hR⟩ | ⟨-, hn', -⟩ | ⟨-, hn', -⟩ | ⟨-, hn', -⟩ | ⟨-, hn', -⟩
        · exact absurd hok hf
        · exact hR
        all_goals omega
      rw [eR] at good
      exact good hok F fr hr hc.2.2.2
    · have z' : pSp t n x.1.1 < n := by
        apply Classical.byContradiction
        intro q
        exact z (tS_0.mpr (by omega))
      have go : ∀ x1, ((x1 = 1 ∧ rl.length < 10) ∨ (x1 = 0 ∧ rl.length = 10)) → calI 91 232 [.inr (.inr (.inl 5)), .inl x1] (mm S F G) (fun v1 S1 F1 G1 => cnd (decide (v1 = 0)) (Q (.inl (some (.inl 0))) (mm S1 F1 G1)) (wph 92 231 22 [.inr (.inr (.inl 5)), jk, jk, .inl (wr ((rl.length : Int) + 1))] [] (mm S1 F1 G1) (0, 0) Q)) nof := by
        intro x1 hx1
        refine c_232 hb hn hok hx hl hc hr h10 hx1 z' hR (fun bd F' f e7 e8 => cd_t rfl (bad bd F' (FRw_t fr.1 f) e7 e8)) (fun x' rl' F' hR' el l10 ok' hx' hl' hc' hr' f => cd_f (by decide) ?_)
        rw [wr_id (by omega) (by omega), show (rl.length : Int) + 1 = (rl'.length : Int) by omega]
        exact ih x' rl' F' (by omega) hR' ok' hx' hl' (by omega) hc' hr' (FRv_t fr f)
      by_cases m : rl.length = 10
      · exact cd_f (by omega) (go 0 (Or.inr ⟨rfl, m⟩))
      · exact cd_t (by omega) (go 1 (Or.inl ⟨rfl, by omega⟩))
set_option maxRecDepth 100000 in
theorem c_231 {k : Int → FS → FI → FJ → Prop} {t : Nat → Int} {n kd : Int} {b : Nat} {R : Px × List (Int × Int)} {S : FS} {F : FI} {G : FJ} (hb : oW b) (hT : TX F) (h0 : 0 ≤ n) (hn : n ≤ 600) (hB : ∀ i : Nat, (i : Int) < n → F 3 i = t i) (hz : F (b + 2) 0 = 0) (hR : RUL t n 11 ((0, -1, kd), []) [] R)
    (bad : R.1.1.2.1 ≠ -1 → ∀ F', FRw b F F' → F' 2 7 = R.1.1.2.2 → F' 2 8 = R.1.1.2.1 → k 0 (u2 S 5 1 b) F' G)
    (good : R.1.1.2.1 = -1 → ∀ F', FRw b F F' → F' 2 8 = -1 → CRl F' b R.2 → CPr F' b R.1.2 → k 1 (u2 S 5 1 b) F' G) : calI 92 231 [.inr (.inr (.inl 5)), .inr (.inr (.inl b)), .inl n] (mm S F G) k nof := by
  have kb : kq (kk b) 0 2 = true := by rw [wk hb]; rfl
  have b2 : b ≠ 2 ∧ b ≠ 3 ∧ b + 2 ≠ 2 ∧ b < 100 ∧ b + 3 ≠ 2 := by rcases hb with e | e <;> subst e <;> decide
  refine sg_231_0 (ck_i (by rcases hb with e | e <;> subst e <;> rfl) (ck_i kb (sg_225_0 (ck_i kb (ck_i kb ⟨_, _, _, rfl, ?_⟩)))))
  refine c_275 (t := t) h0 hn (fun i hi => by rw [u2_o (Ne.symm b2.2.1), u2_o (Ne.symm b2.2.1)]; exact hB i hi) (fun F2 g1 g2 g3 c2 => ?_)
  have f12 : FRw b F F2 := by
    refine ⟨fun c x y => ?_, ?_, ?_⟩
    · rw [g1 c x, u2_o (by omega), u2_o (by omega)]
    · rw [g2, u2_o (by omega), u2_o (by omega)]
    · rw [g1 _ b2.2.2.1, u2_o (by omega), u2_o (by omega)]
  refine l_231_22 (F0 := F2) (t := t) (n := n) (R := R) hb hn (fun bd F' fr e7 e8 => ⟨_, _, _, rfl, bad bd F' (FRw_t f12 fr) e7 e8⟩) (fun gd F' fr hr hp => ⟨_, _, _, rfl, good gd F' (FRw_t f12 fr.1) (fr.2.trans g3) hr hp⟩) 11 ((0, -1, kd), []) [] F2 rfl hR rfl ⟨Int.le_refl 0, h0⟩ (Int.le_refl 0) (by decide) ⟨u2_s, fun t' i h1 h2 => ?_, c2, ?_, fun i hi => absurd hi (by show ¬ i < 0; omega)⟩ ⟨?_, ?_, fun i hi => absurd hi (by show ¬ i < 0; omega)⟩ ⟨⟨fun _ _ _ => rfl, rfl, rfl⟩, rfl⟩
  · rw [g1 _ (by omega), u2_o (by omega), u2_o (by omega)]
    exact hT t' i h1 h2
  · rw [g1 b b2.1, u2_s]
    rfl
  · rw [g1 b b2.1, u2_n (by decide), u2_s]
    rfl
  · rw [f12.2.2]
    exact hz
set_option maxRecDepth 100000 in
theorem p_3 {k : Int → FS → FI → FJ → Prop} {kx : Nat → FS → FI → FJ → Prop} {t : Nat → Int} {kd x1 : Int} {a b b' : Nat} {w : La} {R : Px × List (Int × Int)} {S : FS} {F : FI} {G : FJ} (ha : oL a) (hb : oW b) (hb' : oW b') (hbb : b ≠ b') (hS : S 1 0 = a ∧ S 1 2 = b ∧ S 1 3 = b') (hT : TX F) (h2 : 0 ≤ F 2 1 ∧ F 2 1 ≤ 600) (hB : ∀ i : Nat, (i : Int) < F 2 1 → F 3 i = t i) (hz : F (b' + 2) 0 = 0) (hR : RUL t x1 11 ((0, -1, kd), []) [] R)
    (noA : ¬ (0 ≤ x1 ∧ x1 ≤ F 2 1) → kx 2 S (rfc F 2) G)
    (bad : 0 ≤ x1 ∧ x1 ≤ F 2 1 → R.1.1.2.1 ≠ -1 → ∀ F', (∀ c, c ≠ 2 → ¬ (b' ≤ c ∧ c ≤ b' + 3) → F' c = F c) → F' (b' + 2) 0 = 0 → F' 2 1 = 0 → F' 2 8 = R.1.1.2.1 → k (wr (R.1.1.2.2 - 10)) (u2 S 5 1 b') F' G)
    (good : 0 ≤ x1 ∧ x1 ≤ F 2 1 → R.1.1.2.1 = -1 → LMt w R.2 R.1.2 → R.2.length ≤ 10 ∧ R.1.2.length ≤ 600 ∧ RWF R.2 R.1.2 → ∀ S' F', LW w → WR F' b' w → (∀ l s w0, YK S F G a b l s w0 → YK S' F' G a b' l s w) → (S' 1 2 = b' ∧ S' 1 3 = b ∧ S' 22 0 = a ∧ S' 22 1 = b') → (∀ x i, x ≠ 5 → x ≠ 22 → ¬ (x = 1 ∧ (i = 2 ∨ i = 3)) → S' x i = S x i) → (∀ c, c ≠ 1 → c ≠ 2 → c ≠ 22 → c ≠ 23 → ¬ (b' ≤ c ∧ c ≤ b' + 3) → F' c = F c) → (∀ i, i ≠ 17 → F' 1 i = F 1 i) → F' 1 17 = 0 → F' (b' + 2) 0 = 0 → F' 2 1 = 0 → F' 2 8 = -1 → k (R.2.length : Int) S' F' G)
    (hw : R.1.1.2.1 = -1 → LMt w R.2 R.1.2 ∧ R.2.length ≤ 10 ∧ R.1.2.length ≤ 600 ∧ RWF R.2 R.1.2) : calI 93 3 [.inr (.inr (.inl 1)), .inl x1] (mm S F G) k kx := by
  obtain ⟨s12, s14, s15⟩ := hS
  have b2 : b' ≠ 2 ∧ b' ≠ 3 ∧ b' + 2 ≠ 2 ∧ 61 ≤ b' ∧ b' < 100 := by rcases hb' with e | e <;> subst e <;> decide
  refine sg_3_0 (cn_i (fun z => c_55_0 (ex_2 ⟨_, _, _, rfl, noA (by omega)⟩)) (fun z => cn_i (fun z2 => c_55_0 (ex_2 ⟨_, _, _, rfl, noA (by omega)⟩)) (fun z2 => c_55_1 ?_)))
  have hx : 0 ≤ x1 ∧ x1 ≤ F 2 1 := by omega
  have bad := bad hx
  have good := good hx
  rw [s15]
  refine c_231 (t := t) (n := x1) (kd := kd) (R := R) hb' hT hx.1 (by omega) (fun i hi => hB i (by omega)) hz hR (fun bd F' fr e7 e8 => cd_t rfl ⟨_, _, _, rfl, ?_⟩) (fun gd F1 fr e8 hr hp => cd_f (by decide) ?_)
  · rw [e7]
    refine bad bd _ (fun c c1 c2 => ?_) ?_ u2_s ?_
    · rw [u2_o c1]; exact fr.1 c c1 c2
    · rw [u2_o b2.2.2.1, fr.2.2]; exact hz
    · rw [u2_n (by decide)]; exact e8
  · obtain ⟨lm, l10, l600, lwf⟩ := hw gd
    obtain ⟨lw, lfr⟩ := LMt_LW lm lwf l10 l600
    have wr' := LW_WR hr hp lm lwf lfr
    have t14 : u2 S 5 1 b' 1 2 = b := by rw [u2_o (by decide)]; exact s14
    have t15 : u2 S 5 1 b' 1 3 = b' := by rw [u2_o (by decide)]; exact s15
    have t12 : u2 S 5 1 b' 1 0 = a := by rw [u2_o (by decide)]; exact s12
    rw [t14, t15]
    refine ck_i (by rcases hb' with e | e <;> subst e <;> rfl) (ck_i (by rcases hb with e | e <;> subst e <;> rfl) ?_)
    refine c_59 ha hb' (by rw [u2_n (by decide), u2_n (by decide)]; exact t12) (by rw [u2_n (by decide), u2_s]) (fun F3 f3 i3 h17 h6 h23 => ?_)
    have sw : ∀ x i, u2 (u2 (u2 (u2 (u2 S 5 1 b') 1 2 b') 1 3 b) 22 0 a) 22 1 b' x i = if x = 22 ∧ i = 1 then b' else if x = 22 ∧ i = 0 then a else if x = 1 ∧ i = 3 then b else if x = 1 ∧ i = 2 then b' else if x = 5 ∧ i = 1 then b' else S x i := fun x i => rfl
    have y14 : u2 (u2 (u2 (u2 (u2 S 5 1 b') 1 2 b') 1 3 b) 22 0 a) 22 1 b' 1 2 = b' := by rw [sw]; rfl
    rw [y14]
    have o3 : ∀ c, c ≠ 1 → c ≠ 2 → c ≠ 22 → c ≠ 23 → F3 c = F1 c := fun c c1 c2 c3 c4 => by rw [f3 c c1 c3 c4, u2_o c2]
    have wr3 : WR F3 b' w := WR_c wr' (fun i hi => o3 _ (by omega) (by omega) (by omega) (by omega))
    have e5 : F3 b' 5 = (R.2.length : Int) := by rw [wr3.1]; exact lm.1
    rw [e5]
    have f01 : ∀ i, i ≠ 17 → F3 1 i = F 1 i := fun i h1 => by
      rw [i3 i h1, u2_o (by decide)]
      rw [fr.1 1 (by decide) (by omega)]
    have o4 : ∀ c, c ≠ 1 → c ≠ 2 → c ≠ 22 → c ≠ 23 → ¬ (b' ≤ c ∧ c ≤ b' + 3) → F3 c = F c := fun c c1 c2 c3 c4 c5 => by
      rw [o3 c c1 c2 c3 c4]
      exact fr.1 c c2 c5
    refine ck_i (by rw [wk hb']; rfl) ⟨_, _, _, rfl, good gd lm ⟨l10, l600, lwf⟩ _ F3 lw wr3 (fun l s w0 hk => ?_) ⟨y14, ?_, ?_, ?_⟩ (fun x i h1 h2 h3 => ?_) o4 f01 h17 ?_ ?_ ?_⟩
    · obtain ⟨ya, yb, ⟨k1, k2, k3, k4⟩, yv, ys, yw, yl, yr, yp, v1, v2, v3, v4, v5, v6⟩ := hk
      refine ⟨ya, hb', ⟨?_, y14, ?_, ?_⟩, yv, ys, lw, LR_c yl (fun i hi => o4 _ (by omega) (by omega) (by omega) (by omega) (by omega)) rfl, wr3, PR_c yp (fun i hi => o4 _ (by omega) (by omega) (by omega) (by omega) (by omega)), MC_0 h23, Or.inl h6, ?_, ?_, Or.inl h17, fun q => by rw [h17] at q; exact absurd q (by decide)⟩
      · rw [sw]; exact s12
      · rw [sw]; rfl
      · rw [sw]; rfl
      · rw [o4 16 (by decide) (by decide) (by decide) (by decide) (by omega)]; exact v3
      · rw [o4 19 (by decide) (by decide) (by decide) (by decide) (by omega)]; exact v4
    · rw [sw]; rfl
    · rw [sw]; rfl
    · rw [sw]; rfl
    · rw [sw, if_neg (fun q => h2 q.1), if_neg (fun q => h2 q.1), if_neg (fun q => h3 ⟨q.1, Or.inr q.2⟩), if_neg (fun q => h3 ⟨q.1, Or.inl q.2⟩), if_neg (fun q => h1 q.1)]
    · rw [o3 _ (by omega) b2.2.2.1 (by omega) (by omega), fr.2.2]; exact hz
    · rw [f3 2 (by decide) (by decide) (by decide), u2_s]
    · rw [f3 2 (by decide) (by decide) (by decide), u2_n (by decide)]; exact e8
