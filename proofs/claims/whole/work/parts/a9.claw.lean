/-! ===== the class reads a law: pieces ===== -/
def CPr (F : FI) (b : Nat) (s : List (Int × Int)) : Prop := F b 6 = (s.length : Int) ∧ ∀ i : Nat, i < s.length → F (b + 3) i = eN (s.getD i (0, 0)).1 (s.getD i (0, 0)).2
def FRx (b : Nat) (F F' : FI) : Prop := (∀ c, c ≠ 2 → c ≠ b → c ≠ b + 3 → F' c = F c) ∧ (∀ i, i ≠ 6 → F' b i = F b i) ∧ F' 2 1 = F 2 1
def FRy (b : Nat) (F F' : FI) : Prop := FRx b F F' ∧ F' 2 8 = F 2 8
theorem FRx_t {b : Nat} {F F1 F2 : FI} (h1 : FRx b F F1) (h2 : FRx b F1 F2) : FRx b F F2 := ⟨fun c x y z => (h2.1 c x y z).trans (h1.1 c x y z), fun i hi => (h2.2.1 i hi).trans (h1.2.1 i hi), h2.2.2.trans h1.2.2⟩
theorem FRy_r {b : Nat} {F : FI} : FRy b F F := ⟨⟨fun _ _ _ _ => rfl, fun _ _ => rfl, rfl⟩, rfl⟩
theorem FRy_t {b : Nat} {F F1 F2 : FI} (h1 : FRy b F F1) (h2 : FRy b F1 F2) : FRy b F F2 := ⟨FRx_t h1.1 h2.1, h2.2.trans h1.2⟩
theorem FRy_f {b : Nat} {F F' : FI} (hb : oW b) (h : TF F F') : FRy b F F' := ⟨⟨fun c x _ _ => h.1 c x, fun i _ => by rw [h.1 b (by rcases hb with e | e <;> subst e <;> decide)], h.2 1 (by decide) (by decide) (by decide) (by decide)⟩, h.2 8 (by decide) (by decide) (by decide) (by decide)⟩
theorem FRx_e {b : Nat} {F F' : FI} {kd at' : Int} (hb : oW b) (h : FRx b F F') : FRx b F (cFt F' kd at') := ⟨fun c x y z => by unfold cFt; rw [u2_o x, u2_o x]; exact h.1 c x y z, fun i hi => by
  have b2 : b ≠ 2 := by rcases hb with e | e <;> subst e <;> decide
  unfold cFt
  rw [u2_o b2, u2_o b2]; exact h.2.1 i hi, by unfold cFt; rw [u2_n (by decide), u2_n (by decide)]; exact h.2.2⟩
/-- what comes of a part -/
def OL (t : Nat → Int) (n : Int) (b : Nat) (F F' : FI) (x : Px) (v : Int) : Prop := (x.1.2.1 = -1 ∧ v = 1 ∧ FRy b F F' ∧ CTk F' t n (pSp t n x.1.1) ∧ CPr F' b x.2) ∨ (x.1.2.1 ≠ -1 ∧ v = 0 ∧ FRx b F F' ∧ F' 2 7 = x.1.2.2 ∧ F' 2 8 = x.1.2.1)
theorem OL_z {t : Nat → Int} {n v : Int} {b : Nat} {F F' : FI} {x : Px} (h : OL t n b F F' x v) : zb v = true := by
  rcases h with ⟨-, q, -⟩ | ⟨-, q, -⟩ <;> subst q <;> rfl
theorem OL_f {t : Nat → Int} {n : Int} {b : Nat} {F F' : FI} {q : Pz} {x : Px} (hb : oW b) (h : FRx b F F') (hq : q.2.1 ≠ -1) (e : x.1.2 = q.2) : OL t n b F (cFt F' q.2.2 q.2.1) x 0 := Or.inr ⟨by rw [e]; exact hq, rfl, FRx_e hb h, by rw [e]; exact cFt_7.1, by rw [e]; exact cFt_7.2⟩
theorem OL_g {t : Nat → Int} {n : Int} {b : Nat} {F F' : FI} {x : Px} (h : FRy b F F') (hq : x.1.2.1 = -1) (hc : CTk F' t n (pSp t n x.1.1)) (hp : CPr F' b x.2) : OL t n b F F' x 1 := Or.inl ⟨hq, rfl, h, hc, hp⟩
theorem OL_t {t : Nat → Int} {n v : Int} {b : Nat} {F F1 F' : FI} {x : Px} (h : FRy b F F1) (o : OL t n b F1 F' x v) : OL t n b F F' x v := by
  rcases o with ⟨a, e, c, d, f⟩ | ⟨a, e, c, d, f⟩
  · exact Or.inl ⟨a, e, FRy_t h c, d, f⟩
  · exact Or.inr ⟨a, e, FRx_t h.1 c, d, f⟩
theorem CPr_f {F F' : FI} {b : Nat} {s : List (Int × Int)} (hb : oW b) (h : CPr F b s) (hF : TF F F') : CPr F' b s := by
  unfold CPr at h ⊢
  rw [hF.1 b (by rcases hb with e | e <;> subst e <;> decide), hF.1 (b + 3) (by rcases hb with e | e <;> subst e <;> decide)]
  exact h
theorem TX_y {F F' : FI} {b : Nat} (hb : oW b) (h : TX F) (f : FRx b F F') : TX F' := by
  intro t i x y
  rw [f.1 (2000000 + t) (by omega) (by rcases hb with e | e <;> subst e <;> omega) (by rcases hb with e | e <;> subst e <;> omega)]
  exact h t i x y
set_option maxRecDepth 100000 in
/-- a step is put down -/
theorem c_226 {k : FS → FI → FJ → Prop} {t : Nat → Int} {n e v : Int} {b : Nat} {s : List (Int × Int)} {q : Int × Int} {S : FS} {F : FI} {G : FJ} (hb : oW b) (hl : (s.length : Int) < 600) (hp : CPr F b s) (hc : CTk F t n e) (ev : v = eN q.1 q.2) (hk : ∀ F', FRy b F F' → CPr F' b (s ++ [q]) → CTk F' t n e → F' 2 = F 2 → k S F' G) : calV 0 226 [.inr (.inr (.inl b)), .inl v] (mm S F G) k nof := by
  obtain ⟨h1, h2⟩ := hp
  have kb : kq (kk b) 0 2 = true := by rw [wk hb]; rfl
  have b2 : b ≠ 2 := by rcases hb with e | e <;> subst e <;> decide
  have b32 : b + 3 ≠ 2 ∧ b + 3 ≠ 3 ∧ b ≠ 3 := by rcases hb with e | e <;> subst e <;> decide
  refine sg_226_0 (ck_i kb (cd_t (by rw [h1]; exact hl) ?_))
  rw [wr2 hb, wk3 hb, h1, u2_o (show b ≠ b + 3 by omega), h1, wr_id (by omega) (by omega)]
  have lq : (s ++ [q]).length = s.length + 1 := List.length_append
  refine ck_i kb (ck_i kb (ck_i rfl (ck_i (jb_i (by omega) (by omega)) (ck_i kb (ck_i kb ⟨_, _, _, rfl, hk _ ⟨⟨fun c c1 c2 c3 => ?_, fun i hi => ?_, ?_⟩, ?_⟩ ⟨?_, fun i hi => ?_⟩ (CTk_k hc ?_ ?_) ?_⟩)))))
  · rw [u2_o c2, u2_o c3]
  · rw [u2_n hi, u2_o (by omega)]
  · rw [u2_o (Ne.symm b2), u2_o (Ne.symm b32.1)]
  · rw [u2_o (Ne.symm b2), u2_o (Ne.symm b32.1)]
  · rw [u2_s, lq]
    rfl
  · rw [lq] at hi
    rw [u2_o (by omega), u2_k, show ((s.length : Int)).toNat = s.length by omega]
    by_cases z : i = s.length
    · rw [if_pos z, z, getD_r, ev]
    · rw [if_neg z, getD_l (by omega)]
      exact h2 i (by omega)
  · rw [u2_o (Ne.symm b2), u2_o (Ne.symm b32.1)]
  · rw [u2_o (Ne.symm b32.2.2), u2_o (Ne.symm b32.2.1)]
  · rw [u2_o (Ne.symm b2), u2_o (Ne.symm b32.1)]
def lvg (g : Nat) : Int := if g = 5 then 0 else if g = 4 then 1 else if g = 2 then 2 else 3
def jst (g : Nat) (c w : Int) : Int := if jop g c w = 0 then 0 else eN (jop g c w) 0
theorem c_235 {k : Int → FS → FI → FJ → Prop} {t : Nat → Int} {n e : Int} {g : Nat} {S : FS} {F : FI} {G : FJ} (hg : g = 1 ∨ g = 2 ∨ g = 4 ∨ g = 5) (hT : TX F) (hc : CTk F t n e) (hk : k (jst g (pBy t n e) (pWd t n e)) S F G) : calI 1 235 [.inr (.inr (.inl 5)), .inl (lvg g)] (mm S F G) k nof := by
  have s40 : tC 40 = tC 22 := tC_same.2.2.2.2.1
  have s41 : tC 41 = tC 21 := tC_same.2.2.2.2.2.1
  unfold jst at hk
  refine sg_235_0 ?_
  rcases hg with q | q | q | q <;> subst q
  · refine cd_f (by decide) (cd_f (by decide) (cd_f (by decide) (c_280 hc (by decide) (fun z _ => cd_f (by decide) ⟨_, _, _, rfl, ?_⟩) (fun z => cd_t rfl (c_280 hc (by decide) (fun z2 _ => cd_f (by decide) ⟨_, _, _, rfl, ?_⟩) (fun z2 => cd_t rfl ⟨_, _, _, rfl, ?_⟩))))))
    · rw [z] at hk; exact hk
    · rw [z2] at hk; exact hk
    · have e0 : jop 1 (pBy t n e) (pWd t n e) = 0 := by unfold jop; rw [if_pos rfl, if_neg z, if_neg z2]
      rw [if_pos e0] at hk; exact hk
  · refine cd_f (by decide) (cd_f (by decide) (cd_t (by decide) (c_280 hc (by decide) (fun z _ => cd_f (by decide) ⟨_, _, _, rfl, ?_⟩) (fun z => cd_t rfl (c_280 hc (by decide) (fun z2 _ => cd_f (by decide) ⟨_, _, _, rfl, ?_⟩) (fun z2 => cd_t rfl ⟨_, _, _, rfl, ?_⟩))))))
    · rw [z] at hk; exact hk
    · rw [z2] at hk; exact hk
    · have e0 : jop 2 (pBy t n e) (pWd t n e) = 0 := by unfold jop; rw [if_neg (by decide), if_pos rfl, if_neg z, if_neg z2]
      rw [if_pos e0] at hk; exact hk
  · refine cd_f (by decide) (cd_t (by decide) (c_279 (s := 41) rfl (okW_i (by decide) (by decide)) hT hc (fun z => cd_f (by decide) ⟨_, _, _, rfl, ?_⟩) (fun z => cd_t rfl ⟨_, _, _, rfl, ?_⟩)))
    · have e0 : jop 4 (pBy t n e) (pWd t n e) = 10 := by unfold jop; rw [if_neg (by decide), if_neg (by decide), if_pos rfl, if_pos (by rw [z, s41])]
      rw [e0] at hk; exact hk
    · have e0 : jop 4 (pBy t n e) (pWd t n e) = 0 := by unfold jop; rw [if_neg (by decide), if_neg (by decide), if_pos rfl, if_neg (by rw [← s41]; exact z)]
      rw [if_pos e0] at hk; exact hk
  · refine cd_t (by decide) (c_279 (s := 40) rfl (okW_i (by decide) (by decide)) hT hc (fun z => cd_f (by decide) ⟨_, _, _, rfl, ?_⟩) (fun z => cd_t rfl ⟨_, _, _, rfl, ?_⟩))
    · have e0 : jop 5 (pBy t n e) (pWd t n e) = 11 := by unfold jop; rw [if_neg (by decide), if_neg (by decide), if_neg (by decide), if_pos (by rw [z, s40])]
      rw [e0] at hk; exact hk
    · have e0 : jop 5 (pBy t n e) (pWd t n e) = 0 := by unfold jop; rw [if_neg (by decide), if_neg (by decide), if_neg (by decide), if_neg (by rw [← s40]; exact z)]
      rw [if_pos e0] at hk; exact hk
/-- something opens -/
theorem c_237 {k : Int → FS → FI → FJ → Prop} {t : Nat → Int} {n e o : Int} {r : Pz} {S : FS} {F : FI} {G : FJ} (hc : CTk F t n e) (hr : o ≠ 6 → r.1 = tE t n e) (ho : o ≤ 6) (good : o ≠ 6 → ∀ F', TF F F' → CTk F' t n (pSp t n r.1) → k 1 S F' G) (bad : o = 6 → k 0 S (cFt F 3 e) G) : calI 2 237 [.inr (.inr (.inl 5)), .inl o] (mm S F G) k nof := by
  refine sg_237_0 (cn_i (fun z => ?_) (fun z => ?_))
  · exact c_adv hc (hr (by omega)) (fun F' f c => ⟨_, _, _, rfl, good (by omega) F' f c⟩)
  · exact c_281 hc (ck_i rfl ⟨_, _, _, rfl, bad (by omega)⟩)
/-- which fact -/
theorem c_240 {k : Int → FS → FI → FJ → Prop} {t : Nat → Int} {n e : Int} {S : FS} {F : FI} {G : FJ} (hT : TX F) (hc : CTk F t n e) (hk : k (fcW (pWd t n e)) S F G) : calI 1 240 [.inr (.inr (.inl 5))] (mm S F G) k nof := by
  obtain ⟨-, -, -, -, -, -, -, s43, s44, s45, s46, s47, s48, s49, s50⟩ := tC_same
  unfold fcW at hk
  refine sg_240_0 (c_279 (s := 43) rfl (okW_i (by decide) (by decide)) hT hc (fun z => cd_f (by decide) ⟨_, _, _, rfl, ?_⟩) (fun z => cd_t rfl ?_))
  · rw [if_pos (by rw [z, s43])] at hk; exact hk
  rw [s43] at z
  rw [if_neg z] at hk
  refine c_279 (s := 44) rfl (okW_i (by decide) (by decide)) hT hc (fun z => cd_f (by decide) ⟨_, _, _, rfl, ?_⟩) (fun z => cd_t rfl ?_)
  · rw [if_pos (by rw [z, s44])] at hk; exact hk
  rw [s44] at z
  rw [if_neg z] at hk
  refine c_279 (s := 45) rfl (okW_i (by decide) (by decide)) hT hc (fun z => cd_f (by decide) ⟨_, _, _, rfl, ?_⟩) (fun z => cd_t rfl ?_)
  · rw [if_pos (by rw [z, s45])] at hk; exact hk
  rw [s45] at z
  rw [if_neg z] at hk
  refine c_279 (s := 46) rfl (okW_i (by decide) (by decide)) hT hc (fun z => cd_f (by decide) ⟨_, _, _, rfl, ?_⟩) (fun z => cd_t rfl ?_)
  · rw [if_pos (by rw [z, s46])] at hk; exact hk
  rw [s46] at z
  rw [if_neg z] at hk
  refine c_279 (s := 47) rfl (okW_i (by decide) (by decide)) hT hc (fun z => cd_f (by decide) ⟨_, _, _, rfl, ?_⟩) (fun z => cd_t rfl ?_)
  · rw [if_pos (by rw [z, s47])] at hk; exact hk
  rw [s47] at z
  rw [if_neg z] at hk
  refine c_279 (s := 48) rfl (okW_i (by decide) (by decide)) hT hc (fun z => cd_f (by decide) ⟨_, _, _, rfl, ?_⟩) (fun z => cd_t rfl ?_)
  · rw [if_pos (by rw [z, s48])] at hk; exact hk
  rw [s48] at z
  rw [if_neg z] at hk
  refine c_279 (s := 49) rfl (okW_i (by decide) (by decide)) hT hc (fun z => cd_f (by decide) ⟨_, _, _, rfl, ?_⟩) (fun z => cd_t rfl ?_)
  · rw [if_pos (by rw [z, s49])] at hk; exact hk
  rw [s49] at z
  rw [if_neg z] at hk
  refine c_279 (s := 50) rfl (okW_i (by decide) (by decide)) hT hc (fun z => cd_f (by decide) ⟨_, _, _, rfl, ?_⟩) (fun z => cd_t rfl ⟨_, _, _, rfl, ?_⟩)
  · rw [if_pos (by rw [z, s50])] at hk; exact hk
  rw [s50] at z
  rw [if_neg z] at hk
  exact hk
/-- the token at an operator ends where the operator does -/
theorem jq_tE {t : Nat → Int} {n e : Int} {g : Nat} (hg : g = 1 ∨ g = 2 ∨ g = 4 ∨ g = 5) (hb : 0 ≤ e) (hn : e ≤ n) (h : jop g (pBy t n e) (pWd t n e) ≠ 0) : jq t n g e = tE t n e := by
  have sign : ∀ c, pBy t n e = c → c ≠ 0 → ¬ (48 ≤ c ∧ c ≤ 57) → ¬ (97 ≤ c ∧ c ≤ 122) → tE t n e = e + 1 := by
    intro c hc h0 h1 h2
    have lt := pBy_n hc h0
    unfold pBy at hc
    rw [if_pos lt] at hc
    unfold tE
    rw [if_neg (by omega), hc, if_neg h1, if_neg h2]
  unfold jop at h
  unfold jq
  rcases hg with q | q | q | q <;> subst q
  · rw [if_pos (by decide)]
    rw [if_pos rfl] at h
    by_cases z : pBy t n e = 42
    · exact (sign 42 z (by decide) (by decide) (by decide)).symm
    · rw [if_neg z] at h
      by_cases z2 : pBy t n e = 47
      · exact (sign 47 z2 (by decide) (by decide) (by decide)).symm
      · rw [if_neg z2] at h
        exact absurd rfl h
  · rw [if_pos (by decide)]
    rw [if_neg (by decide), if_pos rfl] at h
    by_cases z : pBy t n e = 43
    · exact (sign 43 z (by decide) (by decide) (by decide)).symm
    · rw [if_neg z] at h
      by_cases z2 : pBy t n e = 45
      · exact (sign 45 z2 (by decide) (by decide) (by decide)).symm
      · rw [if_neg z2] at h
        exact absurd rfl h
  · rw [if_neg (by decide)]
    rw [if_neg (by decide), if_neg (by decide), if_pos rfl] at h
    by_cases z : pWd t n e = tC 21
    · exact (tE_w (okW_i (s := 21) (by decide) (by decide)) hb hn z).symm
    · rw [if_neg z] at h
      exact absurd rfl h
  · rw [if_neg (by decide)]
    rw [if_neg (by decide), if_neg (by decide), if_neg (by decide)] at h
    by_cases z : pWd t n e = tC 22
    · exact (tE_w (okW_i (s := 22) (by decide) (by decide)) hb hn z).symm
    · rw [if_neg z] at h
      exact absurd rfl h
theorem tS_2 {t : Nat → Int} {n e : Int} : tS t n e = 2 ↔ 48 ≤ pBy t n e ∧ pBy t n e ≤ 57 := by
  unfold tS pBy
  by_cases q : n ≤ e
  · rw [if_pos q, if_neg (by omega)]
    exact ⟨fun h => absurd h (by decide), fun h => by omega⟩
  · rw [if_neg q, if_pos (show e < n by omega)]
    by_cases d : 48 ≤ t e.toNat ∧ t e.toNat ≤ 57
    · rw [if_pos d]
      exact ⟨fun _ => d, fun _ => rfl⟩
    · rw [if_neg d]
      refine ⟨fun h => ?_, fun h => absurd h d⟩
      split at h <;> exact absurd h (by decide)
