/-! ===== the class's cells, and its land's leaves ===== -/
abbrev oL (a : Nat) : Prop := a = 41 ∨ a = 51
abbrev oW (b : Nat) : Prop := b = 61 ∨ b = 67
abbrev oC (c : Nat) : Prop := c = 6 ∨ c = 11
abbrev oT (d : Nat) : Prop := d = 16 ∨ d = 19
abbrev oP (e : Nat) : Prop := e = 31 ∨ e = 73 ∨ e = 81 ∨ e = 89
theorem lk {a : Nat} (h : oL a) : kk a = (0, 0) := by rcases h with e | e <;> subst e <;> rfl
theorem lk1 {a : Nat} (h : oL a) : kk (a + 1) = (1, 12) := by rcases h with e | e <;> subst e <;> rfl
theorem lk2 {a : Nat} (h : oL a) : kk (a + 2) = (1, 24) := by rcases h with e | e <;> subst e <;> rfl
theorem lk3 {a : Nat} (h : oL a) : kk (a + 3) = (1, 24) := by rcases h with e | e <;> subst e <;> rfl
theorem lk4 {a : Nat} (h : oL a) : kk (a + 4) = (1, 576) := by rcases h with e | e <;> subst e <;> rfl
theorem lk5 {a : Nat} (h : oL a) : kk (a + 5) = (1, 24) := by rcases h with e | e <;> subst e <;> rfl
theorem lk6 {a : Nat} (h : oL a) : kk (a + 6) = (1, 5) := by rcases h with e | e <;> subst e <;> rfl
theorem lk7 {a : Nat} (h : oL a) : kk (a + 7) = (1, 60) := by rcases h with e | e <;> subst e <;> rfl
theorem lk8 {a : Nat} (h : oL a) : kk (a + 8) = (2, 25) := by rcases h with e | e <;> subst e <;> rfl
theorem lk9 {a : Nat} (h : oL a) : kk (a + 9) = (1, 288) := by rcases h with e | e <;> subst e <;> rfl
theorem lr0 {a : Nat} (h : oL a) : rr a 0 = a + 1 := by rcases h with e | e <;> subst e <;> rfl
theorem lr1 {a : Nat} (h : oL a) : rr a 1 = a + 2 := by rcases h with e | e <;> subst e <;> rfl
theorem lr2 {a : Nat} (h : oL a) : rr a 2 = a + 3 := by rcases h with e | e <;> subst e <;> rfl
theorem lr3 {a : Nat} (h : oL a) : rr a 3 = a + 4 := by rcases h with e | e <;> subst e <;> rfl
theorem lr4 {a : Nat} (h : oL a) : rr a 4 = a + 5 := by rcases h with e | e <;> subst e <;> rfl
theorem lr5 {a : Nat} (h : oL a) : rr a 5 = a + 6 := by rcases h with e | e <;> subst e <;> rfl
theorem lr6 {a : Nat} (h : oL a) : rr a 6 = a + 7 := by rcases h with e | e <;> subst e <;> rfl
theorem lr7 {a : Nat} (h : oL a) : rr a 7 = a + 8 := by rcases h with e | e <;> subst e <;> rfl
theorem lr8 {a : Nat} (h : oL a) : rr a 8 = a + 9 := by rcases h with e | e <;> subst e <;> rfl
theorem wk {b : Nat} (h : oW b) : kk b = (0, 2) := by rcases h with e | e <;> subst e <;> rfl
theorem wk1 {b : Nat} (h : oW b) : kk (b + 1) = (1, 10) := by rcases h with e | e <;> subst e <;> rfl
theorem wk2 {b : Nat} (h : oW b) : kk (b + 2) = (1, 11) := by rcases h with e | e <;> subst e <;> rfl
theorem wk3 {b : Nat} (h : oW b) : kk (b + 3) = (1, 600) := by rcases h with e | e <;> subst e <;> rfl
theorem wk4 {b : Nat} (h : oW b) : kk (b + 4) = (1, 8) := by rcases h with e | e <;> subst e <;> rfl
theorem wk5 {b : Nat} (h : oW b) : kk (b + 5) = (1, 64) := by rcases h with e | e <;> subst e <;> rfl
theorem wr0 {b : Nat} (h : oW b) : rr b 0 = b + 1 := by rcases h with e | e <;> subst e <;> rfl
theorem wr1 {b : Nat} (h : oW b) : rr b 1 = b + 2 := by rcases h with e | e <;> subst e <;> rfl
theorem wr2 {b : Nat} (h : oW b) : rr b 2 = b + 3 := by rcases h with e | e <;> subst e <;> rfl
theorem wr3 {b : Nat} (h : oW b) : rr b 3 = b + 4 := by rcases h with e | e <;> subst e <;> rfl
theorem wr4 {b : Nat} (h : oW b) : rr b 4 = b + 5 := by rcases h with e | e <;> subst e <;> rfl
theorem ck_ {c : Nat} (h : oC c) : kk c = (0, 5) := by rcases h with e | e <;> subst e <;> rfl
theorem ck1 {c : Nat} (h : oC c) : kk (c + 1) = (1, 24) := by rcases h with e | e <;> subst e <;> rfl
theorem ck2 {c : Nat} (h : oC c) : kk (c + 2) = (1, 5) := by rcases h with e | e <;> subst e <;> rfl
theorem ck3 {c : Nat} (h : oC c) : kk (c + 3) = (1, 24) := by rcases h with e | e <;> subst e <;> rfl
theorem ck4 {c : Nat} (h : oC c) : kk (c + 4) = (1, 5) := by rcases h with e | e <;> subst e <;> rfl
theorem cr0 {c : Nat} (h : oC c) : rr c 0 = c + 1 := by rcases h with e | e <;> subst e <;> rfl
theorem cr1 {c : Nat} (h : oC c) : rr c 1 = c + 2 := by rcases h with e | e <;> subst e <;> rfl
theorem cr2 {c : Nat} (h : oC c) : rr c 2 = c + 3 := by rcases h with e | e <;> subst e <;> rfl
theorem cr3 {c : Nat} (h : oC c) : rr c 3 = c + 4 := by rcases h with e | e <;> subst e <;> rfl
def tN (d : Nat) : Nat := if d = 16 then 46800 else 3744
def tM (d : Nat) : Nat := if d = 16 then 3900 else 312
theorem tk {d : Nat} (h : oT d) : kk d = (0, 7) := by rcases h with e | e <;> subst e <;> rfl
theorem tk1 {d : Nat} (h : oT d) : kk (d + 1) = (2, tN d) := by rcases h with e | e <;> subst e <;> rfl
theorem tk2 {d : Nat} (h : oT d) : kk (d + 2) = (1, tM d) := by rcases h with e | e <;> subst e <;> rfl
theorem tr1 {d : Nat} (h : oT d) : rr d 1 = d + 1 := by rcases h with e | e <;> subst e <;> rfl
theorem tr2 {d : Nat} (h : oT d) : rr d 2 = d + 2 := by rcases h with e | e <;> subst e <;> rfl
theorem pk_ {e : Nat} (h : oP e) : kk e = (0, 4) := by rcases h with q | q | q | q <;> subst q <;> rfl
theorem pk1 {e : Nat} (h : oP e) : kk (e + 1) = (1, 5) := by rcases h with q | q | q | q <;> subst q <;> rfl
theorem pk2 {e : Nat} (h : oP e) : kk (e + 2) = (1, 24) := by rcases h with q | q | q | q <;> subst q <;> rfl
theorem pk3 {e : Nat} (h : oP e) : kk (e + 3) = (1, 24) := by rcases h with q | q | q | q <;> subst q <;> rfl
theorem pk4 {e : Nat} (h : oP e) : kk (e + 4) = (1, 24) := by rcases h with q | q | q | q <;> subst q <;> rfl
theorem pk5 {e : Nat} (h : oP e) : kk (e + 5) = (1, 25) := by rcases h with q | q | q | q <;> subst q <;> rfl
theorem pk6 {e : Nat} (h : oP e) : kk (e + 6) = (1, 25) := by rcases h with q | q | q | q <;> subst q <;> rfl
theorem pk7 {e : Nat} (h : oP e) : kk (e + 7) = (1, 25) := by rcases h with q | q | q | q <;> subst q <;> rfl
theorem pr0 {e : Nat} (h : oP e) : rr e 0 = e + 1 := by rcases h with q | q | q | q <;> subst q <;> rfl
theorem pr1 {e : Nat} (h : oP e) : rr e 1 = e + 2 := by rcases h with q | q | q | q <;> subst q <;> rfl
theorem pr2 {e : Nat} (h : oP e) : rr e 2 = e + 3 := by rcases h with q | q | q | q <;> subst q <;> rfl
theorem pr3 {e : Nat} (h : oP e) : rr e 3 = e + 4 := by rcases h with q | q | q | q <;> subst q <;> rfl
theorem pr4 {e : Nat} (h : oP e) : rr e 4 = e + 5 := by rcases h with q | q | q | q <;> subst q <;> rfl
theorem pr5 {e : Nat} (h : oP e) : rr e 5 = e + 6 := by rcases h with q | q | q | q <;> subst q <;> rfl
theorem pr6 {e : Nat} (h : oP e) : rr e 6 = e + 7 := by rcases h with q | q | q | q <;> subst q <;> rfl
/-- a land as the class keeps it in the cells from a on -/
def LR (F : FI) (G : FJ) (a : Nat) (l : Nat → Int) : Prop := (F a 9 = l 0 ∧ F a 10 = l 1 ∧ F a 11 = l 2 ∧ F a 12 = l 3 ∧ F a 13 = l 4 ∧ F a 14 = l 5 ∧ F a 15 = l 6) ∧
  (∀ p : Int, 0 ≤ p → p < l 0 → F (a + 1) p.toNat = l (7 + p).toNat) ∧
  (∀ w h : Int, 0 ≤ w → w < l 1 → 0 ≤ h → h < 24 → F (a + 4) (w * 24 + h).toNat = sSn l w h) ∧
  (∀ h : Int, 0 ≤ h → h < 24 → F (a + 5) h.toNat = sSy l h) ∧
  (∀ k : Int, 0 ≤ k → k < l 2 → F (a + 6) k.toNat = l (67 + k).toNat) ∧
  (∀ k p : Int, 0 ≤ k → k < l 2 → 0 ≤ p → p < l 0 → F (a + 7) (k * 12 + p).toNat = l (72 + 12 * k + p).toNat) ∧
  (∀ h : Int, 0 ≤ h → h ≤ l 3 → G (a + 8) h.toNat = sScH l h) ∧
  (∀ p w : Int, 0 ≤ p → p < l 0 → 0 ≤ w → w < l 1 → F (a + 9) (p * 24 + w).toNat = if sAt l w p = 1 then sOth l w p else -1)
theorem LR_c {F F' : FI} {G G' : FJ} {a : Nat} {l : Nat → Int} (h : LR F G a l) (hF : ∀ i, i < 10 → F' (a + i) = F (a + i)) (hG : G' (a + 8) = G (a + 8)) : LR F' G' a l := by
  have h0 := hF 0 (by decide)
  rw [Nat.add_zero] at h0
  unfold LR at h ⊢
  rw [h0, hF 1 (by decide), hF 4 (by decide), hF 5 (by decide), hF 6 (by decide), hF 7 (by decide), hF 9 (by decide), hG]
  exact h
/-- into how many shares an hour is cut -/
noncomputable def sSh (l : Nat → Int) (h : Int) : Int := if sSy l h = 1 then 16 else 1
theorem c_204 {k : Int → FS → FI → FJ → Prop} {a : Nat} {l : Nat → Int} {x1 : Int} {S : FS} {F : FI} {G : FJ} (ha : oL a) (hr : LR F G a l) (h0 : 0 ≤ x1) (h1 : x1 < 24) (hk : ∀ v, v = sSh l x1 → k v S F G) :
    calI 0 204 [.inr (.inr (.inl a)), .inl x1] (mm S F G) k nof := by
  have h5 := hr.2.2.2.1 x1 h0 h1
  have h6 := sSy_01 l x1
  refine sg_204_0 ?_
  simp only [lk ha, lr4 ha, lk5 ha]
  rw [h5]
  refine ck_i rfl (ck_i rfl (ck_i (jb_i h0 (by omega)) ?_))
  refine cn_i (fun g => ?_) (fun g => ?_)
  · exact ⟨_, _, _, rfl, hk _ (by unfold sSh; rw [if_neg (by omega)])⟩
  · exact ⟨_, _, _, rfl, hk _ (by unfold sSh; rw [if_pos (by omega)])⟩
theorem c_206 {k : Int → FS → FI → FJ → Prop} {a : Nat} {l : Nat → Int} {x1 x2 : Int} {S : FS} {F : FI} {G : FJ} (ha : oL a) (hr : LR F G a l) (hw : l 1 ≤ 24) (h0 : 0 ≤ x1) (h1 : x1 < l 1) (h2 : 0 ≤ x2) (h3 : x2 < 24) (hk : ∀ v, v = sSn l x1 x2 → k v S F G) :
    calI 0 206 [.inr (.inr (.inl a)), .inl x1, .inl x2] (mm S F G) k nof := by
  have h5 := hr.2.2.1 x1 x2 h0 h1 h2 h3
  refine sg_206_0 ?_
  simp only [lk ha, lr3 ha, lk4 ha]
  try simp (disch := omega) only [wr_id]
  rw [h5]
  exact ck_i rfl (ck_i rfl (ck_i (jb_i (by omega) (by omega)) ⟨_, _, _, rfl, hk _ rfl⟩))
theorem c_207 {k : Int → FS → FI → FJ → Prop} {a : Nat} {l : Nat → Int} {x1 x2 x3 : Int} {S : FS} {F : FI} {G : FJ} (ha : oL a) (hr : LR F G a l) (hp : l 0 ≤ 12) (h0 : 0 ≤ x1) (h1 : x1 < l 0) (h2 : 0 ≤ x2) (h3 : x2 ≤ 12) (hk : ∀ v, v = sAf l x3 x1 x2 → k v S F G) :
    calI 0 207 [.inr (.inr (.inl a)), .inl x1, .inl x2, .inl x3] (mm S F G) k nof := by
  have h5 := hr.2.1 x1 h0 h1
  refine sg_207_0 ?_
  simp only [lk ha, lr0 ha, lk1 ha]
  try simp (disch := omega) only [wr_id]
  rw [h5]
  refine ck_i rfl (ck_i rfl (ck_i (jb_i (by omega) (by omega)) (cn_i (fun g => ?_) (fun g => ?_))))
  · exact ⟨_, _, _, rfl, hk _ (by unfold sAf; rw [if_pos g])⟩
  · exact ⟨_, _, _, rfl, hk _ (by unfold sAf; rw [if_neg g])⟩
theorem c_208 {k : Int → FS → FI → FJ → Prop} {a : Nat} {l : Nat → Int} {x1 x2 x3 : Int} {S : FS} {F : FI} {G : FJ} (ha : oL a) (hr : LR F G a l) (hp : l 0 ≤ 12) (h0 : 0 ≤ x1) (h1 : x1 < l 0) (h2 : x2 ≤ l 3) (hk : ∀ v, v = sEnd l x2 x1 x3 → k v S F G) :
    calI 0 208 [.inr (.inr (.inl a)), .inl x1, .inl x2, .inl x3] (mm S F G) k nof := by
  have h5 := hr.2.1 x1 h0 h1
  have h6 := hr.1.2.2.2.1
  refine sg_208_0 ?_
  simp only [lk ha, lr0 ha, lk1 ha]
  rw [h5, h6]
  refine ck_i rfl (ck_i rfl (ck_i (jb_i (by omega) (by omega)) (cn_i (fun g => ?_) (fun g => cn_i (fun g2 => ?_) (fun g2 => ck_i rfl (cn_i (fun g3 => ?_) (fun g3 => ?_)))))))
  · exact ⟨_, _, _, rfl, hk _ (by unfold sEnd; rw [if_pos g])⟩
  · exact ⟨_, _, _, rfl, hk _ (by unfold sEnd; rw [if_neg g, if_pos g2])⟩
  · exact ⟨_, _, _, rfl, hk _ (by unfold sEnd; rw [if_neg g, if_neg g2, if_neg (by omega)])⟩
  · exact ⟨_, _, _, rfl, hk _ (by unfold sEnd; rw [if_neg g, if_neg g2, if_pos (by omega)])⟩
theorem c_209 {k : Int → FS → FI → FJ → Prop} {a : Nat} {l : Nat → Int} {x1 x2 x3 x4 : Int} {S : FS} {F : FI} {G : FJ} (ha : oL a) (hr : LR F G a l) (hv : LV l) (h0 : 0 ≤ x1) (h1 : x1 < l 2) (h2 : 0 ≤ x2) (h3 : x2 < l 0) (h4 : 0 ≤ x3) (h5 : x3 ≤ l 3)
    (hk : ∀ v, v = (if x4 = 2 then -(l 5) else l (72 + 12 * x1 + x2).toNat) - x3 * l (67 + x1).toNat → k v S F G) : calL 0 209 [.inr (.inr (.inl a)), .inl x1, .inl x2, .inl x3, .inl x4] (mm S F G) k nof := by
  obtain ⟨e1, e2, e3, e4⟩ := sEv_0 (e := x4) hv h0 h1 h4 h5 h2 h3
  obtain ⟨⟨hv1, hv2⟩, ⟨hv3, hv4⟩, ⟨hv5, hv6⟩, ⟨hv7, hv8⟩, ⟨hv9, hv10⟩, ⟨hv11, hv12⟩, ⟨hv13, hv14⟩, hvw, hvs, hvk, hvc, hvx⟩ := id hv
  have e5 := hr.2.2.2.2.1 x1 h0 h1
  have e6 := hr.2.2.2.2.2.1 x1 x2 h0 h1 h2 h3
  have e7 := hr.1.2.2.2.2.2.1
  refine sg_209_0 ?_
  simp only [lk ha, lr5 ha, lk6 ha, lr6 ha, lk7 ha]
  have z : wr (wr (x1 * 12) + x2) = x1 * 12 + x2 := by
    try simp (disch := omega) only [wr_id]
  rw [z, e5, e6, e7, wr_id (a := x3 * _) (by omega) (by omega), wr_id (a := -(l 5)) (by omega) (by omega)]
  refine cn_i (fun g => ?_) (fun g => ?_)
  · rw [if_pos g] at hk e3 e4
    refine ck_i rfl (ck_i rfl (ck_i rfl (ck_i (jb_i (by omega) (by omega)) ⟨_, _, _, rfl, hk _ ?_⟩)))
    exact wr_id (by omega) (by omega)
  · rw [if_neg g] at hk e3 e4
    refine ck_i rfl (ck_i rfl (ck_i (jb_i (by omega) (by omega)) (ck_i rfl (ck_i rfl (ck_i (jb_i (by omega) (by omega)) ⟨_, _, _, rfl, hk _ ?_⟩)))))
    exact wr_id (by omega) (by omega)
/-- where a state stands in a table -/
def sp (d : Nat) (h p n : Int) : Int := ((if d = 16 then h else h % 2) * 12 + p) * 13 + n
def tW (d : Nat) : Int := if d = 16 then 1 else 0
theorem sp_b {d : Nat} {h p n : Int} (hd : oT d) (h0 : 0 ≤ h) (h1 : h ≤ 24) (h2 : 0 ≤ p) (h3 : p < 12) (h4 : 0 ≤ n) (h5 : n ≤ 12) : 0 ≤ sp d h p n ∧ sp d h p n < (tM d : Int) ∧ sp d h p n * 12 + 11 < (tN d : Int) ∧ sp d h p n < 3900 := by
  unfold sp tM tN
  rcases hd with e | e <;> subst e <;> simp <;> omega
theorem an_1 {h : Int} (h0 : 0 ≤ h) : an h 1 = h % 2 := by
  obtain ⟨n, rfl⟩ := Int.eq_ofNat_of_zero_le h0
  rw [show (1 : Int) = ((1 : Nat) : Int) from rfl, an_n (by decide), Nat.and_one_is_mod]
  omega
theorem c_271 {k : Int → FS → FI → FJ → Prop} {d : Nat} {x1 x2 x3 : Int} {S : FS} {F : FI} {G : FJ} (hd : oT d) (hw : F d 0 = tW d) (h0 : 0 ≤ x1) (h1 : x1 < 12) (h2 : 0 ≤ x2) (h3 : x2 ≤ 25) (h4 : 0 ≤ x3) (h5 : x3 ≤ 12) (hk : ∀ v, v = sp d x2 x1 x3 → k v S F G) :
    calI 0 271 [.inr (.inr (.inl d)), .inl x1, .inl x2, .inl x3] (mm S F G) k nof := by
  refine sg_271_0 ?_
  simp only [tk hd, hw, an_1 h2]
  have hm : 0 ≤ x2 % 2 ∧ x2 % 2 < 2 := by omega
  try simp (disch := omega) only [wr_id]
  rcases hd with e | e
  · subst e
    refine ck_i rfl (cn_i (fun g => absurd g (by decide)) (fun g => ⟨_, _, _, rfl, hk _ ?_⟩))
    unfold sp
    rw [if_pos rfl]
    omega
  · subst e
    refine ck_i rfl (cn_i (fun g => ⟨_, _, _, rfl, hk _ ?_⟩) (fun g => absurd rfl g))
    unfold sp
    rw [if_neg (by decide)]
    omega
