/-! ===== the reference refuses ===== -/
theorem cn_1 {A B : Prop} (h : B) : cnd (decide ((1 : Int) = 0)) A B := h
theorem cn_0 {A B : Prop} (h : A) : cnd (decide ((0 : Int) = 0)) A B := h
/-- refused: by a code of the call's own, counted by its kind -/
def rfs (F : FI) (code : Int) (kind : Nat) : FI := u2 (u2 F 97 0 code) 98 kind (wr (F 98 kind + 1))
theorem c_70 {k : Int → FS → FI → FJ → Prop} {x0 x1 x2 : Int} {S : FS} {F : FI} {G : FJ} (h1 : x1 ≤ x0 ∧ x0 ≤ x2 → k 1 S F G) (h2 : ¬ (x1 ≤ x0 ∧ x0 ≤ x2) → k 0 S F G) : calI 0 70 [.inl x0, .inl x1, .inl x2] (mm S F G) k nof := by
  refine sg_70_0 ?_
  refine cn_i (fun a => ?_) (fun a => cn_i (fun b => ?_) (fun b => ?_))
  · exact ⟨_, _, _, rfl, h2 (by omega)⟩
  · exact ⟨_, _, _, rfl, h2 (by omega)⟩
  · exact ⟨_, _, _, rfl, h1 (by omega)⟩
theorem c_69 {k : Int → FS → FI → FJ → Prop} {x1 x2 x3 : Int} {S : FS} {F : FI} {G : FJ} (h0 : F 97 0 = 0) (hc : x2 ≠ 0) (h3 : 0 ≤ x3) (h4 : x3 < 4) (h1 : x1 ≠ 0 → k 1 S F G) (h2 : x1 = 0 → k 0 S (rfs F x2 x3.toNat) G) :
    calI 0 69 [.inr (.inr (.inl 97)), .inl x1, .inl x2, .inl x3] (mm S F G) k nof := by
  refine sg_69_0 ?_
  refine cn_i (fun a => ?_) (fun a => ?_)
  · refine cn_i (fun b => ?_) (fun b => absurd h0 b)
    refine ck_i (by (first | exact jb_i (by (first | assumption | omega | (simp (disch := omega) only [wr_id]; omega))) (by (first | assumption | omega | (simp (disch := omega) only [wr_id]; omega))) | exact jo_i (by omega) | exact jz_i (by omega) | rfl | (simp only [*]; first | rfl | exact jb_i (by (first | assumption | omega | (simp (disch := omega) only [wr_id]; omega))) (by (first | assumption | omega | (simp (disch := omega) only [wr_id]; omega)))))) (ck_i (by (first | exact jb_i (by (first | assumption | omega | (simp (disch := omega) only [wr_id]; omega))) (by (first | assumption | omega | (simp (disch := omega) only [wr_id]; omega))) | exact jo_i (by omega) | exact jz_i (by omega) | rfl | (simp only [*]; first | rfl | exact jb_i (by (first | assumption | omega | (simp (disch := omega) only [wr_id]; omega))) (by (first | assumption | omega | (simp (disch := omega) only [wr_id]; omega)))))) (cn_i (fun d => absurd d hc) (fun d => ?_)))
    exact ⟨_, _, _, rfl, h2 a⟩
  · refine cn_i (fun b => ?_) (fun b => absurd h0 b)
    exact ⟨_, _, _, rfl, h1 a⟩
theorem c_109 {k : Int → FS → FI → FJ → Prop} {x1 : Int} {S : FS} {F : FI} {G : FJ} (h0 : F 97 0 = 0) (hc : x1 ≠ 0) (h1 : F 97 12 ≠ 0 → k 1 S F G) (h2 : F 97 12 = 0 → k 0 S (rfs F x1 3) G) :
    calI 1 109 [.inr (.inr (.inl 97)), .inl x1] (mm S F G) k nof := by
  refine sg_109_0 ?_
  exact c_69 h0 hc (by decide) (by decide) (fun a => ck_i rfl ⟨_, _, _, rfl, h1 a⟩) (fun a => ck_i rfl ⟨_, _, _, rfl, h2 a⟩)
theorem c_110 {k : Int → FS → FI → FJ → Prop} {x1 x2 : Int} {S : FS} {F : FI} {G : FJ} (h0 : F 97 0 = 0) (hc : x2 ≠ 0) (hb : 0 ≤ F 100 2) (hb2 : F 100 2 ≤ 5) (h1 : 0 ≤ x1 → x1 < F 100 2 → k 1 S F G) (h2 : ¬ (0 ≤ x1 ∧ x1 < F 100 2) → k 0 S (rfs F x2 0) G) :
    calI 1 110 [.inr (.inr (.inl 97)), .inl x1, .inl x2] (mm S F G) k nof := by
  refine sg_110_0 ?_
  try simp (disch := omega) only [wr_id]
  refine c_70 (fun a => ?_) (fun a => ?_)
  · exact c_69 h0 hc (by decide) (by decide) (fun b => ck_i rfl ⟨_, _, _, rfl, h1 (by omega) (by omega)⟩) (fun b => absurd b (by decide))
  · exact c_69 h0 hc (by decide) (by decide) (fun b => absurd rfl b) (fun b => ck_i rfl ⟨_, _, _, rfl, h2 (by omega)⟩)
theorem c_111 {k : Int → FS → FI → FJ → Prop} {x1 x2 : Int} {S : FS} {F : FI} {G : FJ} (h0 : F 97 0 = 0) (hc : x2 ≠ 0) (hb : 0 ≤ F 100 2) (hb2 : F 100 2 ≤ 5) (h1 : -1 ≤ x1 → x1 < F 100 2 → k 1 S F G) (h2 : ¬ (-1 ≤ x1 ∧ x1 < F 100 2) → k 0 S (rfs F x2 0) G) :
    calI 2 111 [.inr (.inr (.inl 97)), .inl x1, .inl x2] (mm S F G) k nof := by
  refine sg_111_0 ?_
  refine cn_i (fun a => ?_) (fun a => ?_)
  · exact ⟨_, _, _, rfl, h1 (by omega) (by omega)⟩
  · refine c_110 h0 hc hb hb2 (fun b c => cn_1 ⟨_, _, _, rfl, h1 (by omega) c⟩) (fun b => cn_0 ⟨_, _, _, rfl, h2 (by omega)⟩)
theorem c_112 {k : Int → FS → FI → FJ → Prop} {x0 : Int} {S : FS} {F : FI} {G : FJ} (h1 : 0 ≤ x0 → x0 < 24 → k 1 S F G) (h2 : ¬ (0 ≤ x0 ∧ x0 < 24) → k 0 S F G) : calI 1 112 [.inl x0] (mm S F G) k nof := by
  refine sg_112_0 ?_
  exact c_70 (fun a => ck_i rfl ⟨_, _, _, rfl, h1 (by omega) (by omega)⟩) (fun a => ck_i rfl ⟨_, _, _, rfl, h2 (by omega)⟩)
def isSt (l : Nat → Int) (p h n : Int) : Prop := 0 ≤ p ∧ p < l 0 ∧ 0 ≤ h ∧ h ≤ l 3 ∧ 0 ≤ n ∧ n ≤ l 4
theorem c_149 {k : Int → FS → FI → FJ → Prop} {x1 x2 x3 : Int} {S : FS} {F : FI} {G : FJ} (hb : 0 ≤ F 100 0) (hb2 : F 100 0 ≤ 12) (h1 : isSt (F 100) x1 x2 x3 → k 1 S F G) (h2 : ¬ isSt (F 100) x1 x2 x3 → k 0 S F G) :
    calI 1 149 [.inr (.inr (.inl 97)), .inl x1, .inl x2, .inl x3] (mm S F G) k nof := by
  refine sg_149_0 ?_
  try simp (disch := omega) only [wr_id]
  unfold isSt at h1 h2
  refine c_70 (fun a => cn_1 (c_70 (fun b => cn_1 (c_70 (fun c => cn_1 ?_) (fun c => cn_0 ?_))) (fun b => cn_0 ?_))) (fun a => cn_0 ?_)
  · exact ⟨_, _, _, rfl, h1 (by omega)⟩
  · exact ⟨_, _, _, rfl, h2 (by omega)⟩
  · exact ⟨_, _, _, rfl, h2 (by omega)⟩
  · exact ⟨_, _, _, rfl, h2 (by omega)⟩
theorem c_165 {k : Int → FS → FI → FJ → Prop} {x1 : Int} {S : FS} {F : FI} {G : FJ} (hb : 0 ≤ F 100 3) (hb2 : F 100 3 ≤ 24) (h1 : 0 ≤ x1 → x1 < F 100 3 → k 1 S F G) (h2 : ¬ (0 ≤ x1 ∧ x1 < F 100 3) → k 0 S F G) : calI 1 165 [.inr (.inr (.inl 97)), .inl x1] (mm S F G) k nof := by
  refine sg_165_0 ?_
  try simp (disch := omega) only [wr_id]
  exact c_70 (fun a => ck_i rfl ⟨_, _, _, rfl, h1 (by omega) (by omega)⟩) (fun a => ck_i rfl ⟨_, _, _, rfl, h2 (by omega)⟩)
/-! what is told, and how it stands -/
def sLd (l s : Nat → Int) (h : Int) : Int := if s (29 + h).toNat = -1 then Int.tmod (Int.tdiv h (s 53)) (l 2) else s (29 + h).toNat
def SV (l s : Nat → Int) : Prop := (∀ k : Int, 0 ≤ k → k < 5 → 0 ≤ s k.toNat ∧ s k.toNat ≤ 5) ∧ (∀ h : Int, 0 ≤ h → h < 24 → 0 ≤ s (5 + h).toNat ∧ s (5 + h).toNat ≤ l 1) ∧ (∀ h : Int, 0 ≤ h → h < 24 → -1 ≤ s (29 + h).toNat ∧ s (29 + h).toNat < l 2) ∧
  (1 ≤ s 53 ∧ s 53 ≤ 12) ∧ (0 ≤ s 54 ∧ s 54 ≤ 24) ∧ (∀ i : Int, 0 ≤ i → i < s 54 → 0 ≤ s (55 + i).toNat ∧ s (55 + i).toNat ≤ l 1)
theorem div_b {h d : Int} (h0 : 0 ≤ h) (hd : 1 ≤ d) : 0 ≤ Int.tdiv h d ∧ Int.tdiv h d ≤ h := by
  rw [Int.tdiv_eq_ediv_of_nonneg h0]
  exact ⟨Int.ediv_nonneg h0 (by omega), Int.ediv_le_self _ h0⟩
theorem mod_b {a d : Int} (h0 : 0 ≤ a) (hd : 1 ≤ d) : 0 ≤ Int.tmod a d ∧ Int.tmod a d < d := by
  rw [Int.tmod_eq_emod_of_nonneg h0]
  exact ⟨Int.emod_nonneg _ (by omega), Int.emod_lt_of_pos _ (by omega)⟩
theorem sLd_b {l s : Nat → Int} {h : Int} (hv : LV l) (hs : SV l s) (h0 : 0 ≤ h) (h1 : h < 24) : 0 ≤ sLd l s h ∧ sLd l s h < l 2 := by
  obtain ⟨⟨hv1, hv2⟩, ⟨hv3, hv4⟩, ⟨hv5, hv6⟩, ⟨hv7, hv8⟩, ⟨hv9, hv10⟩, ⟨hv11, hv12⟩, ⟨hv13, hv14⟩, hvw, hvs, hvk, hvc, hvx⟩ := id hv
  obtain ⟨-, -, s3, ⟨s4, s5⟩, -, -⟩ := hs
  have t := s3 h h0 h1
  have d := div_b h0 s4
  have m := mod_b (d := l 2) d.1 hv5
  unfold sLd
  split <;> omega
theorem c_121 {k : Int → FS → FI → FJ → Prop} {x1 : Int} {S : FS} {F : FI} {G : FJ} (hv : LV (F 100)) (hs : SV (F 100) (F 112)) (h0 : 0 ≤ x1) (h1 : x1 < 24) (hk : ∀ v, v = sLd (F 100) (F 112) x1 → k v S F G) : calI 0 121 [.inr (.inr (.inl 97)), .inl x1] (mm S F G) k nof := by
  obtain ⟨⟨hv1, hv2⟩, ⟨hv3, hv4⟩, ⟨hv5, hv6⟩, ⟨hv7, hv8⟩, ⟨hv9, hv10⟩, ⟨hv11, hv12⟩, ⟨hv13, hv14⟩, hvw, hvs, hvk, hvc, hvx⟩ := id hv
  obtain ⟨-, -, s3, ⟨s4, s5⟩, -, -⟩ := id hs
  have d := div_b h0 s4
  refine sg_121_0 ?_
  try simp (disch := omega) only [wr_id]
  refine ck_i (by (first | exact jb_i (by (first | assumption | omega | (simp (disch := omega) only [wr_id]; omega))) (by (first | assumption | omega | (simp (disch := omega) only [wr_id]; omega))) | exact jo_i (by omega) | exact jz_i (by omega) | rfl | (simp only [*]; first | rfl | exact jb_i (by (first | assumption | omega | (simp (disch := omega) only [wr_id]; omega))) (by (first | assumption | omega | (simp (disch := omega) only [wr_id]; omega)))))) (cn_i (fun g => ?_) (fun g => ?_))
  · refine ck_i (jz_i (by omega)) (ck_i (jz_i (by omega)) ?_)
    refine ⟨_, _, _, rfl, hk _ ?_⟩
    unfold sLd
    rw [if_pos g]
  · refine ck_i (by (first | exact jb_i (by (first | assumption | omega | (simp (disch := omega) only [wr_id]; omega))) (by (first | assumption | omega | (simp (disch := omega) only [wr_id]; omega))) | exact jo_i (by omega) | exact jz_i (by omega) | rfl | (simp only [*]; first | rfl | exact jb_i (by (first | assumption | omega | (simp (disch := omega) only [wr_id]; omega))) (by (first | assumption | omega | (simp (disch := omega) only [wr_id]; omega)))))) ?_
    refine ⟨_, _, _, rfl, hk _ ?_⟩
    unfold sLd
    rw [if_neg g]
