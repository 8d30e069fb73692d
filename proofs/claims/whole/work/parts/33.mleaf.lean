/-! ===== the reference's leaves ===== -/
def B5 (x : Int) : Prop := -1125899906842624 ≤ x ∧ x ≤ 1125899906842624
theorem sOth_b {l : Nat → Int} {w p : Int} (hv : LV l) (h1 : 0 ≤ w) (h2 : w < l 1) : 0 ≤ sOth l w p ∧ sOth l w p < l 0 := by
  obtain ⟨⟨hv1, hv2⟩, ⟨hv3, hv4⟩, ⟨hv5, hv6⟩, ⟨hv7, hv8⟩, ⟨hv9, hv10⟩, ⟨hv11, hv12⟩, ⟨hv13, hv14⟩, hvw, hvs, hvk, hvc, hvx⟩ := id hv
  have := hvw w h1 h2
  unfold sOth
  split <;> omega
theorem sAf_b {l : Nat → Int} {st q n : Int} (h1 : 0 ≤ st) (h2 : st ≤ 12) (h3 : 1 ≤ n) (h4 : n ≤ st) : 0 ≤ sAf l st q n ∧ sAf l st q n ≤ st := by
  unfold sAf
  split <;> omega
theorem sSy_01 (l : Nat → Int) (h : Int) : sSy l h = 0 ∨ sSy l h = 1 := by
  unfold sSy
  split
  · exact Or.inr rfl
  · exact Or.inl rfl
theorem c_123 {k : Int → FS → FI → FJ → Prop} {x0 x1 x2 : Int} {S : FS} {F : FI} {G : FJ} (h0 : 0 ≤ x0) (h1 : x0 < 26) (h2 : 0 ≤ x1) (h3 : x1 < 12) (h4 : 0 ≤ x2) (h5 : x2 < 13)
    (hk : ∀ v, v = (x0 * 12 + x1) * 13 + x2 → k v S F G) : calI 0 123 [.inl x0, .inl x1, .inl x2] (mm S F G) k nof := by
  refine sg_123_0 ?_
  try simp (disch := omega) only [wr_id]
  exact ⟨_, _, _, rfl, hk _ rfl⟩
theorem c_124 {k : Int → FS → FI → FJ → Prop} {x1 x2 x3 : Int} {S : FS} {F : FI} {G : FJ} (h1 : 0 ≤ x2) (h2 : x2 < 12) (hk : ∀ v, v = sEnd (F 100) x1 x2 x3 → k v S F G) :
    calI 0 124 [.inr (.inr (.inl 97)), .inl x1, .inl x2, .inl x3] (mm S F G) k nof := by
  refine sg_124_0 ?_
  try simp (disch := omega) only [wr_id]
  repeat' (first
    | refine cn_i (fun _ => ?_) (fun _ => ?_)
    | refine ck_i (by (first | exact jb_i (by (first | assumption | omega | (simp (disch := omega) only [wr_id]; omega))) (by (first | assumption | omega | (simp (disch := omega) only [wr_id]; omega))) | exact jo_i (by omega) | exact jz_i (by omega) | rfl | (simp only [*]; first | rfl | exact jb_i (by (first | assumption | omega | (simp (disch := omega) only [wr_id]; omega))) (by (first | assumption | omega | (simp (disch := omega) only [wr_id]; omega)))))) ?_)
  all_goals exact ⟨_, _, _, rfl, hk _ (by unfold sEnd; simp [*])⟩
theorem c_125 {k : Int → FS → FI → FJ → Prop} {x1 x2 : Int} {S : FS} {F : FI} {G : FJ} (h1 : 0 ≤ x1) (h2 : x1 < 24) (hk : ∀ v, v = sOth (F 100) x1 x2 → k v S F G) :
    calI 0 125 [.inr (.inr (.inl 97)), .inl x1, .inl x2] (mm S F G) k nof := by
  refine sg_125_0 ?_
  try simp (disch := omega) only [wr_id]
  repeat' (first
    | refine cn_i (fun _ => ?_) (fun _ => ?_)
    | refine ck_i (by (first | exact jb_i (by (first | assumption | omega | (simp (disch := omega) only [wr_id]; omega))) (by (first | assumption | omega | (simp (disch := omega) only [wr_id]; omega))) | exact jo_i (by omega) | exact jz_i (by omega) | rfl | (simp only [*]; first | rfl | exact jb_i (by (first | assumption | omega | (simp (disch := omega) only [wr_id]; omega))) (by (first | assumption | omega | (simp (disch := omega) only [wr_id]; omega)))))) ?_)
  all_goals exact ⟨_, _, _, rfl, hk _ (by unfold sOth; simp [*])⟩
theorem c_126 {k : Int → FS → FI → FJ → Prop} {x1 x2 : Int} {S : FS} {F : FI} {G : FJ} (h1 : 0 ≤ x1) (h2 : x1 < 24) (hk : ∀ v, v = sAt (F 100) x1 x2 → k v S F G) :
    calI 0 126 [.inr (.inr (.inl 97)), .inl x1, .inl x2] (mm S F G) k nof := by
  refine sg_126_0 ?_
  try simp (disch := omega) only [wr_id]
  repeat' (first
    | refine cn_i (fun _ => ?_) (fun _ => ?_)
    | refine ck_i (by (first | exact jb_i (by (first | assumption | omega | (simp (disch := omega) only [wr_id]; omega))) (by (first | assumption | omega | (simp (disch := omega) only [wr_id]; omega))) | exact jo_i (by omega) | exact jz_i (by omega) | rfl | (simp only [*]; first | rfl | exact jb_i (by (first | assumption | omega | (simp (disch := omega) only [wr_id]; omega))) (by (first | assumption | omega | (simp (disch := omega) only [wr_id]; omega)))))) ?_)
  all_goals exact ⟨_, _, _, rfl, hk _ (by unfold sAt; simp [*])⟩
theorem c_131 {k : Int → FS → FI → FJ → Prop} {x1 x2 x3 x4 : Int} {S : FS} {F : FI} {G : FJ} (h0 : 0 ≤ x1) (h1 : x1 < 24) (h2 : 0 ≤ x4) (h3 : x4 < 12) (h4 : 1 ≤ x3) (h5 : x3 ≤ F 97 31) (h6 : F 97 31 ≤ 12)
    (hk : ∀ v, v = ((x1 + 1) * 12 + x4) * 13 + sAf (F 100) (F 97 31) x4 x3 → k v S F G) : calI 1 131 [.inr (.inr (.inl 97)), .inl x1, .inl x2, .inl x3, .inl x4] (mm S F G) k nof := by
  refine sg_131_0 ?_
  try simp (disch := omega) only [wr_id]
  repeat' (first
    | refine cn_i (fun _ => ?_) (fun _ => ?_)
    | refine ck_i (by (first | exact jb_i (by (first | assumption | omega | (simp (disch := omega) only [wr_id]; omega))) (by (first | assumption | omega | (simp (disch := omega) only [wr_id]; omega))) | exact jo_i (by omega) | exact jz_i (by omega) | rfl | (simp only [*]; first | rfl | exact jb_i (by (first | assumption | omega | (simp (disch := omega) only [wr_id]; omega))) (by (first | assumption | omega | (simp (disch := omega) only [wr_id]; omega)))))) ?_
    | (refine c_123 (by (first | assumption | omega | (simp (disch := omega) only [wr_id]; omega))) (by (first | assumption | omega | (simp (disch := omega) only [wr_id]; omega))) (by (first | assumption | omega | (simp (disch := omega) only [wr_id]; omega))) (by (first | assumption | omega | (simp (disch := omega) only [wr_id]; omega))) (by (first | assumption | omega | (simp (disch := omega) only [wr_id]; omega))) (by (first | assumption | omega | (simp (disch := omega) only [wr_id]; omega))) (fun _ e => ?_); subst e))
  all_goals exact ⟨_, _, _, rfl, hk _ (by unfold sAf; simp [*])⟩
theorem l_114 {Q : Rs → Mm → Prop} {x1 x2 : Int} {S : FS} {F : FI} {G : FJ} (hv : LV (F 100)) (h0 : 0 ≤ x1) (h1 : x1 < 24) (h2 : 0 ≤ x2) (hn : ∀ w, 0 ≤ w → w < x2 → ¬ 0 < sSn (F 100) w x1)
    (hq : Q (.inl (some (.inl (sSy (F 100) x1)))) (mm S F G)) : wph 0 114 2 [.inr (.inr (.inl 97)), .inl x1, .inl x2] [] (mm S F G) (0, 0) Q := by
  obtain ⟨⟨hv1, hv2⟩, ⟨hv3, hv4⟩, ⟨hv5, hv6⟩, ⟨hv7, hv8⟩, ⟨hv9, hv10⟩, ⟨hv11, hv12⟩, ⟨hv13, hv14⟩, hvw, hvs, hvk, hvc, hvx⟩ := id hv
  refine sg_114_2 ?_
  refine cn_i (fun h => ?_) (fun h => ?_)
  · try simp (disch := omega) only [wr_id]
    refine ck_i (by (first | exact jb_i (by (first | assumption | omega | (simp (disch := omega) only [wr_id]; omega))) (by (first | assumption | omega | (simp (disch := omega) only [wr_id]; omega))) | exact jo_i (by omega) | exact jz_i (by omega) | rfl | (simp only [*]; first | rfl | exact jb_i (by (first | assumption | omega | (simp (disch := omega) only [wr_id]; omega))) (by (first | assumption | omega | (simp (disch := omega) only [wr_id]; omega)))))) ?_
    refine cn_i (fun g => ?_) (fun g => ?_)
    · have e : sSy (F 100) x1 = 1 := if_pos ⟨x2, h2, h, g⟩
      rw [e] at hq
      exact hq
    · exact l_114 hv h0 h1 (by omega) (fun w a b => by
        by_cases c : w = x2
        · subst c; exact g
        · exact hn w a (by omega)) hq
  · have e : sSy (F 100) x1 = 0 := if_neg (fun ⟨w, a, b, c⟩ => hn w a (by omega) c)
    rw [e] at hq
    exact hq
termination_by (F 100 1 - x2).toNat
decreasing_by omega
theorem c_114 {k : Int → FS → FI → FJ → Prop} {x1 : Int} {S : FS} {F : FI} {G : FJ} (hv : LV (F 100)) (h0 : 0 ≤ x1) (h1 : x1 < 24) (hk : ∀ v, v = sSy (F 100) x1 → k v S F G) :
    calI 0 114 [.inr (.inr (.inl 97)), .inl x1] (mm S F G) k nof := by
  refine sg_114_0 ?_
  exact l_114 hv h0 h1 (by omega) (fun w a b => by omega) ⟨_, _, _, rfl, hk _ rfl⟩
theorem br_w {n a b : Int} (h1 : 0 ≤ n) (h2 : n ≤ 16) (ha : B5 a) (hb : B5 b) : wl (wl (n * a) + wl (wr (16 - n) * b)) = n * a + (16 - n) * b := by
  unfold B5 at ha hb
  have h3 : n = 0 ∨ n = 1 ∨ n = 2 ∨ n = 3 ∨ n = 4 ∨ n = 5 ∨ n = 6 ∨ n = 7 ∨ n = 8 ∨ n = 9 ∨ n = 10 ∨ n = 11 ∨ n = 12 ∨ n = 13 ∨ n = 14 ∨ n = 15 ∨ n = 16 := by omega
  rw [wr_id (by omega) (by omega)]
  rcases h3 with e | e | e | e | e | e | e | e | e | e | e | e | e | e | e | e | e <;> subst e <;> (rw [wl_id (a := _ * a) (by omega) (by omega), wl_id (a := _ * b) (by omega) (by omega), wl_id (by omega) (by omega)])
theorem c_132 {k : Int → FS → FI → FJ → Prop} {r1 : Nat} {x2 x3 x4 x5 x6 : Int} {S : FS} {F : FI} {G : FJ} (hv : LV (F 100)) (hr1 : (kk r1).1 = 2) (hr2 : (kk r1).2 = 19500) (h0 : 0 ≤ x2) (h1 : x2 ≤ 15600) (h2 : 0 ≤ x3) (h3 : x3 < F 100 3) (h4 : 0 ≤ x4) (h5 : x4 < F 100 0)
    (h6 : 1 ≤ x5) (h7 : x5 ≤ F 97 31) (h8 : F 97 31 ≤ 12) (h9 : 0 ≤ x6) (h10 : x6 ≤ F 100 1) (hs : ∀ h, 0 ≤ h → h < F 100 3 → F 122 h.toNat = sSy (F 100) h) (hB : ∀ i, B5 (G r1 i))
    (hk : ∀ v, v = sBr (F 100) (F 97 31) x3 x4 x5 x6 (sF (G r1) x2 x3) → k v S F G) :
    calL 2 132 [.inr (.inr (.inl 97)), .inr (.inr (.inl r1)), .inl x2, .inl x3, .inl x4, .inl x5, .inl x6] (mm S F G) k nof := by
  obtain ⟨⟨hv1, hv2⟩, ⟨hv3, hv4⟩, ⟨hv5, hv6⟩, ⟨hv7, hv8⟩, ⟨hv9, hv10⟩, ⟨hv11, hv12⟩, ⟨hv13, hv14⟩, hvw, hvs, hvk, hvc, hvx⟩ := id hv
  have a1 := sAf_b (l := F 100) (st := F 97 31) (q := x4) (n := x5) (by omega) h8 h6 h7
  have a2 := sAf_b (l := F 100) (st := F 97 31) (q := sOth (F 100) (x6 - 1) x4) (n := x5) (by omega) h8 h6 h7
  have hss := hs x3 h2 h3
  have h01 := sSy_01 (F 100) x3
  refine sg_132_0 ?_
  simp only [hr1, hr2, hss]
  try simp (disch := omega) only [wr_id]
  refine c_131 (by omega) (by omega) (by omega) (by omega) (by omega) (by omega) (by omega) (fun _ e => ?_)
  subst e
  try simp (disch := omega) only [wr_id]
  refine ck_i rfl (ck_i (by (first | exact jb_i (by (first | assumption | omega | (simp (disch := omega) only [wr_id]; omega))) (by (first | assumption | omega | (simp (disch := omega) only [wr_id]; omega))) | exact jo_i (by omega) | exact jz_i (by omega) | rfl | (simp only [*]; first | rfl | exact jb_i (by (first | assumption | omega | (simp (disch := omega) only [wr_id]; omega))) (by (first | assumption | omega | (simp (disch := omega) only [wr_id]; omega)))))) (cn_i (fun g => ?_) (fun g => ?_)))
  · simp only [hss]
    refine ck_i (by (first | exact jb_i (by (first | assumption | omega | (simp (disch := omega) only [wr_id]; omega))) (by (first | assumption | omega | (simp (disch := omega) only [wr_id]; omega))) | exact jo_i (by omega) | exact jz_i (by omega) | rfl | (simp only [*]; first | rfl | exact jb_i (by (first | assumption | omega | (simp (disch := omega) only [wr_id]; omega))) (by (first | assumption | omega | (simp (disch := omega) only [wr_id]; omega)))))) (cn_i (fun q => ?_) (fun q => ?_))
    · exact ⟨_, _, _, rfl, hk _ (by unfold sBr; rw [if_pos g, if_neg (by omega)]; rfl)⟩
    · refine ⟨_, _, _, rfl, hk _ ?_⟩
      unfold sBr
      rw [if_pos g, if_pos (by omega)]
      have := hB (x2 + (((x3 + 1) * 12 + x4) * 13 + sAf (F 100) (F 97 31) x4 x5)).toNat
      unfold B5 at this
      exact wl_id (by omega) (by omega)
  · have o1 := sOth_b (p := x4) (w := x6 - 1) hv (by omega) (by omega)
    refine c_125 (by omega) (by omega) (fun _ e => ?_)
    subst e
    refine c_131 (by omega) (by omega) (by omega) (by omega) (by omega) (by omega) (by omega) (fun _ e => ?_)
    subst e
    try simp (disch := omega) only [wr_id]
    simp only [hss]
    refine ck_i rfl (ck_i (by (first | exact jb_i (by (first | assumption | omega | (simp (disch := omega) only [wr_id]; omega))) (by (first | assumption | omega | (simp (disch := omega) only [wr_id]; omega))) | exact jo_i (by omega) | exact jz_i (by omega) | rfl | (simp only [*]; first | rfl | exact jb_i (by (first | assumption | omega | (simp (disch := omega) only [wr_id]; omega))) (by (first | assumption | omega | (simp (disch := omega) only [wr_id]; omega)))))) (ck_i (by (first | exact jb_i (by (first | assumption | omega | (simp (disch := omega) only [wr_id]; omega))) (by (first | assumption | omega | (simp (disch := omega) only [wr_id]; omega))) | exact jo_i (by omega) | exact jz_i (by omega) | rfl | (simp only [*]; first | rfl | exact jb_i (by (first | assumption | omega | (simp (disch := omega) only [wr_id]; omega))) (by (first | assumption | omega | (simp (disch := omega) only [wr_id]; omega)))))) (cn_i (fun q => ?_) (fun q => ?_))))
    · exact ⟨_, _, _, rfl, hk _ (by unfold sBr; rw [if_neg g, if_neg (by omega)]; rfl)⟩
    · refine ck_i (by (first | exact jb_i (by (first | assumption | omega | (simp (disch := omega) only [wr_id]; omega))) (by (first | assumption | omega | (simp (disch := omega) only [wr_id]; omega))) | exact jo_i (by omega) | exact jz_i (by omega) | rfl | (simp only [*]; first | rfl | exact jb_i (by (first | assumption | omega | (simp (disch := omega) only [wr_id]; omega))) (by (first | assumption | omega | (simp (disch := omega) only [wr_id]; omega)))))) ?_
      refine ⟨_, _, _, rfl, hk _ ?_⟩
      unfold sBr
      rw [if_neg g, if_pos (by omega)]
      have hN := hvs (x6 - 1) x3 (by omega) (by omega) (by omega) (by omega)
      exact br_w hN.1 hN.2 (hB _) (hB _)
