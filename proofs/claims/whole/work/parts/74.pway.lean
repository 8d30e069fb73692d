/-- what a line tells of a way -/
theorem c_88 {k : FS → FI → FJ → Prop} {F0 : FI} {n w : Int} {p r1 r3 : Pz} {v1 v3 : Int} {S : FS} {F : FI} {G : FJ} (hn : PZn F0 n p) (h : PZs F0 F p) (hb : 0 ≤ F0 101 0 ∧ F0 101 0 ≤ 12) (hw : F0 101 1 = w) (hw0 : 0 ≤ w) (hw1 : w ≤ 600)
    (e1 : (v1, r1) = pNb (F0 99) n p 0 (F0 101 0 - 1)) (e3 : (v3, r3) = pNb (F0 99) n (pAt r1 (pSp (F0 99) n r1.1)) 0 (F0 101 0 - 1))
    (bad : r3.2.1 ≠ -1 → ∀ F', PZs F0 F' r3 → PZn F0 n r3 → k S F' G) (same : r3.2.1 = -1 → v1 = v3 → ∀ F', PZs F0 F' (pFl r3 2 (pSp (F0 99) n r1.1)) → PZn F0 n (pFl r3 2 (pSp (F0 99) n r1.1)) → k S F' G)
    (good : r3.2.1 = -1 → v1 ≠ v3 → (0 ≤ v1 ∧ v1 < F0 101 0) ∧ 0 ≤ v3 ∧ v3 < F0 101 0 → ∀ F', PZs (u2 (u2 (u2 F0 101 (19 + w).toNat v1) 101 (43 + w).toNat v3) 101 1 (w + 1)) F' r3 → PZn F0 n r3 → k S F' G) : calV 3 88 [.inr (.inr (.inl 97))] (mm S F G) k nof := by
  refine sg_88_0 ?_
  refine c_87 hn h (by decide) (by decide) (by show 0 ≤ F0 101 0 ∧ F0 101 0 ≤ 1000; omega) (fun F1 s1 n1 => ?_)
  rw [show F0 101 ((0 : Int)).toNat = F0 101 0 from rfl, ← e1] at s1 n1 ⊢
  refine c_75 n1 s1 (fun F2 s2 n2 => ?_)
  have f4 : F2 97 4 = pSp (F0 99) n r1.1 := s2.2.2.1
  rw [f4]
  refine c_87 n2 s2 (by decide) (by decide) (by show 0 ≤ F0 101 0 ∧ F0 101 0 ≤ 1000; omega) (fun F3 s3 n3 => ?_)
  rw [show F0 101 ((0 : Int)).toNat = F0 101 0 from rfl] at s3 n3 ⊢
  have s3 : PZs F0 F3 (pNb (F0 99) n (pAt r1 (pSp (F0 99) n r1.1)) 0 (F0 101 0 - 1)).2 := s3
  have n3 : PZn F0 n (pNb (F0 99) n (pAt r1 (pSp (F0 99) n r1.1)) 0 (F0 101 0 - 1)).2 := n3
  have a0 : 0 ≤ pSp (F0 99) n r1.1 := n2.2.2.1
  have o3 := fun b => pNb_ok (t := F0 99) (n := n) (p := pAt r1 (pSp (F0 99) n r1.1)) (lo := 0) (hi := F0 101 0 - 1) (pSp_0 (F0 99) n2) b
  rw [← e3] at s3 n3 o3
  show calI 0 73 [.inr (.inr (.inl 97))] (mm S F3 G) _ _
  refine c_73 s3 (fun b => cn_1 ?_) (fun b => cn_0 ?_)
  · have o1 := pNb_ok (lo := 0) (hi := F0 101 0 - 1) (pSp_0 (F0 99) hn) (by rw [← e1]; exact (o3 b).1)
    rw [← e1] at o1
    have a1 : 0 ≤ v1 ∧ v1 ≤ F0 101 0 - 1 := o1.2
    have a3 : 0 ≤ v3 ∧ v3 ≤ F0 101 0 - 1 := (o3 b).2
    have ev : (pNb (F0 99) n (pAt r1 (pSp (F0 99) n r1.1)) 0 (F0 101 0 - 1)).1 = v3 := by rw [← e3]
    refine cn_i (fun g => ?_) (fun g => ?_)
    · refine c_74 s3 (fun F4 s4 => ?_)
      refine c_73 s4 (fun b2 => ?_) (fun _ => cn_0 ⟨_, _, _, rfl, same b (by rw [← ev]; exact g) F4 s4 (PZn_fl n3)⟩)
      unfold pFl at b2
      rw [if_pos (show r3.2.1 = -1 from b)] at b2
      have b2 : pSp (F0 99) n r1.1 = -1 := b2
      omega
    · refine c_73 s3 (fun _ => cn_1 ?_) (fun b2 => absurd b b2)
      have f1 : F3 101 1 = w := by rw [s3.1 101 (by decide)]; exact hw
      have ne : v1 ≠ v3 := fun r => g (by rw [ev]; exact r)
      rw [f1, wr_id (a := 19 + w) (by omega) (by omega), u2_n (by omega), f1, wr_id (a := 43 + w) (by omega) (by omega), u2_n (by omega), u2_n (by omega), f1, wr_id (a := w + 1) (by omega) (by omega)]
      refine ck_i (jb_i (by omega) (by omega)) (ck_i (jb_i (by omega) (by omega)) ⟨_, _, _, rfl, ?_⟩)
      refine good b ne ⟨by omega, by omega⟩ _ ?_ n3
      have z := PZs_w (PZs_w (PZs_w s3 (a := 101) (i := (19 + w).toNat) (v := v1) (by decide)) (a := 101) (i := (43 + w).toNat) (v := v3) (by decide)) (a := 101) (i := 1) (v := w + 1) (by decide)
      rw [← ev] at z ⊢
      exact z
  · exact c_73 s3 (fun b2 => absurd b2 b) (fun _ => cn_0 ⟨_, _, _, rfl, bad b F3 s3 n3⟩)
