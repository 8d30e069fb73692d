theorem TX_p {F0 F : FI} {p : Pz} (h : TX F0) (s : PZs F0 F p) : TX F := by
  intro t i a b
  rw [s.1 (2000000 + t) (by omega)]
  exact h t i a b
/-- what a line tells of a place -/
def pKi (c : Int) : Int := if c = tC 4 then 1 else if c = tC 5 then 2 else 0
theorem c_86 {k : FS → FI → FJ → Prop} {F0 : FI} {n w : Int} {p : Pz} {S : FS} {F : FI} {G : FJ} (hT : TX F0) (hn : PZn F0 n p) (h : PZs F0 F p) (hw : F0 101 0 = w) (hw0 : 0 ≤ w) (hw1 : w ≤ 600)
    (hk : ∀ F' q p', q = pKi (pWd (F0 99) n (pSp (F0 99) n p.1)) → p' = (if q = 0 then pAt p (pSp (F0 99) n p.1) else pAt p (pLe (F0 99) n (pSp (F0 99) n p.1))) → PZs (u2 (u2 F0 101 (7 + w).toNat q) 101 0 (w + 1)) F' p' → PZn F0 n p' → k S F' G) : calV 2 86 [.inr (.inr (.inl 97))] (mm S F G) k nof := by
  refine sg_86_0 ?_
  refine c_78 hn h (fun F1 s1 n1 => ?_)
  have t1 := TX_p hT s1
  have f1 : F1 101 0 = w := by rw [s1.1 101 (by decide)]; exact hw
  have zero : ∀ v : Int, v = 0 → v = pKi (pWd (F0 99) n (pSp (F0 99) n p.1)) → ∃ S' F' G', mm S (u2 (u2 F1 101 (7 + w).toNat v) 101 0 (w + 1)) G = mm S' F' G' ∧ k S' F' G' := fun v e0 ev =>
    ⟨_, _, _, rfl, hk _ v _ ev rfl (by rw [if_pos e0]; exact PZs_w (PZs_w s1 (by decide)) (by decide)) (by rw [if_pos e0]; exact n1)⟩
  rw [f1, wr_id (a := 7 + w) (by omega) (by omega)]
  have some' : ∀ v : Int, v ≠ 0 → v = pKi (pWd (F0 99) n (pSp (F0 99) n p.1)) → calV 1 80 [.inr (.inr (.inl 97))] (mm S (u2 F1 101 (7 + w).toNat v) G) (fun S3 F3 G3 => ∃ S' F' G', mm S3 (u2 F3 101 0 (wr (F3 101 0 + 1))) G3 = mm S' F' G' ∧ k S' F' G') nof := by
    intro v e0 ev
    refine c_80 (PZn_w n1 (by decide)) (PZs_w s1 (by decide)) (fun F3 s3 n3 => ?_)
    have e99 : (u2 F0 101 (7 + w).toNat v) 99 = F0 99 := u2_o (by decide)
    have f3 : F3 101 0 = w := by rw [s3.1 101 (by decide), u2_n (by omega)]; exact hw
    rw [f3, wr_id (by omega) (by omega)]
    rw [e99] at s3 n3
    refine ⟨_, _, _, rfl, hk _ v _ ev rfl ?_ ?_⟩
    · rw [if_neg e0]
      exact PZs_w s3 (by decide)
    · rw [if_neg e0]
      exact ⟨hn.1, n3.2⟩
  refine c_79t (t := 4) rfl (by decide) (by decide) (by decide) t1 ?_
  refine cn_i (fun g => ?_) (fun g => ?_)
  · refine ck_i (jb_i (by omega) (by omega)) (ck_i (jb_i (by omega) (by omega)) ?_)
    rw [u2_s]
    exact cn_i (fun r => absurd r (by decide)) (fun _ => some' 1 (by decide) (by unfold pKi; rw [if_pos g]))
  · refine c_79t (t := 5) rfl (by decide) (by decide) (by decide) t1 ?_
    refine cn_i (fun g2 => ?_) (fun g2 => ?_)
    · refine ck_i (jb_i (by omega) (by omega)) (ck_i (jb_i (by omega) (by omega)) ?_)
      rw [u2_s]
      exact cn_i (fun r => absurd r (by decide)) (fun _ => some' 2 (by decide) (by unfold pKi; rw [if_neg g, if_pos g2]))
    · refine ck_i (jb_i (by omega) (by omega)) (ck_i (jb_i (by omega) (by omega)) ?_)
      rw [u2_s, u2_n (by omega), f1, wr_id (a := w + 1) (by omega) (by omega)]
      exact cn_i (fun _ => zero 0 rfl (by unfold pKi; rw [if_neg g, if_neg g2])) (fun r => absurd rfl r)
