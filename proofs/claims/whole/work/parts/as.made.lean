/-! ===== what the constructors make: worked out ===== -/
abbrev Sr : Type := (List Vl × List Vl × Mm × (Nat × Nat)) ⊕ ((Nat × List Vl) ⊕ ((Nat × List Vl × List Vl) ⊕ Option Vl))
def nxt (ls st : List Vl) (M : Mm) (cs : Nat × Nat) : Option Sr := some (.inl (ls, st, M, cs))
def jmp (t : Nat) (st : List Vl) : Option Sr := some (.inr (.inl (t, st)))
def iff (b : Bool) (x : Option Sr) : Option Sr := match b with
  | true => x
  | false => none
def exO (bd : Nat × Nat) (op : Op) (ls st : List Vl) (M : Mm) (cs : Nat × Nat) : Option Sr := match op.1 with
  | .iconst _ => nxt ls (.inl op.2.2.2 :: st) M cs
  | .bipush _ => nxt ls (.inl op.2.2.2 :: st) M cs
  | .sipush _ => nxt ls (.inl op.2.2.2 :: st) M cs
  | .aconst_null => nxt ls (.inr (.inr (.inl 0)) :: st) M cs
  | .iload_n i => match ls.getD i.val jk with
    | .inl a => nxt ls (.inl a :: st) M cs
    | _ => none
  | .aload_n i => match ls.getD i.val jk with
    | .inr (.inr (.inl a)) => nxt ls (.inr (.inr (.inl a)) :: st) M cs
    | _ => none
  | .aload i => match ls.getD i jk with
    | .inr (.inr (.inl a)) => nxt ls (.inr (.inr (.inl a)) :: st) M cs
    | _ => none
  | .istore i => match st with
    | .inl a :: r => nxt (sto (.inl a) i ls) r M cs
    | _ => none
  | .istore_n i => match st with
    | .inl a :: r => nxt (sto (.inl a) i.val ls) r M cs
    | _ => none
  | .astore_n i => match st with
    | .inr (.inr (.inl a)) :: r => nxt (sto (.inr (.inr (.inl a))) i.val ls) r M cs
    | _ => none
  | .iinc i _ => match ls.getD i jk with
    | .inl a => nxt (sto (.inl (wr (a + op.2.2.2))) i ls) st M cs
    | _ => none
  | .imul => match st with
    | .inl b :: .inl a :: r => nxt ls (.inl (wr (a * b)) :: r) M cs
    | _ => none
  | .dup => match st with
    | .inr (.inr (.inl a)) :: r => nxt ls (.inr (.inr (.inl a)) :: .inr (.inr (.inl a)) :: r) M cs
    | _ => none
  | .goto _ => jmp (op.2.2.1.headD 0) st
  | .nop => jmp (op.2.2.1.headD 0) st
  | .if_icmp c _ => match st with
    | .inl b :: .inl a :: r => match c with
      | .ge => match decide (a < b) with
        | true => nxt ls r M cs
        | false => jmp (op.2.2.1.headD 0) r
      | .lt => match decide (a < b) with
        | true => jmp (op.2.2.1.headD 0) r
        | false => nxt ls r M cs
      | _ => none
    | _ => none
  | .ifCond c _ => match st with
    | .inl a :: r => match c with
      | .eq => match decide (a = 0) with
        | true => jmp (op.2.2.1.headD 0) r
        | false => nxt ls r M cs
      | .ne => match decide (a = 0) with
        | true => nxt ls r M cs
        | false => jmp (op.2.2.1.headD 0) r
      | _ => none
    | _ => none
  | .getfield _ => match st with
    | .inr (.inr (.inl o)) :: r => match op.2.2.1 with
      | ci :: i :: 2 :: _ => iff (kq (M.1 o) 0 ci) (nxt ls (.inr (.inr (.inl (M.2.1 o i))) :: r) M cs)
      | ci :: i :: 4 :: _ => iff (kq (M.1 o) 0 ci) (nxt ls (.inr (.inr (.inl (M.2.2.1 o i))) :: r) M cs)
      | _ => none
    | _ => none
  | .putfield _ => match op.2.2.1 with
    | ci :: i :: 0 :: _ => match st with
      | .inl v :: .inr (.inr (.inl o)) :: r => iff (kq (M.1 o) 0 ci) (nxt ls r (wI M o i v) cs)
      | _ => none
    | ci :: i :: 2 :: _ => match st with
      | .inr (.inr (.inl v)) :: .inr (.inr (.inl o)) :: r => iff (kq (M.1 o) 0 ci && Nat.ble v (gN M)) (iff (Nat.ble i 63) (nxt ls r (wR M o i v) cs))
      | _ => none
    | ci :: i :: 3 :: _ => match st with
      | .inl v :: .inr (.inr (.inl o)) :: r => iff (kq (M.1 o) 0 ci) (iff (zb v) (nxt ls r (wI M o i v) cs))
      | _ => none
    | ci :: i :: 4 :: _ => match st with
      | .inr (.inr (.inl v)) :: .inr (.inr (.inl o)) :: r => iff (kq (M.1 o) 0 ci && Nat.ble v (gN M)) (nxt ls r (wS M o i v) cs)
      | _ => none
    | _ => none
  | .iastore => match st with
    | .inl x :: .inl i :: .inr (.inr (.inl a)) :: r => iff (Nat.beq (M.1 a).1 1) (iff (ib i (M.1 a).2) (nxt ls r (wI M a i.toNat x) cs))
    | _ => none
  | .aastore => match st with
    | .inr (.inr (.inl x)) :: .inl i :: .inr (.inr (.inl a)) :: r => iff (Nat.beq (M.1 a).1 4) (iff (kq (M.1 x) 0 (op.2.2.1.headD 0)) (iff (ib i (M.1 a).2) (iff (Nat.ble i.toNat 63) (nxt ls r (wR M a i.toNat x) cs))))
    | _ => none
  | .arraylength => match op.2.2.1 with
    | 1 :: _ => match st with
      | .inr (.inr (.inl a)) :: r => iff (Nat.beq (M.1 a).1 1) (nxt ls (.inl ((M.1 a).2 : Nat) :: r) M cs)
      | _ => none
    | _ => none
  | .newarray _ => match st with
    | .inl n :: r => iff (nn n) (iff (lq (cs.1 + 1) bd.1 (cs.2 + n.toNat) bd.2 && Nat.ble (gN M) 99999 && Nat.ble n.toNat 100000) (iff (Nat.ble (op.2.2.1.headD 0) 4) (nxt ls (.inr (.inr (.inl (gN M + 1))) :: r) (nw M (op.2.2.1.headD 0, n.toNat)) (cs.1 + 1, cs.2 + n.toNat))))
    | _ => none
  | .anewarray _ => match st with
    | .inl n :: r => iff (nn n) (iff (lq (cs.1 + 1) bd.1 (cs.2 + n.toNat) bd.2 && Nat.ble (gN M) 99999 && Nat.ble n.toNat 100000) (nxt ls (.inr (.inr (.inl (gN M + 1))) :: r) (nw M (4, n.toNat)) (cs.1 + 1, cs.2 + n.toNat)))
    | _ => none
  | .new _ => match op.2.2.1 with
    | 0 :: ci :: n :: _ => iff (lq (cs.1 + 1) bd.1 (cs.2 + n) bd.2 && Nat.ble (gN M) 99999) (nxt ls (.inr (.inr (.inl (gN M + 1))) :: st) (nw M (0, ci)) (cs.1 + 1, cs.2 + n))
    | _ => none
  | .invokevirtual _ => clO op.2.2.1 ls st M cs
  | .invokestatic _ => clO op.2.2.1 ls st M cs
  | .invokespecial _ => clO op.2.2.1 ls st M cs
  | .return_ => match st with
    | [] => some (.inr (.inr (.inr none)))
    | _ => none
  | _ => none
where
  clV (y n ci : Nat) (st : List Vl) (M : Mm) : Option Sr := match (st.take n).reverse with
    | .inr (.inr (.inl o)) :: as => iff (catOK (st.drop n) && Nat.ble n st.length) (iff (kq (M.1 o) 0 ci) (some (.inr (.inr (.inl (y, .inr (.inr (.inl o)) :: as, st.drop n))))))
    | _ => none
  clO (aux : List Nat) (ls st : List Vl) (M : Mm) (cs : Nat × Nat) : Option Sr := match aux with
    | 0 :: y :: n :: ci :: _ => clV y n ci st M
    | 2 :: y :: n :: ci :: _ => clV y n ci st M
    | 3 :: y :: n :: ci :: _ => clV y n ci st M
    | 1 :: y :: n :: _ => iff (catOK (st.drop n) && Nat.ble n st.length) (some (.inr (.inr (.inl (y, (st.take n).reverse, st.drop n)))))
    | 4 :: _ => match st with
      | .inr (.inr (.inl o)) :: r => iff (catOK r) (iff (Nat.beq (M.1 o).1 0) (nxt ls r M cs))
      | _ => none
    | _ => none
def rk (r : Sr) (kn : List Vl → List Vl → Mm → Nat × Nat → Prop) (kj : Nat → List Vl → Prop) (kc : Nat → List Vl → List Vl → Prop) (kr : Option Vl → Prop) : Prop := match r with
  | .inl q => kn q.1 q.2.1 q.2.2.1 q.2.2.2
  | .inr (.inl q) => kj q.1 q.2
  | .inr (.inr (.inl q)) => kc q.1 q.2.1 q.2.2
  | .inr (.inr (.inr v)) => kr v
theorem iff_e {b : Bool} {x : Option Sr} {r : Sr} (h : iff b x = some r) : b = true ∧ x = some r := by
  cases b
  · cases h
  · exact ⟨rfl, h⟩
section MD
variable {bd : Nat × Nat} {op : Op} {ls st : List Vl} {M : Mm} {cs : Nat × Nat} {r : Sr} {kn : List Vl → List Vl → Mm → Nat × Nat → Prop} {kj : Nat → List Vl → Prop} {kc : Nat → List Vl → List Vl → Prop} {kr : Option Vl → Prop} {kt : Nat → Prop}
theorem clV_s {y n ci : Nat} (h : exO.clV y n ci st M = some r) (hk : rk r kn kj kc kr) : exV y n ci st M kc := by
  unfold exO.clV at h
  unfold exV
  split at h
  · rename_i e
    rw [e]
    obtain ⟨h1, h⟩ := iff_e h
    obtain ⟨h2, h⟩ := iff_e h
    cases h
    exact chk_of h1 (chk_of h2 hk)
  · cases h
theorem catL_of {r : List Vl} {b : Bool} (h : (catOK r && b) = true) : (catL r && b) = true := by
  rw [Bool.and_eq_true] at h ⊢
  refine ⟨?_, h.2⟩
  have h1 := ble_le h.1
  exact Nat.ble_eq_true_of_le (Nat.le_trans h1 (by decide))
theorem clW_s {y n ci : Nat} (h : exO.clV y n ci st M = some r) (hk : rk r kn kj kc kr) : exW y n ci st M kc := by
  unfold exO.clV at h
  unfold exW
  split at h
  · rename_i e
    rw [e]
    obtain ⟨h1, h⟩ := iff_e h
    obtain ⟨h2, h⟩ := iff_e h
    cases h
    exact chk_of (catL_of h1) (chk_of h2 hk)
  · cases h
theorem clO_s {aux : List Nat} (h : exO.clO aux ls st M cs = some r) (hk : rk r kn kj kc kr) : exCall aux st M cs (kn ls) kc := by
  unfold exO.clO at h
  unfold exCall
  split at h
  · exact clW_s (kn := kn) (kj := kj) (kr := kr) h hk
  · exact clV_s (kn := kn) (kj := kj) (kr := kr) h hk
  · exact clV_s (kn := kn) (kj := kj) (kr := kr) h hk
  · obtain ⟨h1, h⟩ := iff_e h
    cases h
    exact chk_of h1 hk
  · split at h
    · obtain ⟨h1, h⟩ := iff_e h
      obtain ⟨h2, h⟩ := iff_e h
      cases h
      exact chk_of h1 (chk_of h2 hk)
    · cases h
  · cases h
set_option maxHeartbeats 2000000 in
theorem exO_s (h : exO bd op ls st M cs = some r) (hk : rk r kn kj kc kr) : ex bd op ls st M cs kn kj kc kr kt := by
  obtain ⟨ins, len, aux, cst⟩ := op
  unfold exO at h
  dsimp only at h
  split at h
  all_goals (unfold ex; dsimp only)
  all_goals first
    | (cases h; done)
    | (cases h; exact hk)
    | exact clO_s h hk
    | skip
  all_goals (split at h)
  all_goals first
    | (cases h; done)
    | (cases h; exact hk)
    | (cases h; rename_i e; unfold lI; rw [e]; exact hk)
    | (cases h; rename_i e; unfold lR; rw [e]; exact hk)
    | (obtain ⟨h1, h⟩ := iff_e h; cases h; exact chk_of h1 hk)
    | (obtain ⟨h1, h⟩ := iff_e h; obtain ⟨h2, h⟩ := iff_e h; cases h; exact chk_of h1 (chk_of h2 hk))
    | (obtain ⟨h1, h⟩ := iff_e h; obtain ⟨h2, h⟩ := iff_e h; obtain ⟨h3, h⟩ := iff_e h; cases h; exact chk_of h1 (chk_of h2 hk))
    | (obtain ⟨h1, h⟩ := iff_e h; obtain ⟨h2, h⟩ := iff_e h; obtain ⟨h3, h⟩ := iff_e h; obtain ⟨h4, h⟩ := iff_e h; cases h; exact chk_of h1 (chk_of h2 (chk_of h3 hk)))
    | skip
  all_goals (split at h)
  all_goals first
    | (cases h; done)
    | (cases h; exact hk)
    | (obtain ⟨h1, h⟩ := iff_e h; cases h; exact chk_of h1 hk)
    | (obtain ⟨h1, h⟩ := iff_e h; obtain ⟨h2, h⟩ := iff_e h; cases h; exact chk_of h1 hk)
    | (obtain ⟨h1, h⟩ := iff_e h; obtain ⟨h2, h⟩ := iff_e h; cases h; exact chk_of h1 (chk_of h2 hk))
    | skip
  all_goals (split at h)
  all_goals (rename_i e)
  all_goals (cases h)
  all_goals first
    | (show cnd (decide _) _ _; rw [e]; exact hk)
    | (simp only [p1I, p2I]; rw [e]; exact hk)
end MD
/-- a method worked out to its return -/
def rn : Nat → Nat → Nat → Nat → List Op → List Vl → List Vl → Mm → Nat × Nat → Option (Option Vl × Mm)
  | 0, _, _, _, _, _, _, _, _ => none
  | f + 1, d, j, pc, ops, ls, st, M, cs => match ops with
    | [] => none
    | op :: ops => match exO (mcOf j) op ls st M cs with
      | none => none
      | some (.inl q) => rn f d j (pc + op.2.1) ops q.1 q.2.1 q.2.2.1 q.2.2.2
      | some (.inr (.inl q)) => rn f d j q.1 (cod j q.1).2 (mk (cod j q.1).1 ls) q.2 M cs
      | some (.inr (.inr (.inl q))) => match lq (cs.1 + (mcOf q.1).1) (mcOf j).1 (cs.2 + (mcOf q.1).2) (mcOf j).2 && Nat.ble (spr q.2.1).length (mxl q.1) && Nat.ble 1 d with
        | true => match rn f (d - 1) q.1 0 (cod q.1 0).2 (spr q.2.1) [] M (0, 0) with
          | none => none
          | some z => rn f d j (pc + 3) ops ls (aft z.1 q.2.2) z.2 (cs.1 + (mcOf q.1).1, cs.2 + (mcOf q.1).2)
        | false => none
      | some (.inr (.inr (.inr v))) => some (v, M)
theorem rn_s : ∀ (f d j pc : Nat) (ops : List Op) (ls st : List Vl) (M : Mm) (cs : Nat × Nat) (z : Option Vl × Mm) (Q : Rs → Mm → Prop), rn f d j pc ops ls st M cs = some z → Q (.inl z.1) z.2 → wpo d j pc ops ls st M cs Q := by
  intro f
  induction f with
  | zero =>
    intro d j pc ops ls st M cs z Q h
    cases h
  | succ f ih =>
    intro d j pc ops ls st M cs z Q h hq
    cases ops with
    | nil => cases h
    | cons op ops =>
      unfold rn at h
      dsimp only at h
      split at h
      · cases h
      · rename_i q e
        exact wpo_step (exO_s e (ih _ _ _ _ _ _ _ _ _ _ h hq))
      · rename_i q e
        exact wpo_step (exO_s e (ih _ _ _ _ _ _ _ _ _ _ h hq))
      · rename_i q e
        split at h
        · rename_i hb
          obtain ⟨hb, hd⟩ := an2 hb
          split at h
          · cases h
          · rename_i y ey
            refine wpo_step (exO_s e (chk_of hb ⟨ble_le hd, ih _ _ _ _ _ _ _ _ _ _ ey ?_⟩))
            exact ih _ _ _ _ _ _ _ _ _ _ h hq
        · cases h
      · rename_i v e
        cases h
        exact wpo_step (exO_s e hq)
/-- n steps of a method; its calls are worked out -/
def rs (g : Nat) : Nat → Nat → Nat → Nat → List Op → List Vl → List Vl → Mm → Nat × Nat → Option (Nat × List Op × List Vl × List Vl × Mm × (Nat × Nat))
  | 0, _, _, pc, ops, ls, st, M, cs => some (pc, ops, ls, st, M, cs)
  | f + 1, d, j, pc, ops, ls, st, M, cs => match ops with
    | [] => none
    | op :: ops => match exO (mcOf j) op ls st M cs with
      | some (.inl q) => rs g f d j (pc + op.2.1) ops q.1 q.2.1 q.2.2.1 q.2.2.2
      | some (.inr (.inl q)) => rs g f d j q.1 (cod j q.1).2 (mk (cod j q.1).1 ls) q.2 M cs
      | some (.inr (.inr (.inl q))) => match lq (cs.1 + (mcOf q.1).1) (mcOf j).1 (cs.2 + (mcOf q.1).2) (mcOf j).2 && Nat.ble (spr q.2.1).length (mxl q.1) && Nat.ble 1 d with
        | true => match rn g (d - 1) q.1 0 (cod q.1 0).2 (spr q.2.1) [] M (0, 0) with
          | none => none
          | some z => rs g f d j (pc + 3) ops ls (aft z.1 q.2.2) z.2 (cs.1 + (mcOf q.1).1, cs.2 + (mcOf q.1).2)
        | false => none
      | _ => none
theorem rs_s (g : Nat) : ∀ (f d j pc : Nat) (ops : List Op) (ls st : List Vl) (M : Mm) (cs : Nat × Nat) (z : Nat × List Op × List Vl × List Vl × Mm × (Nat × Nat)) (Q : Rs → Mm → Prop), rs g f d j pc ops ls st M cs = some z → wpo d j z.1 z.2.1 z.2.2.1 z.2.2.2.1 z.2.2.2.2.1 z.2.2.2.2.2 Q → wpo d j pc ops ls st M cs Q := by
  intro f
  induction f with
  | zero =>
    intro d j pc ops ls st M cs z Q h hq
    cases h
    exact hq
  | succ f ih =>
    intro d j pc ops ls st M cs z Q h hq
    cases ops with
    | nil => cases h
    | cons op ops =>
      unfold rs at h
      dsimp only at h
      split at h
      · rename_i q e
        exact wpo_step (exO_s e (ih _ _ _ _ _ _ _ _ _ _ h hq))
      · rename_i q e
        exact wpo_step (exO_s e (ih _ _ _ _ _ _ _ _ _ _ h hq))
      · rename_i q e
        split at h
        · rename_i hb
          obtain ⟨hb, hd⟩ := an2 hb
          split at h
          · cases h
          · rename_i y ey
            exact wpo_step (exO_s e (chk_of hb ⟨ble_le hd, rn_s _ _ _ _ _ _ _ _ _ _ _ ey (ih _ _ _ _ _ _ _ _ _ _ h hq)⟩))
        · cases h
      · cases h
/-- the script and the constants lie apart: runs don't look there -/
def ov (S1 : FS) (F1 : FI) (M : Mm) : Mm := (M.1, M.2.1, fun k i => if k < 1000000 then M.2.2.1 k i else S1 k i, fun k i => if k < 1000000 then gI M k i else F1 k i, M.2.2.2.2)
def KI (M : Mm) : Prop := (∀ k, (M.1 k).1 ≤ 4 → k ≤ gN M) ∧ gN M ≤ 100000 ∧ ∀ k i, 64 ≤ i → M.2.1 k i = 0
def FR (M M' : Mm) : Prop := gN M ≤ gN M' ∧ ∀ a, gN M' < a → M'.1 a = M.1 a ∧ M'.2.1 a = M.2.1 a
theorem FR_rf {M : Mm} : FR M M := ⟨Nat.le_refl _, fun _ _ => ⟨rfl, rfl⟩⟩
theorem FR_tr {M M' M2 : Mm} (h : FR M M') (h2 : FR M' M2) : FR M M2 := ⟨Nat.le_trans h.1 h2.1, fun a ha => ⟨(h2.2 a ha).1.trans (h.2 a (Nat.lt_of_le_of_lt h2.1 ha)).1, (h2.2 a ha).2.trans (h.2 a (Nat.lt_of_le_of_lt h2.1 ha)).2⟩⟩
section OV
variable {S1 : FS} {F1 : FI} {M : Mm} {k i : Nat}
theorem ov_S (h : k < 1000000) : (ov S1 F1 M).2.2.1 k i = M.2.2.1 k i := if_pos h
theorem ov_wI {v : Int} (h : k < 1000000) : wI (ov S1 F1 M) k i v = ov S1 F1 (wI M k i v) := by
  refine Prod.ext rfl (Prod.ext rfl (Prod.ext rfl (Prod.ext ?_ rfl)))
  funext a b
  show u2 (fun k i => if k < 1000000 then gI M k i else F1 k i) k i v a b = if a < 1000000 then u2 M.2.2.2.1 k i v a b else F1 a b
  unfold u2
  by_cases e : a = k ∧ b = i
  · rw [if_pos e, if_pos e, if_pos (by rw [e.1]; exact h)]
  · rw [if_neg e, if_neg e]
    rfl
theorem ov_wS {v : Nat} (h : k < 1000000) : wS (ov S1 F1 M) k i v = ov S1 F1 (wS M k i v) := by
  refine Prod.ext rfl (Prod.ext rfl (Prod.ext ?_ (Prod.ext rfl rfl)))
  funext a b
  show u2 (fun k i => if k < 1000000 then M.2.2.1 k i else S1 k i) k i v a b = if a < 1000000 then u2 M.2.2.1 k i v a b else S1 a b
  unfold u2
  by_cases e : a = k ∧ b = i
  · rw [if_pos e, if_pos e, if_pos (by rw [e.1]; exact h)]
  · rw [if_neg e, if_neg e]
theorem ov_nw {q : Nat × Nat} (h : gN M ≤ 100000) : nw (ov S1 F1 M) q = ov S1 F1 (nw M q) := by
  have hN : gN (ov S1 F1 M) = gN M := rfl
  refine Prod.ext rfl (Prod.ext rfl (Prod.ext ?_ (Prod.ext ?_ rfl)))
  · funext a b
    show (if a = gN M + 1 then 0 else if a < 1000000 then M.2.2.1 a b else S1 a b) = if a < 1000000 then (if a = gN M + 1 then 0 else M.2.2.1 a b) else S1 a b
    by_cases e : a = gN M + 1
    · rw [if_pos e, if_pos e, if_pos (by omega)]
    · rw [if_neg e, if_neg e]
  · funext a b
    show (if a = gN M + 1 then 0 else if a < 1000000 then gI M a b else F1 a b) = if a < 1000000 then (if a = gN M + 1 then 0 else gI M a b) else F1 a b
    by_cases e : a = gN M + 1
    · rw [if_pos e, if_pos e, if_pos (by omega)]
    · rw [if_neg e, if_neg e]
theorem KI_wI {v : Int} (h : KI M) : KI (wI M k i v) ∧ FR M (wI M k i v) := ⟨h, FR_rf⟩
theorem KI_wS {v : Nat} (h : KI M) : KI (wS M k i v) ∧ FR M (wS M k i v) := ⟨h, FR_rf⟩
theorem KI_wR {v : Nat} (h : KI M) (hi : i ≤ 63) (hk : k ≤ gN M) : KI (wR M k i v) ∧ FR M (wR M k i v) := by
  refine ⟨⟨h.1, h.2.1, fun a b hb => ?_⟩, Nat.le_refl _, fun a ha => ⟨rfl, funext fun b => ?_⟩⟩
  · show u2 M.2.1 k i v a b = 0
    unfold u2
    rw [if_neg (by omega)]
    exact h.2.2 a b hb
  · show u2 M.2.1 k i v a b = _
    have ha : gN M < a := ha
    unfold u2
    rw [if_neg (by omega)]
theorem KI_nw {q : Nat × Nat} (h : KI M) (hN : gN M ≤ 99999) : KI (nw M q) ∧ FR M (nw M q) := by
  refine ⟨⟨fun a ha => ?_, by show gN M + 1 ≤ _; omega, fun a b hb => ?_⟩, by show gN M ≤ gN M + 1; omega, fun a ha => ?_⟩
  · replace ha : (if a = gN M + 1 then q else M.1 a).1 ≤ 4 := ha
    show a ≤ gN M + 1
    by_cases e : a = gN M + 1
    · omega
    · rw [if_neg e] at ha
      have := h.1 a ha
      omega
  · show (if a = gN M + 1 then 0 else M.2.1 a b) = 0
    split
    · rfl
    · exact h.2.2 a b hb
  · have ha : gN M + 1 < a := ha
    refine ⟨?_, funext fun b => ?_⟩
    · show (if a = gN M + 1 then q else M.1 a) = _
      rw [if_neg (by omega)]
    · show (if a = gN M + 1 then 0 else M.2.1 a b) = _
      rw [if_neg (by omega)]
end OV
def ovr (S1 : FS) (F1 : FI) (r : Sr) : Sr := match r with
  | .inl q => .inl (q.1, q.2.1, ov S1 F1 q.2.2.1, q.2.2.2)
  | .inr y => .inr y
def kmr (M : Mm) (r : Sr) : Prop := match r with
  | .inl q => KI q.2.2.1 ∧ FR M q.2.2.1
  | .inr _ => True
theorem iff_of {b : Bool} {x y : Option Sr} (h : b = true) (e : x = y) : iff b x = y := by
  rw [h]
  exact e
theorem en_kq {q : Nat × Nat} {t c : Nat} (h : kq q t c = true) : q.1 = t ∧ q.2 = c := by
  unfold kq at h
  rw [Bool.and_eq_true] at h
  exact ⟨beqE h.1, beqE h.2⟩
section OX
variable {S1 : FS} {F1 : FI} {bd : Nat × Nat} {op : Op} {ls st : List Vl} {M : Mm} {cs : Nat × Nat} {r : Sr}
theorem nxt_ov {M M1 : Mm} (h : M1 = ov S1 F1 M) : nxt ls st M1 cs = some (ovr S1 F1 (.inl (ls, st, M, cs))) := by
  rw [h]
  rfl
theorem clV_ov {y n ci : Nat} (h : exO.clV y n ci st M = some r) : exO.clV y n ci st (ov S1 F1 M) = some (ovr S1 F1 r) ∧ kmr M r := by
  unfold exO.clV at h ⊢
  split at h
  · rename_i e
    obtain ⟨h1, h⟩ := iff_e h
    obtain ⟨h2, h⟩ := iff_e h
    cases h
    exact ⟨iff_of h1 (iff_of h2 rfl), trivial⟩
  · cases h
theorem clO_ov {aux : List Nat} (hM : KI M) (h : exO.clO aux ls st M cs = some r) : exO.clO aux ls st (ov S1 F1 M) cs = some (ovr S1 F1 r) ∧ kmr M r := by
  unfold exO.clO at h ⊢
  split at h
  · exact clV_ov h
  · exact clV_ov h
  · exact clV_ov h
  · obtain ⟨h1, h⟩ := iff_e h
    cases h
    exact ⟨iff_of h1 rfl, trivial⟩
  · split at h
    · obtain ⟨h1, h⟩ := iff_e h
      obtain ⟨h2, h⟩ := iff_e h
      cases h
      exact ⟨iff_of h1 (iff_of h2 rfl), hM, FR_rf⟩
    · cases h
  · cases h
theorem kq_lt (hM : KI M) {o ci : Nat} (h : kq (M.1 o) 0 ci = true) : o ≤ gN M ∧ o < 1000000 := by
  have := hM.1 o (by rw [(en_kq h).1]; omega)
  have := hM.2.1
  exact ⟨by omega, by omega⟩
theorem bq_lt (hM : KI M) {o t : Nat} (ht : t ≤ 4) (h : Nat.beq (M.1 o).1 t = true) : o ≤ gN M ∧ o < 1000000 := by
  have := hM.1 o (by rw [beqE h]; exact ht)
  have := hM.2.1
  exact ⟨by omega, by omega⟩
set_option maxHeartbeats 2000000 in
theorem exO_ov (hM : KI M) (h : exO bd op ls st M cs = some r) : exO bd op ls st (ov S1 F1 M) cs = some (ovr S1 F1 r) ∧ kmr M r := by
  obtain ⟨ins, len, aux, cst⟩ := op
  unfold exO at h ⊢
  dsimp only at h ⊢
  split at h
  all_goals (try dsimp only)
  all_goals first
    | (cases h; done)
    | exact clO_ov hM h
    | (cases h; exact ⟨rfl, hM, FR_rf⟩)
    | (cases h; exact ⟨rfl, trivial⟩)
    | skip
  all_goals (split at h)
  all_goals (try dsimp only)
  all_goals first
    | (cases h; done)
    | (cases h; exact ⟨rfl, hM, FR_rf⟩)
    | (cases h; exact ⟨rfl, trivial⟩)
    | (cases h; rename_i e; rw [e]; exact ⟨rfl, hM, FR_rf⟩)
    | (obtain ⟨h1, h⟩ := iff_e h; obtain ⟨h2, h⟩ := iff_e h; cases h; exact ⟨iff_of h1 (iff_of h2 (nxt_ov (ov_wI (bq_lt hM (by omega) h1).2))), KI_wI hM⟩)
    | (obtain ⟨h1, h⟩ := iff_e h; obtain ⟨h2, h⟩ := iff_e h; obtain ⟨h3, h⟩ := iff_e h; obtain ⟨h4, h⟩ := iff_e h; cases h; exact ⟨iff_of h1 (iff_of h2 (iff_of h3 (iff_of h4 (nxt_ov rfl)))), KI_wR hM (ble_le h4) (bq_lt hM (by omega) h1).1⟩)
    | (obtain ⟨h1, h⟩ := iff_e h; obtain ⟨h2, h⟩ := iff_e h; obtain ⟨h3, h⟩ := iff_e h; cases h; exact ⟨iff_of h1 (iff_of h2 (iff_of h3 (nxt_ov (ov_nw hM.2.1)))), KI_nw hM (ble_le (an2 (an2 h2).1).2)⟩)
    | (obtain ⟨h1, h⟩ := iff_e h; obtain ⟨h2, h⟩ := iff_e h; cases h; exact ⟨iff_of h1 (iff_of h2 (nxt_ov (ov_nw hM.2.1))), KI_nw hM (ble_le (an2 (an2 h2).1).2)⟩)
    | (obtain ⟨h1, h⟩ := iff_e h; cases h; exact ⟨iff_of h1 (nxt_ov (ov_nw hM.2.1)), KI_nw hM (ble_le (an2 h1).2)⟩)
    | skip
  all_goals (split at h)
  all_goals (try dsimp only)
  all_goals first
    | (cases h; done)
    | (cases h; exact ⟨rfl, hM, FR_rf⟩)
    | (cases h; exact ⟨rfl, trivial⟩)
    | (obtain ⟨h1, h⟩ := iff_e h; cases h; exact ⟨iff_of h1 (by rw [ov_S (kq_lt hM h1).2]; rfl), hM, FR_rf⟩)
    | (obtain ⟨h1, h⟩ := iff_e h; cases h; exact ⟨iff_of h1 rfl, hM, FR_rf⟩)
    | (obtain ⟨h1, h⟩ := iff_e h; cases h; exact ⟨iff_of h1 (nxt_ov (ov_wI (kq_lt hM h1).2)), KI_wI hM⟩)
    | (obtain ⟨h1, h⟩ := iff_e h; cases h; exact ⟨iff_of h1 (nxt_ov (ov_wS (kq_lt hM (an2 h1).1).2)), KI_wS hM⟩)
    | (obtain ⟨h1, h⟩ := iff_e h; obtain ⟨h2, h⟩ := iff_e h; cases h; exact ⟨iff_of h1 (iff_of h2 (nxt_ov rfl)), KI_wR hM (ble_le h2) (kq_lt hM (an2 h1).1).1⟩)
    | (obtain ⟨h1, h⟩ := iff_e h; obtain ⟨h2, h⟩ := iff_e h; cases h; exact ⟨iff_of h1 (iff_of h2 (nxt_ov (ov_wI (kq_lt hM h1).2))), KI_wI hM⟩)
    | skip
  all_goals (split at h)
  all_goals (try dsimp only)
  all_goals first
    | (cases h; done)
    | (rename_i e; cases h; rw [e]; exact ⟨rfl, hM, FR_rf⟩)
    | (rename_i e; cases h; rw [e]; exact ⟨rfl, trivial⟩)
    | (cases h; exact ⟨rfl, hM, FR_rf⟩)
    | (cases h; exact ⟨rfl, trivial⟩)
end OX
theorem rn_ov {S1 : FS} {F1 : FI} : ∀ (f d j pc : Nat) (ops : List Op) (ls st : List Vl) (M : Mm) (cs : Nat × Nat) (z : Option Vl × Mm), KI M → rn f d j pc ops ls st M cs = some z → rn f d j pc ops ls st (ov S1 F1 M) cs = some (z.1, ov S1 F1 z.2) ∧ KI z.2 ∧ FR M z.2 := by
  intro f
  induction f with
  | zero =>
    intro d j pc ops ls st M cs z _ h
    cases h
  | succ f ih =>
    intro d j pc ops ls st M cs z hM h
    cases ops with
    | nil => cases h
    | cons op ops =>
      unfold rn at h ⊢
      dsimp only at h ⊢
      split at h
      · cases h
      · rename_i q e
        obtain ⟨e1, k1, k2⟩ := exO_ov (S1 := S1) (F1 := F1) hM e
        rw [e1]
        obtain ⟨h1, h2, h3⟩ := ih _ _ _ _ _ _ _ _ _ k1 h
        exact ⟨h1, h2, FR_tr k2 h3⟩
      · rename_i q e
        obtain ⟨e1, -⟩ := exO_ov (S1 := S1) (F1 := F1) hM e
        rw [e1]
        exact ih _ _ _ _ _ _ _ _ _ hM h
      · rename_i q e
        obtain ⟨e1, -⟩ := exO_ov (S1 := S1) (F1 := F1) hM e
        rw [e1]
        split at h
        · rename_i hb
          split at h
          · cases h
          · rename_i y ey
            obtain ⟨g1, g2, g3⟩ := ih _ _ _ _ _ _ _ _ _ hM ey
            obtain ⟨h1, h2, h3⟩ := ih _ _ _ _ _ _ _ _ _ g2 h
            refine ⟨?_, h2, FR_tr g3 h3⟩
            show (match lq (cs.1 + (mcOf q.1).1) (mcOf j).1 (cs.2 + (mcOf q.1).2) (mcOf j).2 && Nat.ble (spr q.2.1).length (mxl q.1) && Nat.ble 1 d with
              | true => _
              | false => _) = _
            rw [hb]
            dsimp only
            rw [g1]
            exact h1
        · cases h
      · rename_i v e
        obtain ⟨e1, -⟩ := exO_ov (S1 := S1) (F1 := F1) hM e
        rw [e1]
        cases h
        exact ⟨rfl, hM, FR_rf⟩
theorem rs_ov {S1 : FS} {F1 : FI} (g : Nat) : ∀ (f d j pc : Nat) (ops : List Op) (ls st : List Vl) (M : Mm) (cs : Nat × Nat) (z : Nat × List Op × List Vl × List Vl × Mm × (Nat × Nat)), KI M → rs g f d j pc ops ls st M cs = some z → rs g f d j pc ops ls st (ov S1 F1 M) cs = some (z.1, z.2.1, z.2.2.1, z.2.2.2.1, ov S1 F1 z.2.2.2.2.1, z.2.2.2.2.2) ∧ KI z.2.2.2.2.1 ∧ FR M z.2.2.2.2.1 := by
  intro f
  induction f with
  | zero =>
    intro d j pc ops ls st M cs z hM h
    cases h
    exact ⟨rfl, hM, FR_rf⟩
  | succ f ih =>
    intro d j pc ops ls st M cs z hM h
    cases ops with
    | nil => cases h
    | cons op ops =>
      unfold rs at h ⊢
      dsimp only at h ⊢
      split at h
      · rename_i q e
        obtain ⟨e1, k1, k2⟩ := exO_ov (S1 := S1) (F1 := F1) hM e
        rw [e1]
        obtain ⟨h1, h2, h3⟩ := ih _ _ _ _ _ _ _ _ _ k1 h
        exact ⟨h1, h2, FR_tr k2 h3⟩
      · rename_i q e
        obtain ⟨e1, -⟩ := exO_ov (S1 := S1) (F1 := F1) hM e
        rw [e1]
        exact ih _ _ _ _ _ _ _ _ _ hM h
      · rename_i q e
        obtain ⟨e1, -⟩ := exO_ov (S1 := S1) (F1 := F1) hM e
        rw [e1]
        split at h
        · rename_i hb
          split at h
          · cases h
          · rename_i y ey
            obtain ⟨g1, g2, g3⟩ := rn_ov (S1 := S1) (F1 := F1) _ _ _ _ _ _ _ _ _ _ hM ey
            obtain ⟨h1, h2, h3⟩ := ih _ _ _ _ _ _ _ _ _ g2 h
            refine ⟨?_, h2, FR_tr g3 h3⟩
            show (match lq (cs.1 + (mcOf q.1).1) (mcOf j).1 (cs.2 + (mcOf q.1).2) (mcOf j).2 && Nat.ble (spr q.2.1).length (mxl q.1) && Nat.ble 1 d with
              | true => _
              | false => _) = _
            rw [hb]
            dsimp only
            rw [g1]
            exact h1
        · cases h
      · cases h
