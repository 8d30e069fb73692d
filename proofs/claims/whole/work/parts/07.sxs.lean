theorem chk_w {b : Bool} {P : Nat → Prop} (h : chk b (∃ n, P n)) : ∃ n, chk b (P n) := by
  obtain ⟨h1, n, h2⟩ := chk_e h
  exact ⟨n, chk_of h1 h2⟩
theorem and_w {A : Prop} {P : Nat → Prop} (h : A ∧ ∃ n, P n) : ∃ n, A ∧ P n := by
  obtain ⟨h1, n, h2⟩ := h
  exact ⟨n, h1, h2⟩
theorem p1I_w {st : List Vl} {k : Nat → Int → List Vl → Prop} (h : p1I st (fun a r => ∃ n, k n a r)) : ∃ n, p1I st (k n) := by
  unfold p1I at h ⊢
  split at h
  · exact h
  · exact h.elim
theorem p2I_w {st : List Vl} {k : Nat → Int → Int → List Vl → Prop} (h : p2I st (fun a b r => ∃ n, k n a b r)) : ∃ n, p2I st (k n) := by
  unfold p2I at h ⊢
  split at h
  · exact h
  · exact h.elim
theorem p2L_w {st : List Vl} {k : Nat → Int → Int → List Vl → Prop} (h : p2L st (fun a b r => ∃ n, k n a b r)) : ∃ n, p2L st (k n) := by
  unfold p2L at h ⊢
  split at h
  · exact h
  · exact h.elim
theorem p1R_w {st : List Vl} {k : Nat → Nat → List Vl → Prop} (h : p1R st (fun a r => ∃ n, k n a r)) : ∃ n, p1R st (k n) := by
  unfold p1R at h ⊢
  split at h
  · exact h
  · exact h.elim
theorem pIR_w {st : List Vl} {k : Nat → Nat → Int → List Vl → Prop} (h : pIR st (fun a i r => ∃ n, k n a i r)) : ∃ n, pIR st (k n) := by
  unfold pIR at h ⊢
  split at h
  · exact h
  · exact h.elim
theorem lI_w {ls : List Vl} {i : Nat} {k : Nat → Int → Prop} (h : lI ls i (fun a => ∃ n, k n a)) : ∃ n, lI ls i (k n) := by
  unfold lI at h ⊢
  split at h
  · exact h
  · exact h.elim
theorem lL_w {ls : List Vl} {i : Nat} {k : Nat → Int → Prop} (h : lL ls i (fun a => ∃ n, k n a)) : ∃ n, lL ls i (k n) := by
  unfold lL at h ⊢
  split at h
  · exact h
  · exact h.elim
theorem lR_w {ls : List Vl} {i : Nat} {k : Nat → Nat → Prop} (h : lR ls i (fun a => ∃ n, k n a)) : ∃ n, lR ls i (k n) := by
  unfold lR at h ⊢
  split at h
  · exact h
  · exact h.elim
theorem cnd_w {b : Bool} {A B : Nat → Prop} (h : cnd b (∃ n, A n) (∃ n, B n)) : ∃ n, cnd b (A n) (B n) := by
  cases b
  · exact h
  · exact h
theorem swT_w {x : Int} {k : Nat → Nat → Prop} {dflt : Nat} : ∀ (ts : List Nat) (lo : Int), swT x (fun t => ∃ n, k n t) dflt lo ts → ∃ n, swT x (k n) dflt lo ts := by
  intro ts
  induction ts with
  | nil => exact fun _ h => h
  | cons t ts ih => exact fun lo h => cnd_w (cnd_m (fun q => q) (ih _) h)
theorem swL_w {x : Int} {k : Nat → Nat → Prop} {dflt : Nat} : ∀ (ps : List (Int × Int)) (ts : List Nat), swL x (fun t => ∃ n, k n t) dflt ps ts → ∃ n, swL x (k n) dflt ps ts := by
  intro ps
  induction ps with
  | nil =>
    intro ts h
    unfold swL at h ⊢
    exact h
  | cons q ps ih =>
    intro ts h
    obtain ⟨a, b⟩ := q
    cases ts with
    | nil =>
      unfold swL at h ⊢
      exact h
    | cons t ts =>
      unfold swL at h ⊢
      exact cnd_w (cnd_m (fun q => q) (ih _) h)
theorem exFld_w {aux : List Nat} {o : Nat} {M : Mm} {k : Nat → Vl → Prop} (h : exFld aux o M (fun v => ∃ n, k n v)) : ∃ n, exFld aux o M (k n) := by
  unfold exFld at h ⊢
  split at h <;> first | exact chk_w h | exact h.elim
theorem exPut_w {aux : List Nat} {st : List Vl} {M : Mm} {k : Nat → List Vl → Mm → Prop} (h : exPut aux st M (fun r M => ∃ n, k n r M)) : ∃ n, exPut aux st M (k n) := by
  unfold exPut at h ⊢
  split at h <;> first | exact h.elim | skip
  all_goals
    split at h <;> first | exact h.elim | exact chk_w h | exact chk_w (chk_i chk_w h)
theorem exV_w {y n ci : Nat} {st : List Vl} {M : Mm} {kc : Nat → Nat → List Vl → List Vl → Prop} (h : exV y n ci st M (fun y as r => ∃ n, kc n y as r)) : ∃ m, exV y n ci st M (kc m) := by
  unfold exV at h ⊢
  split at h
  · exact chk_w (chk_i chk_w h)
  · exact h.elim
theorem exW_w {y n ci : Nat} {st : List Vl} {M : Mm} {kc : Nat → Nat → List Vl → List Vl → Prop} (h : exW y n ci st M (fun y as r => ∃ n, kc n y as r)) : ∃ m, exW y n ci st M (kc m) := by
  unfold exW at h ⊢
  split at h
  · exact chk_w (chk_i chk_w h)
  · exact h.elim
theorem exCall_w {aux : List Nat} {st : List Vl} {M : Mm} {cs : Nat × Nat} {kn : Nat → List Vl → Mm → Nat × Nat → Prop} {kc : Nat → Nat → List Vl → List Vl → Prop} (h : exCall aux st M cs (fun st M cs => ∃ n, kn n st M cs) (fun y as r => ∃ n, kc n y as r)) : ∃ n, exCall aux st M cs (kn n) (kc n) := by
  unfold exCall at h ⊢
  split at h
  · exact exW_w h
  · exact exV_w h
  · exact exV_w h
  · exact chk_w h
  · exact p1R_w (p1R_m (fun a r q => chk_w (chk_i chk_w q)) h)
  · exact p1R_w (p1R_m (fun a r q => chk_w (chk_i chk_w q)) h)
  · exact pIR_w (pIR_m (fun a i r q => chk_w (chk_i (fun q => chk_w (chk_i chk_w q)) q)) h)
  · exact p2I_w (p2I_m (fun a b r => chk_w) h)
  · exact p2I_w (p2I_m (fun a b r => chk_w) h)
  · split at h
    · exact chk_w (chk_i (fun q => chk_w (chk_i chk_w q)) h)
    · exact h.elim
  · exact h.elim
set_option maxHeartbeats 2000000 in
theorem ex_w {bd : Nat × Nat} {op : Op} {ls st : List Vl} {M : Mm} {cs : Nat × Nat} {kn : Nat → List Vl → List Vl → Mm → Nat × Nat → Prop} {kj : Nat → Nat → List Vl → Prop} {kc : Nat → Nat → List Vl → List Vl → Prop} {kr : Nat → Option Vl → Prop} {kt : Nat → Nat → Prop}
    (h : ex bd op ls st M cs (fun ls st M cs => ∃ n, kn n ls st M cs) (fun t st => ∃ n, kj n t st) (fun y as r => ∃ n, kc n y as r) (fun v => ∃ n, kr n v) (fun e => ∃ n, kt n e)) : ∃ n, ex bd op ls st M cs (kn n) (kj n) (kc n) (kr n) (kt n) := by
  obtain ⟨ins, len, aux, cst⟩ := op
  unfold ex at h ⊢
  cases ins
  all_goals dsimp only at h ⊢
  all_goals first
    | exact h.elim
    | exact h
    | exact lI_w h
    | exact lL_w h
    | exact lR_w h
    | exact p1I_w h
    | exact p1R_w h
    | exact p2I_w h
    | exact p2L_w h
    | exact p2I_w (p2I_m (fun a b r => chk_w) h)
    | exact p1R_w (p1R_m (fun o r => exFld_w) h)
    | exact exPut_w h
    | exact pIR_w (pIR_m (fun a i r q => chk_w (chk_i chk_w q)) h)
    | exact exCall_w h
    | exact p1I_w (p1I_m (fun a r => swT_w _ _) h)
    | exact p1I_w (p1I_m (fun a r => swL_w _ _) h)
    | exact p1I_w (p1I_m (fun n r q => chk_w (chk_i chk_w q)) h)
    | skip
  all_goals first
    | (refine p2I_w (p2I_m (fun a b r q => ?_) h)
       split at q <;> exact cnd_w q)
    | (refine p1I_w (p1I_m (fun a r q => ?_) h)
       split at q <;> exact cnd_w q)
    | skip
  all_goals (split at h)
  all_goals first
    | exact h.elim
    | exact h
    | exact chk_w h
    | exact chk_w (chk_i chk_w h)
    | exact chk_w (chk_i (fun q => chk_w (chk_i chk_w q)) h)
    | exact pIR_w (pIR_m (fun a i r q => chk_w (chk_i chk_w q)) h)
    | exact p1R_w (p1R_m (fun a r => chk_w) h)
    | skip
  all_goals (split at h)
  all_goals first
    | exact h
    | exact chk_w h
theorem wp_w : ∀ (f d j pc : Nat) (ops : List Op) (ls st : List Vl) (M : Mm) (cs : Nat × Nat) (P : Nat → Rs → Mm → Prop), wp f d j pc ops ls st M cs (fun o M => ∃ n, P n o M) → ∃ n, wp f d j pc ops ls st M cs (P n) := by
  intro f
  induction f with
  | zero =>
    intro d j pc ops ls st M cs P h
    exact h.elim
  | succ f ih =>
    intro d j pc ops ls st M cs P h
    cases ops with
    | nil => exact h.elim
    | cons op ops =>
      unfold wp at h ⊢
      refine ex_w (ex_m (fun ls st M cs => ih _ _ _ _ _ _ _ _ _) (fun t st => ih _ _ _ _ _ _ _ _ _) (fun y as r q => ?_) (fun v q => q) (fun e q => q) h)
      refine chk_w (chk_i (fun q => and_w ⟨q.1, ih _ _ _ _ _ _ _ _ _ (wp_m _ _ _ _ _ _ _ _ _ _ _ _ _ (Nat.le_refl _) (Nat.le_refl _) (fun o M' z => ?_) q.2)⟩) q)
      cases o with
      | inl v => exact ih _ _ _ _ _ _ _ _ _ z
      | inr e =>
        dsimp only at z ⊢
        cases hh : hnd j pc e with
        | none => rw [hh] at z; exact z
        | some k => rw [hh] at z; exact ih _ _ _ _ _ _ _ _ _ z
/-- one step, then as long as it takes -/
theorem wpo_step {d j pc : Nat} {op : Op} {ops : List Op} {ls st : List Vl} {M : Mm} {cs : Nat × Nat} {Q : Rs → Mm → Prop} (h : ex (mcOf j) op ls st M cs
      (fun ls st M cs => wpo d j (pc + op.2.1) ops ls st M cs Q)
      (fun t st => wph d j t (mk (cod j t).1 ls) st M cs Q)
      (fun y as r => chk (lq (cs.1 + (mcOf y).1) (mcOf j).1 (cs.2 + (mcOf y).2) (mcOf j).2 && Nat.ble (spr as).length (mxl y)) (1 ≤ d ∧ cal (d - 1) y as M (fun o M' => match o with
        | .inl v => wpo d j (pc + 3) ops ls (aft v r) M' (cs.1 + (mcOf y).1, cs.2 + (mcOf y).2) Q
        | .inr e => match hnd j pc e with
          | none => Q (.inr e) M'
          | some h => wpo d j (hop j h).1 (hop j h).2 [] [] M' (cs.1 + (mcOf y).1, cs.2 + (mcOf y).2) Q)))
      (fun v => Q (.inl v) M)
      (fun e => Q (.inr e) M)) : wpo d j pc (op :: ops) ls st M cs Q := by
  have h1 := ex_w (kn := fun n ls st M cs => wp n d j (pc + op.2.1) ops ls st M cs Q) (kj := fun n t st => wp n d j t (cod j t).2 (mk (cod j t).1 ls) st M cs Q)
    (kc := fun n y as r => chk (lq (cs.1 + (mcOf y).1) (mcOf j).1 (cs.2 + (mcOf y).2) (mcOf j).2 && Nat.ble (spr as).length (mxl y)) (1 ≤ d ∧ wp n (d - 1) y 0 (cod y 0).2 (spr as) [] M (0, 0) (fun o M' => match o with
        | .inl v => wp n d j (pc + 3) ops ls (aft v r) M' (cs.1 + (mcOf y).1, cs.2 + (mcOf y).2) Q
        | .inr e => match hnd j pc e with
          | none => Q (.inr e) M'
          | some h => wp n d j (hop j h).1 (hop j h).2 [] [] M' (cs.1 + (mcOf y).1, cs.2 + (mcOf y).2) Q)))
    (kr := fun _ v => Q (.inl v) M) (kt := fun _ e => Q (.inr e) M) (bd := mcOf j) (op := op) (ls := ls) (st := st) (M := M) (cs := cs)
    (ex_m (fun ls st M cs q => q) (fun t st q => q) (fun y as r q => chk_w (chk_i (fun q => and_w ⟨q.1, by
      obtain ⟨f, q⟩ := q.2
      obtain ⟨n, q⟩ := wp_w f (d - 1) y 0 (cod y 0).2 (spr as) [] M (0, 0) (fun n o M' => match o with
        | .inl v => wp n d j (pc + 3) ops ls (aft v r) M' (cs.1 + (mcOf y).1, cs.2 + (mcOf y).2) Q
        | .inr e => match hnd j pc e with
          | none => Q (.inr e) M'
          | some h => wp n d j (hop j h).1 (hop j h).2 [] [] M' (cs.1 + (mcOf y).1, cs.2 + (mcOf y).2) Q) (wp_m _ _ _ _ _ _ _ _ _ _ _ _ _ (Nat.le_refl _) (Nat.le_refl _) (fun o M' z => by
          cases o with
          | inl v => exact z
          | inr e =>
            dsimp only at z ⊢
            cases hh : hnd j pc e with
            | none => rw [hh] at z; exact ⟨0, z⟩
            | some k => rw [hh] at z; exact z) q)
      refine ⟨max f n, wp_m _ _ _ _ _ _ _ _ _ _ _ _ _ (Nat.le_max_left _ _) (Nat.le_refl _) (fun o M' z => ?_) q⟩
      cases o with
      | inl v => exact wp_m _ _ _ _ _ _ _ _ _ _ _ _ _ (Nat.le_max_right _ _) (Nat.le_refl _) (fun _ _ w => w) z
      | inr e =>
        dsimp only at z ⊢
        cases hh : hnd j pc e with
        | none => rw [hh] at z; exact z
        | some k => rw [hh] at z; exact wp_m _ _ _ _ _ _ _ _ _ _ _ _ _ (Nat.le_max_right _ _) (Nat.le_refl _) (fun _ _ w => w) z⟩) q)) (fun v q => ⟨0, q⟩) (fun e q => ⟨0, q⟩) h)
  obtain ⟨n, h1⟩ := h1
  exact ⟨n + 1, h1⟩
theorem ble_le {a b : Nat} (h : Nat.ble a b = true) : a ≤ b := Nat.le_of_ble_eq_true h
theorem exk_e {b : Bool} {X : Nat → FS → FI → FJ → Prop} {e : Nat} {S : FS} {F : FI} {G : FJ} (h : exk b X e S F G) : X e S F G := by
  cases b
  · exact h.elim
  · unfold exk ex4 at h
    dsimp only at h
    split at h
    · exact h
    · exact h
    · exact h
    · exact h
    · exact h.elim
theorem sx_s : ∀ (iy : List Nat) (f d j pc : Nat) (ops : List Op) (ls st : List Vl) (M : Mm) (cs : Nat × Nat) (Q : Rs → Mm → Prop), sx iy f d j pc ops ls st M cs Q → wpo d j pc ops ls st M cs Q := by
  intro iy f
  induction f with
  | zero =>
    intro d j pc ops ls st M cs Q h
    exact h
  | succ f ih =>
    intro d j pc ops ls st M cs Q h
    cases ops with
    | nil => exact h.elim
    | cons op ops =>
      unfold sx at h
      refine wpo_step (ex_m (fun ls st M cs q => ih _ _ _ _ _ _ _ _ _ q) (fun t st q => ?_) (fun y as r q => ?_) (fun v q => q) (fun e q => q) h)
      · split at q
        · exact q
        · exact ih _ _ _ _ _ _ _ _ _ q
      · refine chk_i (fun q => ?_) q
        split at q
        · obtain ⟨hd, q⟩ := chk_e q
          refine ⟨ble_le hd, wpo_m (Nat.le_refl _) (fun o M' z => ?_) (ih _ _ _ _ _ _ _ _ _ q)⟩
          cases o with
          | inl v => exact ih _ _ _ _ _ _ _ _ _ z
          | inr e =>
            dsimp only at z ⊢
            cases hh : hnd j pc e with
            | none => rw [hh] at z; exact z
            | some k => rw [hh] at z; exact ih _ _ _ _ _ _ _ _ _ z
        · obtain ⟨hd, q⟩ := chk_e q
          have hd := ble_le hd
          refine ⟨by omega, ?_⟩
          split at q
          all_goals
            refine wpo_m (by omega) (fun o M' z => ?_) q
            obtain ⟨S, F, G, rfl, z⟩ := z
            split at z
            · exact ih _ _ _ _ _ _ _ _ _ z
            · rename_i e
              replace z := exk_e z
              dsimp only at z ⊢
              cases hh : hnd j pc e with
              | none => rw [hh] at z; exact z
              | some k => rw [hh] at z; exact ih _ _ _ _ _ _ _ _ _ z
            · exact z.elim
theorem sxh (iy : List Nat) (f : Nat) {d j t : Nat} {ls st : List Vl} {M : Mm} {cs : Nat × Nat} {Q : Rs → Mm → Prop} (h : sx iy f d j t (cod j t).2 ls st M cs Q) : wph d j t ls st M cs Q := sx_s _ _ _ _ _ _ _ _ _ _ _ h
theorem sxc (iy : List Nat) (f : Nat) {d y : Nat} {as : List Vl} {M : Mm} {Q : Rs → Mm → Prop} (h : sx iy f d y 0 (cod y 0).2 (spr as) [] M (0, 0) Q) : cal d y as M Q := sx_s _ _ _ _ _ _ _ _ _ _ _ h
