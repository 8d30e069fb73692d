theorem chk_i {b : Bool} {P Q : Prop} (h : P → Q) (c : chk b P) : chk b Q := by
  cases b
  · exact c
  · exact h c
theorem chk_e {b : Bool} {P : Prop} (c : chk b P) : b = true ∧ P := by
  cases b
  · exact c.elim
  · exact ⟨rfl, c⟩
theorem chk_of {b : Bool} {P : Prop} (h : b = true) (c : P) : chk b P := by
  subst h
  exact c
theorem p1I_m {st : List Vl} {k k' : Int → List Vl → Prop} (hk : ∀ a r, k a r → k' a r) (h : p1I st k) : p1I st k' := by
  unfold p1I at h ⊢
  split at h
  · exact hk _ _ h
  · exact h.elim
theorem p2I_m {st : List Vl} {k k' : Int → Int → List Vl → Prop} (hk : ∀ a b r, k a b r → k' a b r) (h : p2I st k) : p2I st k' := by
  unfold p2I at h ⊢
  split at h
  · exact hk _ _ _ h
  · exact h.elim
theorem p2L_m {st : List Vl} {k k' : Int → Int → List Vl → Prop} (hk : ∀ a b r, k a b r → k' a b r) (h : p2L st k) : p2L st k' := by
  unfold p2L at h ⊢
  split at h
  · exact hk _ _ _ h
  · exact h.elim
theorem p1R_m {st : List Vl} {k k' : Nat → List Vl → Prop} (hk : ∀ a r, k a r → k' a r) (h : p1R st k) : p1R st k' := by
  unfold p1R at h ⊢
  split at h
  · exact hk _ _ h
  · exact h.elim
theorem pIR_m {st : List Vl} {k k' : Nat → Int → List Vl → Prop} (hk : ∀ a i r, k a i r → k' a i r) (h : pIR st k) : pIR st k' := by
  unfold pIR at h ⊢
  split at h
  · exact hk _ _ _ h
  · exact h.elim
theorem lI_m {ls : List Vl} {i : Nat} {k k' : Int → Prop} (hk : ∀ a, k a → k' a) (h : lI ls i k) : lI ls i k' := by
  unfold lI at h ⊢
  split at h
  · exact hk _ h
  · exact h.elim
theorem lL_m {ls : List Vl} {i : Nat} {k k' : Int → Prop} (hk : ∀ a, k a → k' a) (h : lL ls i k) : lL ls i k' := by
  unfold lL at h ⊢
  split at h
  · exact hk _ h
  · exact h.elim
theorem lR_m {ls : List Vl} {i : Nat} {k k' : Nat → Prop} (hk : ∀ a, k a → k' a) (h : lR ls i k) : lR ls i k' := by
  unfold lR at h ⊢
  split at h
  · exact hk _ h
  · exact h.elim
theorem cnd_m {b : Bool} {A B A' B' : Prop} (ha : A → A') (hb : B → B') (h : cnd b A B) : cnd b A' B' := by
  cases b
  · exact hb h
  · exact ha h
theorem swT_m {x : Int} {k k' : Nat → Prop} (hk : ∀ t, k t → k' t) {dflt : Nat} : ∀ (ts : List Nat) (lo : Int), swT x k dflt lo ts → swT x k' dflt lo ts := by
  intro ts
  induction ts with
  | nil => exact fun _ h => hk _ h
  | cons t ts ih => exact fun lo h => cnd_m (hk _) (ih _) h
theorem swL_m {x : Int} {k k' : Nat → Prop} (hk : ∀ t, k t → k' t) {dflt : Nat} : ∀ (ps : List (Int × Int)) (ts : List Nat), swL x k dflt ps ts → swL x k' dflt ps ts := by
  intro ps
  induction ps with
  | nil =>
    intro ts h
    unfold swL at h ⊢
    exact hk _ h
  | cons q ps ih =>
    intro ts h
    obtain ⟨a, b⟩ := q
    cases ts with
    | nil =>
      unfold swL at h ⊢
      exact hk _ h
    | cons t ts =>
      unfold swL at h ⊢
      exact cnd_m (hk _) (ih _) h
theorem exFld_m {aux : List Nat} {o : Nat} {M : Mm} {k k' : Vl → Prop} (hk : ∀ v, k v → k' v) (h : exFld aux o M k) : exFld aux o M k' := by
  unfold exFld at h ⊢
  split at h <;> first | exact chk_i (hk _) h | exact h.elim
theorem exPut_m {aux : List Nat} {st : List Vl} {M : Mm} {k k' : List Vl → Mm → Prop} (hk : ∀ r M, k r M → k' r M) (h : exPut aux st M k) : exPut aux st M k' := by
  unfold exPut at h ⊢
  split at h <;> first | exact h.elim | skip
  all_goals
    split at h <;> first | exact h.elim | exact chk_i (hk _ _) h | exact chk_i (chk_i (hk _ _)) h
theorem exV_m {y n ci : Nat} {st : List Vl} {M : Mm} {kc kc' : Nat → List Vl → List Vl → Prop} (hc : ∀ y as r, kc y as r → kc' y as r) (h : exV y n ci st M kc) : exV y n ci st M kc' := by
  unfold exV at h ⊢
  split at h
  · exact chk_i (chk_i (hc _ _ _)) h
  · exact h.elim
theorem exW_m {y n ci : Nat} {st : List Vl} {M : Mm} {kc kc' : Nat → List Vl → List Vl → Prop} (hc : ∀ y as r, kc y as r → kc' y as r) (h : exW y n ci st M kc) : exW y n ci st M kc' := by
  unfold exW at h ⊢
  split at h
  · exact chk_i (chk_i (hc _ _ _)) h
  · exact h.elim
theorem exCall_m {aux : List Nat} {st : List Vl} {M : Mm} {cs : Nat × Nat} {kn kn' : List Vl → Mm → Nat × Nat → Prop} {kc kc' : Nat → List Vl → List Vl → Prop} (hn : ∀ st M cs, kn st M cs → kn' st M cs) (hc : ∀ y as r, kc y as r → kc' y as r) (h : exCall aux st M cs kn kc) : exCall aux st M cs kn' kc' := by
  unfold exCall at h ⊢
  split at h
  · exact exW_m hc h
  · exact exV_m hc h
  · exact exV_m hc h
  · exact chk_i (hc _ _ _) h
  · exact p1R_m (fun a r => chk_i (chk_i (hn _ _ _))) h
  · exact p1R_m (fun a r => chk_i (chk_i (hn _ _ _))) h
  · exact pIR_m (fun a i r => chk_i (chk_i (chk_i (hn _ _ _)))) h
  · exact p2I_m (fun a b r => chk_i (hn _ _ _)) h
  · exact p2I_m (fun a b r => chk_i (hn _ _ _)) h
  · split at h
    · exact chk_i (chk_i (chk_i (hn _ _ _))) h
    · exact h.elim
  · exact h.elim
set_option maxHeartbeats 2000000 in
theorem ex_m {bd : Nat × Nat} {op : Op} {ls st : List Vl} {M : Mm} {cs : Nat × Nat} {kn kn' : List Vl → List Vl → Mm → Nat × Nat → Prop} {kj kj' : Nat → List Vl → Prop} {kc kc' : Nat → List Vl → List Vl → Prop} {kr kr' : Option Vl → Prop} {kt kt' : Nat → Prop}
    (hn : ∀ ls st M cs, kn ls st M cs → kn' ls st M cs) (hj : ∀ t st, kj t st → kj' t st) (hc : ∀ y as r, kc y as r → kc' y as r) (hr : ∀ v, kr v → kr' v) (ht : ∀ e, kt e → kt' e) (h : ex bd op ls st M cs kn kj kc kr kt) : ex bd op ls st M cs kn' kj' kc' kr' kt' := by
  obtain ⟨ins, len, aux, cst⟩ := op
  unfold ex at h ⊢
  cases ins
  all_goals dsimp only at h ⊢
  all_goals first
    | exact h.elim
    | exact hn _ _ _ _ h
    | exact hj _ _ h
    | exact lI_m (fun a q => hn _ _ _ _ q) h
    | exact lL_m (fun a q => hn _ _ _ _ q) h
    | exact lR_m (fun a q => hn _ _ _ _ q) h
    | exact p1I_m (fun a r q => hn _ _ _ _ q) h
    | exact p1R_m (fun a r q => hn _ _ _ _ q) h
    | exact p2I_m (fun a b r q => hn _ _ _ _ q) h
    | exact p2L_m (fun a b r q => hn _ _ _ _ q) h
    | exact p2I_m (fun a b r => chk_i (hn _ _ _ _)) h
    | exact p1R_m (fun o r => exFld_m (fun v q => hn _ _ _ _ q)) h
    | exact exPut_m (fun r M q => hn _ _ _ _ q) h
    | exact pIR_m (fun a i r => chk_i (chk_i (hn _ _ _ _))) h
    | exact exCall_m (fun st M cs q => hn _ _ _ _ q) hc h
    | exact p1I_m (fun a r => swT_m (fun t q => hj _ _ q) _ _) h
    | exact p1I_m (fun a r => swL_m (fun t q => hj _ _ q) _ _) h
    | exact p1I_m (fun n r => chk_i (chk_i (hn _ _ _ _))) h
    | skip
  all_goals first
    | (refine p2I_m (fun a b r q => ?_) h
       split <;> first | exact cnd_m (hj _ _) (hn _ _ _ _) q | exact cnd_m (hn _ _ _ _) (hj _ _) q)
    | (refine p1I_m (fun a r q => ?_) h
       split <;> first | exact cnd_m (hj _ _) (hn _ _ _ _) q | exact cnd_m (hn _ _ _ _) (hj _ _) q)
    | skip
  all_goals (split at h)
  all_goals first
    | exact h.elim
    | exact hn _ _ _ _ h
    | exact hr _ h
    | exact chk_i (chk_i (ht _)) h
    | exact chk_i (hn _ _ _ _) h
    | exact chk_i (chk_i (hn _ _ _ _)) h
    | exact chk_i (chk_i (chk_i (hn _ _ _ _))) h
    | exact pIR_m (fun a i r => chk_i (chk_i (hn _ _ _ _))) h
    | exact p1R_m (fun a r => chk_i (hn _ _ _ _)) h
    | skip
  all_goals (split at h)
  all_goals first
    | exact hr _ h
    | exact chk_i (hr _) h
theorem wp_m : ∀ (f f' d d' j pc : Nat) (ops : List Op) (ls st : List Vl) (M : Mm) (cs : Nat × Nat) (Q Q' : Rs → Mm → Prop), f ≤ f' → d ≤ d' → (∀ o M, Q o M → Q' o M) → wp f d j pc ops ls st M cs Q → wp f' d' j pc ops ls st M cs Q' := by
  intro f
  induction f with
  | zero =>
    intro f' d d' j pc ops ls st M cs Q Q' hf hd hQ h
    exact h.elim
  | succ f ih =>
    intro f' d d' j pc ops ls st M cs Q Q' hf hd hQ h
    obtain ⟨f', rfl⟩ : ∃ g, f' = g + 1 := ⟨f' - 1, by omega⟩
    have hf : f ≤ f' := by omega
    cases ops with
    | nil => exact h.elim
    | cons op ops =>
      unfold wp at h ⊢
      refine ex_m (fun ls st M cs => ih _ _ _ _ _ _ _ _ _ _ _ _ hf hd hQ) (fun t st => ih _ _ _ _ _ _ _ _ _ _ _ _ hf hd hQ) (fun y as r => chk_i (fun q => ⟨by omega, ih _ _ _ _ _ _ _ _ _ _ _ _ hf (by omega) (fun o M' => ?_) q.2⟩)) (fun v => hQ _ _) (fun e => hQ _ _) h
      cases o with
      | inl v => exact ih _ _ _ _ _ _ _ _ _ _ _ _ hf hd hQ
      | inr e =>
        dsimp only
        cases hnd j pc e with
        | none => exact hQ _ _
        | some k => exact ih _ _ _ _ _ _ _ _ _ _ _ _ hf hd hQ
theorem wpo_m {d d' j pc : Nat} {ops : List Op} {ls st : List Vl} {M : Mm} {cs : Nat × Nat} {Q Q' : Rs → Mm → Prop} (hd : d ≤ d') (hQ : ∀ o M, Q o M → Q' o M) (h : wpo d j pc ops ls st M cs Q) : wpo d' j pc ops ls st M cs Q' := by
  obtain ⟨f, h⟩ := h
  exact ⟨f, wp_m _ _ _ _ _ _ _ _ _ _ _ _ _ (Nat.le_refl _) hd hQ h⟩
