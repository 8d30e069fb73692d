/-! ===== the cells may be numbered otherwise: pn gives the number here of a cell as it was made, qn the other way ===== -/
def pn (k : Nat) : Nat := if k < 2 ∨ 73 ≤ k then k else if k ≤ 33 then k + 39 else k - 32
def qn (k : Nat) : Nat := if k < 2 ∨ 73 ≤ k then k else if k ≤ 40 then k + 32 else k - 39
theorem pn_id {k : Nat} (h : 73 ≤ k) : pn k = k := if_pos (Or.inr h)
theorem qn_id {k : Nat} (h : 73 ≤ k) : qn k = k := if_pos (Or.inr h)
theorem qp (k : Nat) : qn (pn k) = k := by
  unfold qn pn
  by_cases h : k < 2 ∨ 73 ≤ k
  · rw [if_pos h, if_pos h]
  · rw [if_neg h]
    by_cases h2 : k ≤ 33
    · rw [if_pos h2, if_neg (by omega), if_neg (by omega)]
      omega
    · rw [if_neg h2, if_neg (by omega), if_pos (by omega)]
      omega
theorem pq (k : Nat) : pn (qn k) = k := by
  unfold qn pn
  by_cases h : k < 2 ∨ 73 ≤ k
  · rw [if_pos h, if_pos h]
  · rw [if_neg h]
    by_cases h2 : k ≤ 40
    · rw [if_pos h2, if_neg (by omega), if_neg (by omega)]
      omega
    · rw [if_neg h2, if_neg (by omega), if_pos (by omega)]
      omega
theorem pn_le {k n : Nat} (hn : 72 ≤ n) : pn k ≤ n ↔ k ≤ n := by
  unfold pn
  by_cases h : k < 2 ∨ 73 ≤ k
  · rw [if_pos h]
  · rw [if_neg h]
    by_cases h2 : k ≤ 33
    · rw [if_pos h2]
      omega
    · rw [if_neg h2]
      omega
theorem qn_big {k n : Nat} (hn : 73 ≤ n) : qn k = n ↔ k = n := by
  constructor
  · intro h
    rw [← pq k, h, pn_id hn]
  · intro h
    rw [h, qn_id hn]
theorem qn_lt {k n : Nat} (hn : 73 ≤ n) : qn k < n ↔ k < n := by
  unfold qn
  by_cases h : k < 2 ∨ 73 ≤ k
  · rw [if_pos h]
  · rw [if_neg h]
    by_cases h2 : k ≤ 40
    · rw [if_pos h2]
      omega
    · rw [if_neg h2]
      omega
def pv (v : Vl) : Vl := match v with
  | .inl a => .inl a
  | .inr (.inl a) => .inr (.inl a)
  | .inr (.inr (.inl a)) => .inr (.inr (.inl (pn a)))
  | .inr (.inr (.inr u)) => .inr (.inr (.inr u))
def po (o : Rs) : Rs := match o with
  | .inl v => .inl (v.map pv)
  | .inr e => .inr e
def Prm (M : Mm) : Mm := (fun k => M.1 (qn k), fun k i => pn (M.2.1 (qn k) i), fun k i => if (M.1 (qn k)).1 = 6 then M.2.2.1 (qn k) i else pn (M.2.2.1 (qn k) i), fun k i => M.2.2.2.1 (qn k) i, fun k i => M.2.2.2.2.1 (qn k) i, M.2.2.2.2.2)
section PMS
variable {M : Mm} {k i : Nat}
theorem PM_1 : (Prm M).1 (pn k) = M.1 k := by
  show M.1 (qn (pn k)) = _
  rw [qp]
theorem PM_I : gI (Prm M) (pn k) i = gI M k i := by
  show M.2.2.2.1 (qn (pn k)) i = _
  rw [qp]
  rfl
theorem PM_J : gJ (Prm M) (pn k) i = gJ M k i := by
  show M.2.2.2.2.1 (qn (pn k)) i = _
  rw [qp]
  rfl
theorem PM_R : (Prm M).2.1 (pn k) i = pn (M.2.1 k i) := by
  show pn (M.2.1 (qn (pn k)) i) = _
  rw [qp]
theorem PM_S (h : (M.1 k).1 ≠ 6) : (Prm M).2.2.1 (pn k) i = pn (M.2.2.1 k i) := by
  show (if (M.1 (qn (pn k))).1 = 6 then M.2.2.1 (qn (pn k)) i else pn (M.2.2.1 (qn (pn k)) i)) = _
  rw [qp, if_neg h]
theorem PM_S6 (h : (M.1 k).1 = 6) : (Prm M).2.2.1 (pn k) i = M.2.2.1 k i := by
  show (if (M.1 (qn (pn k))).1 = 6 then M.2.2.1 (qn (pn k)) i else pn (M.2.2.1 (qn (pn k)) i)) = _
  rw [qp, if_pos h]
theorem u2_p {α : Type} {f : Nat → Nat → α} {v : α} {a b : Nat} : u2 f k i v (qn a) b = u2 (fun k i => f (qn k) i) (pn k) i v a b := by
  unfold u2
  by_cases e : a = pn k ∧ b = i
  · rw [if_pos e, if_pos ⟨by rw [e.1, qp], e.2⟩]
  · rw [if_neg e, if_neg (fun h => e ⟨by rw [← h.1, pq], h.2⟩)]
theorem PM_wI {v : Int} : Prm (wI M k i v) = wI (Prm M) (pn k) i v := by
  refine Prod.ext rfl (Prod.ext rfl (Prod.ext rfl (Prod.ext ?_ rfl)))
  funext a b
  exact u2_p
theorem PM_wJ {v : Int} : Prm (wJ M k i v) = wJ (Prm M) (pn k) i v := by
  refine Prod.ext rfl (Prod.ext rfl (Prod.ext rfl (Prod.ext rfl (Prod.ext ?_ rfl))))
  funext a b
  exact u2_p
theorem PM_wR {v : Nat} : Prm (wR M k i v) = wR (Prm M) (pn k) i (pn v) := by
  refine Prod.ext rfl (Prod.ext ?_ rfl)
  funext a b
  show pn (u2 M.2.1 k i v (qn a) b) = u2 (fun k i => pn (M.2.1 (qn k) i)) (pn k) i (pn v) a b
  rw [u2_p]
  unfold u2
  by_cases e : a = pn k ∧ b = i
  · rw [if_pos e, if_pos e]
  · rw [if_neg e, if_neg e]
theorem PM_wS {v : Nat} (hk : (M.1 k).1 ≠ 6) : Prm (wS M k i v) = wS (Prm M) (pn k) i (pn v) := by
  refine Prod.ext rfl (Prod.ext rfl (Prod.ext ?_ rfl))
  funext a b
  show (if (M.1 (qn a)).1 = 6 then u2 M.2.2.1 k i v (qn a) b else pn (u2 M.2.2.1 k i v (qn a) b)) = u2 (fun k i => if (M.1 (qn k)).1 = 6 then M.2.2.1 (qn k) i else pn (M.2.2.1 (qn k) i)) (pn k) i (pn v) a b
  rw [u2_p]
  unfold u2
  by_cases e : a = pn k ∧ b = i
  · rw [if_pos e, if_pos e, if_neg (by rw [e.1, qp]; exact hk)]
  · rw [if_neg e, if_neg e]
theorem PM_nw {q : Nat × Nat} (hN : 72 ≤ gN M) : Prm (nw M q) = nw (Prm M) q := by
  have e : ∀ {a}, a = gN M + 1 → qn a = gN M + 1 := fun h => (qn_big (by omega)).mpr h
  have e' : ∀ {a}, ¬ a = gN M + 1 → ¬ qn a = gN M + 1 := fun h h2 => h ((qn_big (by omega)).mp h2)
  refine Prod.ext ?_ (Prod.ext ?_ (Prod.ext ?_ (Prod.ext ?_ (Prod.ext ?_ rfl))))
  · funext a
    show (if qn a = gN M + 1 then q else M.1 (qn a)) = if a = gN M + 1 then q else M.1 (qn a)
    by_cases h : a = gN M + 1
    · rw [if_pos (e h), if_pos h]
    · rw [if_neg (e' h), if_neg h]
  · funext a b
    show pn (if qn a = gN M + 1 then 0 else M.2.1 (qn a) b) = if a = gN M + 1 then 0 else pn (M.2.1 (qn a) b)
    by_cases h : a = gN M + 1
    · rw [if_pos (e h), if_pos h]
      rfl
    · rw [if_neg (e' h), if_neg h]
  · funext a b
    show (if (if qn a = gN M + 1 then q else M.1 (qn a)).1 = 6 then (if qn a = gN M + 1 then 0 else M.2.2.1 (qn a) b) else pn (if qn a = gN M + 1 then 0 else M.2.2.1 (qn a) b)) = if a = gN M + 1 then 0 else (if (M.1 (qn a)).1 = 6 then M.2.2.1 (qn a) b else pn (M.2.2.1 (qn a) b))
    by_cases h : a = gN M + 1
    · rw [if_pos (e h), if_pos (e h), if_pos h]
      split
      · rfl
      · rfl
    · rw [if_neg (e' h), if_neg (e' h), if_neg h]
  · funext a b
    show (if qn a = gN M + 1 then 0 else M.2.2.2.1 (qn a) b) = if a = gN M + 1 then 0 else M.2.2.2.1 (qn a) b
    by_cases h : a = gN M + 1
    · rw [if_pos (e h), if_pos h]
    · rw [if_neg (e' h), if_neg h]
  · funext a b
    show (if qn a = gN M + 1 then 0 else M.2.2.2.2.1 (qn a) b) = if a = gN M + 1 then 0 else M.2.2.2.2.1 (qn a) b
    by_cases h : a = gN M + 1
    · rw [if_pos (e h), if_pos h]
    · rw [if_neg (e' h), if_neg h]
theorem c2_p {α : Type} {f : Nat → Nat → α} {s sp t tp n a b : Nat} : c2 f s sp t tp n (qn a) b = c2 (fun k i => f (qn k) i) (pn s) sp (pn t) tp n a b := by
  have es : (fun i => f (qn (pn s)) i) = f s := by rw [qp]
  have et : (fun i => f (qn (pn t)) i) = f t := by rw [qp]
  show (if qn a = t then va_cpy (f s) (f t) sp tp n b else f (qn a) b) = if a = pn t then va_cpy (fun i => f (qn (pn s)) i) (fun i => f (qn (pn t)) i) sp tp n b else f (qn a) b
  rw [es, et]
  by_cases e : a = pn t
  · rw [if_pos e, if_pos (by rw [e, qp])]
  · rw [if_neg e, if_neg (fun h => e (by rw [← h, pq]))]
theorem PM_cpI {s sp t tp n : Nat} : Prm (cpI M s sp t tp n) = cpI (Prm M) (pn s) sp (pn t) tp n := by
  refine Prod.ext rfl (Prod.ext rfl (Prod.ext rfl (Prod.ext ?_ rfl)))
  funext a b
  exact c2_p
theorem PM_cpJ {s sp t tp n : Nat} : Prm (cpJ M s sp t tp n) = cpJ (Prm M) (pn s) sp (pn t) tp n := by
  refine Prod.ext rfl (Prod.ext rfl (Prod.ext rfl (Prod.ext rfl (Prod.ext ?_ rfl))))
  funext a b
  exact c2_p
theorem bl_p {v : Nat} (hN : 72 ≤ gN M) : Nat.ble (pn v) (gN (Prm M)) = Nat.ble v (gN M) := by
  rw [Bool.eq_iff_iff, Nat.ble_eq, Nat.ble_eq]
  exact pn_le hN
theorem PM_N : gN (Prm M) = gN M := rfl
end PMS
theorem kq_k {q : Nat × Nat} {t c : Nat} (h : kq q t c = true) : q.1 = t := by
  unfold kq at h
  rw [Bool.and_eq_true] at h
  exact Nat.eq_of_beq_eq_true h.1
theorem sto_p (v : Vl) : ∀ (i : Nat) (ls : List Vl), sto (pv v) i (ls.map pv) = (sto v i ls).map pv
  | 0, [] => rfl
  | 0, _ :: _ => rfl
  | 1, [] => rfl
  | 1, x :: r => by
    have h := sto_p v 0 r
    rcases x with a | a | a | a
    all_goals
      show _ :: sto (pv v) 0 (r.map pv) = _ :: (sto v 0 r).map pv
      rw [h]
      rfl
  | n + 2, [] => by
    have h := sto_p v (n + 1) []
    show jk :: sto (pv v) (n + 1) (([] : List Vl).map pv) = pv jk :: (sto v (n + 1) []).map pv
    rw [h]
    rfl
  | n + 2, x :: r => by
    have h := sto_p v (n + 1) r
    show pv x :: sto (pv v) (n + 1) (r.map pv) = pv x :: (sto v (n + 1) r).map pv
    rw [h]
theorem pu_p (v : Vl) : ∀ (i : Nat) (ls : List Vl), pu (pv v) i (ls.map pv) = (pu v i ls).map pv
  | 0, [] => rfl
  | 0, _ :: _ => rfl
  | n + 1, [] => by
    have h := pu_p v n []
    show jk :: pu (pv v) n (([] : List Vl).map pv) = pv jk :: (pu v n []).map pv
    rw [h]
    rfl
  | n + 1, x :: r => by
    have h := pu_p v n r
    show pv x :: pu (pv v) n (r.map pv) = pv x :: (pu v n r).map pv
    rw [h]
theorem sto_i (a : Int) (i : Nat) (ls : List Vl) : sto (.inl a) i (ls.map pv) = (sto (.inl a) i ls).map pv := sto_p (.inl a) i ls
theorem sto_l (a : Int) (i : Nat) (ls : List Vl) : sto (.inr (.inl a)) i (ls.map pv) = (sto (.inr (.inl a)) i ls).map pv := sto_p (.inr (.inl a)) i ls
theorem sto_r (a i : Nat) (ls : List Vl) : sto (.inr (.inr (.inl (pn a)))) i (ls.map pv) = (sto (.inr (.inr (.inl a))) i ls).map pv := sto_p (.inr (.inr (.inl a))) i ls
theorem pu_j (i : Nat) (ls : List Vl) : pu jk i (ls.map pv) = (pu jk i ls).map pv := pu_p jk i ls
theorem mk_p : ∀ (m : List Bool) (ls : List Vl), mk m (ls.map pv) = (mk m ls).map pv
  | [], [] => rfl
  | [], _ :: _ => rfl
  | true :: _, [] => rfl
  | false :: _, [] => rfl
  | true :: m, v :: r => by
    have h := mk_p m r
    show pv v :: mk m (r.map pv) = pv v :: (mk m r).map pv
    rw [h]
  | false :: m, v :: r => by
    have h := mk_p m r
    show jk :: mk m (r.map pv) = pv jk :: (mk m r).map pv
    rw [h]
    rfl
theorem spr_p : ∀ (as : List Vl), spr (as.map pv) = (spr as).map pv
  | [] => rfl
  | .inl a :: r => by
    have h := spr_p r
    show .inl a :: spr (r.map pv) = .inl a :: (spr r).map pv
    rw [h]
  | .inr (.inl a) :: r => by
    have h := spr_p r
    show .inr (.inl a) :: jk :: spr (r.map pv) = .inr (.inl a) :: jk :: (spr r).map pv
    rw [h]
  | .inr (.inr (.inl a)) :: r => by
    have h := spr_p r
    show .inr (.inr (.inl (pn a))) :: spr (r.map pv) = .inr (.inr (.inl (pn a))) :: (spr r).map pv
    rw [h]
  | .inr (.inr (.inr a)) :: r => by
    have h := spr_p r
    show .inr (.inr (.inr a)) :: spr (r.map pv) = .inr (.inr (.inr a)) :: (spr r).map pv
    rw [h]
theorem aft_p (v : Option Vl) (r : List Vl) : aft (v.map pv) (r.map pv) = (aft v r).map pv := by
  cases v <;> rfl
theorem ctg_p (r : List Vl) : (r.map pv).map ctg = r.map ctg := by
  rw [List.map_map]
  refine List.map_congr_left fun v _ => ?_
  rcases v with a | a | a | a <;> rfl
theorem catOK_p (r : List Vl) : catOK (r.map pv) = catOK r := by
  unfold catOK
  rw [ctg_p]
theorem catL_p (r : List Vl) : catL (r.map pv) = catL r := by
  unfold catL
  rw [ctg_p]
theorem gd_p (ls : List Vl) (i : Nat) : (ls.map pv).getD i jk = pv (ls.getD i jk) := by
  rw [List.getD_eq_getElem?_getD, List.getD_eq_getElem?_getD, List.getElem?_map]
  cases ls[i]? <;> rfl
theorem tr_p (st : List Vl) (n : Nat) : ((st.map pv).take n).reverse = ((st.take n).reverse).map pv := by
  rw [← List.map_take, List.map_reverse]
theorem dr_p (st : List Vl) (n : Nat) : (st.map pv).drop n = (st.drop n).map pv := by
  rw [← List.map_drop]
section PP
variable {st ls : List Vl} {i : Nat}
theorem p1I_p {k k' : Int → List Vl → Prop} (hk : ∀ a r, k' a (r.map pv) → k a r) (h : p1I (st.map pv) k') : p1I st k := by
  rcases st with _ | ⟨v, r⟩
  · exact h.elim
  · rcases v with a | a | a | a
    all_goals first
      | exact hk _ _ h
      | exact h.elim
theorem p1R_p {k k' : Nat → List Vl → Prop} (hk : ∀ a r, k' (pn a) (r.map pv) → k a r) (h : p1R (st.map pv) k') : p1R st k := by
  rcases st with _ | ⟨v, r⟩
  · exact h.elim
  · rcases v with a | a | a | a
    all_goals first
      | exact hk _ _ h
      | exact h.elim
theorem p2I_p {k k' : Int → Int → List Vl → Prop} (hk : ∀ a b r, k' a b (r.map pv) → k a b r) (h : p2I (st.map pv) k') : p2I st k := by
  rcases st with _ | ⟨v, _ | ⟨w, r⟩⟩
  · exact h.elim
  · rcases v with a | a | a | a <;> exact h.elim
  · rcases v with a | a | a | a
    all_goals rcases w with b | b | b | b
    all_goals first
      | exact hk _ _ _ h
      | exact h.elim
theorem p2L_p {k k' : Int → Int → List Vl → Prop} (hk : ∀ a b r, k' a b (r.map pv) → k a b r) (h : p2L (st.map pv) k') : p2L st k := by
  rcases st with _ | ⟨v, _ | ⟨w, r⟩⟩
  · exact h.elim
  · rcases v with a | a | a | a <;> exact h.elim
  · rcases v with a | a | a | a
    all_goals rcases w with b | b | b | b
    all_goals first
      | exact hk _ _ _ h
      | exact h.elim
theorem pIR_p {k k' : Nat → Int → List Vl → Prop} (hk : ∀ a i r, k' (pn a) i (r.map pv) → k a i r) (h : pIR (st.map pv) k') : pIR st k := by
  rcases st with _ | ⟨v, _ | ⟨w, r⟩⟩
  · exact h.elim
  · rcases v with a | a | a | a <;> exact h.elim
  · rcases v with a | a | a | a
    all_goals rcases w with b | b | b | b
    all_goals first
      | exact hk _ _ _ h
      | exact h.elim
theorem lI_p {k k' : Int → Prop} (hk : ∀ a, k' a → k a) (h : lI (ls.map pv) i k') : lI ls i k := by
  unfold lI at h ⊢
  rw [gd_p] at h
  generalize ls.getD i jk = v at h ⊢
  rcases v with a | a | a | a
  all_goals first
    | exact hk _ h
    | exact h.elim
theorem lL_p {k k' : Int → Prop} (hk : ∀ a, k' a → k a) (h : lL (ls.map pv) i k') : lL ls i k := by
  unfold lL at h ⊢
  rw [gd_p] at h
  generalize ls.getD i jk = v at h ⊢
  rcases v with a | a | a | a
  all_goals first
    | exact hk _ h
    | exact h.elim
theorem lR_p {k k' : Nat → Prop} (hk : ∀ a, k' (pn a) → k a) (h : lR (ls.map pv) i k') : lR ls i k := by
  unfold lR at h ⊢
  rw [gd_p] at h
  generalize ls.getD i jk = v at h ⊢
  rcases v with a | a | a | a
  all_goals first
    | exact hk _ h
    | exact h.elim
end PP
section PX
variable {M : Mm} {st : List Vl} {cs : Nat × Nat} {y n ci : Nat}
theorem exFld_p {aux : List Nat} {o : Nat} {k k' : Vl → Prop} (hk : ∀ v, k' (pv v) → k v) (h : exFld aux (pn o) (Prm M) k') : exFld aux o M k := by
  unfold exFld at h ⊢
  split at h
  · rw [PM_1, PM_I] at h
    exact chk_i (hk (.inl _)) h
  · rw [PM_1, PM_J] at h
    exact chk_i (hk (.inr (.inl _))) h
  · rw [PM_1, PM_R] at h
    exact chk_i (hk (.inr (.inr (.inl _)))) h
  · rw [PM_1, PM_I] at h
    exact chk_i (hk (.inl _)) h
  · obtain ⟨h1, h2⟩ := chk_e h
    rw [PM_1] at h1
    rw [PM_S (by rw [kq_k h1]; decide)] at h2
    exact chk_of h1 (hk (.inr (.inr (.inl _))) h2)
  · exact h.elim
theorem exPut_p {aux : List Nat} (hN : 72 ≤ gN M) {k k' : List Vl → Mm → Prop} (hk : ∀ r M, 72 ≤ gN M → k' (r.map pv) (Prm M) → k r M) (h : exPut aux (st.map pv) (Prm M) k') : exPut aux st M k := by
  unfold exPut at h ⊢
  split at h
  · rename_i c j t
    rcases st with _ | ⟨v, _ | ⟨w, r⟩⟩
    · exact h.elim
    · rcases v with a | a | a | a <;> exact h.elim
    · rcases v with a | a | a | a
      all_goals rcases w with b | b | b | b
      all_goals first | exact h.elim | skip
      replace h : chk (kq ((Prm M).1 (pn b)) 0 c) (k' (r.map pv) (wI (Prm M) (pn b) j a)) := h
      rw [PM_1, ← PM_wI] at h
      exact chk_i (hk r (wI M b j a) hN) h
  · rename_i c j t
    rcases st with _ | ⟨v, _ | ⟨w, r⟩⟩
    · exact h.elim
    · rcases v with a | a | a | a <;> exact h.elim
    · rcases v with a | a | a | a
      all_goals rcases w with b | b | b | b
      all_goals first | exact h.elim | skip
      replace h : chk (kq ((Prm M).1 (pn b)) 0 c) (k' (r.map pv) (wJ (Prm M) (pn b) j a)) := h
      rw [PM_1, ← PM_wJ] at h
      exact chk_i (hk r (wJ M b j a) hN) h
  · rename_i c j t
    rcases st with _ | ⟨v, _ | ⟨w, r⟩⟩
    · exact h.elim
    · rcases v with a | a | a | a <;> exact h.elim
    · rcases v with a | a | a | a
      all_goals rcases w with b | b | b | b
      all_goals first | exact h.elim | skip
      replace h : chk (kq ((Prm M).1 (pn b)) 0 c && Nat.ble (pn a) (gN (Prm M))) (k' (r.map pv) (wR (Prm M) (pn b) j (pn a))) := h
      rw [PM_1, bl_p hN, ← PM_wR] at h
      exact chk_i (hk r (wR M b j a) hN) h
  · rename_i c j t
    rcases st with _ | ⟨v, _ | ⟨w, r⟩⟩
    · exact h.elim
    · rcases v with a | a | a | a <;> exact h.elim
    · rcases v with a | a | a | a
      all_goals rcases w with b | b | b | b
      all_goals first | exact h.elim | skip
      replace h : chk (kq ((Prm M).1 (pn b)) 0 c) (chk (zb a) (k' (r.map pv) (wI (Prm M) (pn b) j a))) := h
      rw [PM_1, ← PM_wI] at h
      exact chk_i (chk_i (hk r (wI M b j a) hN)) h
  · rename_i c j t
    rcases st with _ | ⟨v, _ | ⟨w, r⟩⟩
    · exact h.elim
    · rcases v with a | a | a | a <;> exact h.elim
    · rcases v with a | a | a | a
      all_goals rcases w with b | b | b | b
      all_goals first | exact h.elim | skip
      replace h : chk (kq ((Prm M).1 (pn b)) 0 c && Nat.ble (pn a) (gN (Prm M))) (k' (r.map pv) (wS (Prm M) (pn b) j (pn a))) := h
      obtain ⟨h1, h2⟩ := chk_e h
      rw [PM_1, bl_p hN] at h1
      have hb := kq_k (Bool.and_eq_true _ _ ▸ h1 : kq (M.1 b) 0 c = true ∧ _).1
      rw [← PM_wS (by rw [hb]; decide)] at h2
      exact chk_of h1 (hk r (wS M b j a) hN h2)
  · exact h.elim
theorem exV_p {kc kc' : Nat → List Vl → List Vl → Prop} (hc : ∀ y as r, kc' y (as.map pv) (r.map pv) → kc y as r) (h : exV y n ci (st.map pv) (Prm M) kc') : exV y n ci st M kc := by
  unfold exV at h ⊢
  rw [tr_p, dr_p, catOK_p, List.length_map] at h
  generalize (st.take n).reverse = as at h ⊢
  rcases as with _ | ⟨v, as⟩
  · exact h.elim
  · rcases v with a | a | a | a
    all_goals first | exact h.elim | skip
    replace h : chk (catOK (st.drop n) && Nat.ble n st.length) (chk (kq ((Prm M).1 (pn a)) 0 ci) (kc' y (.inr (.inr (.inl (pn a))) :: as.map pv) ((st.drop n).map pv))) := h
    rw [PM_1] at h
    exact chk_i (chk_i (hc y (.inr (.inr (.inl a)) :: as) _)) h
theorem exW_p {kc kc' : Nat → List Vl → List Vl → Prop} (hc : ∀ y as r, kc' y (as.map pv) (r.map pv) → kc y as r) (h : exW y n ci (st.map pv) (Prm M) kc') : exW y n ci st M kc := by
  unfold exW at h ⊢
  rw [tr_p, dr_p, catL_p, List.length_map] at h
  generalize (st.take n).reverse = as at h ⊢
  rcases as with _ | ⟨v, as⟩
  · exact h.elim
  · rcases v with a | a | a | a
    all_goals first | exact h.elim | skip
    replace h : chk (catL (st.drop n) && Nat.ble n st.length) (chk (kq ((Prm M).1 (pn a)) 0 ci) (kc' y (.inr (.inr (.inl (pn a))) :: as.map pv) ((st.drop n).map pv))) := h
    rw [PM_1] at h
    exact chk_i (chk_i (hc y (.inr (.inr (.inl a)) :: as) _)) h
theorem exCall_p {aux : List Nat} {kn kn' : List Vl → Mm → Nat × Nat → Prop} {kc kc' : Nat → List Vl → List Vl → Prop} (hN : 72 ≤ gN M) (hn : ∀ st M cs, 72 ≤ gN M → kn' (st.map pv) (Prm M) cs → kn st M cs) (hc : ∀ y as r, kc' y (as.map pv) (r.map pv) → kc y as r) (h : exCall aux (st.map pv) (Prm M) cs kn' kc') : exCall aux st M cs kn kc := by
  unfold exCall at h ⊢
  split at h
  · exact exW_p hc h
  · exact exV_p hc h
  · exact exV_p hc h
  · rw [tr_p, dr_p, catOK_p, List.length_map] at h
    exact chk_i (hc _ _ _) h
  · refine p1R_p (fun o r q => ?_) h
    rw [catOK_p, PM_1] at q
    exact chk_i (chk_i (hn _ _ _ hN)) q
  · refine p1R_p (fun o r q => ?_) h
    rw [catOK_p, PM_1] at q
    exact chk_i (chk_i (hn (.inl _ :: r) _ _ hN)) q
  · refine pIR_p (fun o i r q => ?_) h
    rw [catOK_p, PM_1, PM_I] at q
    exact chk_i (chk_i (chk_i (hn (.inl _ :: r) _ _ hN))) q
  · refine p2I_p (fun a b r q => ?_) h
    rw [catOK_p] at q
    exact chk_i (hn (.inl _ :: r) _ _ hN) q
  · refine p2I_p (fun a b r q => ?_) h
    rw [catOK_p] at q
    exact chk_i (hn (.inl _ :: r) _ _ hN) q
  · rename_i tag t9
    rcases st with _ | ⟨v, st⟩
    · exact h.elim
    rcases v with v1 | v1 | v1 | v1
    all_goals first | exact h.elim | skip
    rcases st with _ | ⟨v, st⟩
    · exact h.elim
    rcases v with v2 | v2 | v2 | v2
    all_goals first | exact h.elim | skip
    rcases st with _ | ⟨v, st⟩
    · exact h.elim
    rcases v with v3 | v3 | v3 | v3
    all_goals first | exact h.elim | skip
    rcases st with _ | ⟨v, st⟩
    · exact h.elim
    rcases v with v4 | v4 | v4 | v4
    all_goals first | exact h.elim | skip
    rcases st with _ | ⟨v, st⟩
    · exact h.elim
    rcases v with v5 | v5 | v5 | v5
    all_goals first | exact h.elim | skip
    rcases tag with _ | _ | tag
    · have h1 : chk (catOK (st.map pv)) (chk (Nat.beq ((Prm M).1 (pn v5)).1 (0) && Nat.beq ((Prm M).1 (pn v3)).1 (0)) (chk (acp v4 v2 v1 ((Prm M).1 (pn v5)).2 ((Prm M).1 (pn v3)).2) (kn' (st.map pv) (cpJ (Prm M) (pn v5) v4.toNat (pn v3) v2.toNat v1.toNat) cs))) := h
      rw [catOK_p, PM_1, PM_1, ← PM_cpJ] at h1
      exact chk_i (chk_i (chk_i (hn st (cpJ M v5 v4.toNat v3 v2.toNat v1.toNat) cs hN))) h1
    · have h1 : chk (catOK (st.map pv)) (chk (Nat.beq ((Prm M).1 (pn v5)).1 (0 + 1) && Nat.beq ((Prm M).1 (pn v3)).1 (0 + 1)) (chk (acp v4 v2 v1 ((Prm M).1 (pn v5)).2 ((Prm M).1 (pn v3)).2) (kn' (st.map pv) (cpI (Prm M) (pn v5) v4.toNat (pn v3) v2.toNat v1.toNat) cs))) := h
      rw [catOK_p, PM_1, PM_1, ← PM_cpI] at h1
      exact chk_i (chk_i (chk_i (hn st (cpI M v5 v4.toNat v3 v2.toNat v1.toNat) cs hN))) h1
    · have h1 : chk (catOK (st.map pv)) (chk (Nat.beq ((Prm M).1 (pn v5)).1 (tag + 1 + 1) && Nat.beq ((Prm M).1 (pn v3)).1 (tag + 1 + 1)) (chk (acp v4 v2 v1 ((Prm M).1 (pn v5)).2 ((Prm M).1 (pn v3)).2) (kn' (st.map pv) (cpJ (Prm M) (pn v5) v4.toNat (pn v3) v2.toNat v1.toNat) cs))) := h
      rw [catOK_p, PM_1, PM_1, ← PM_cpJ] at h1
      exact chk_i (chk_i (chk_i (hn st (cpJ M v5 v4.toNat v3 v2.toNat v1.toNat) cs hN))) h1
  · exact h.elim
set_option maxHeartbeats 4000000 in
theorem ex_p {bd : Nat × Nat} {op : Op} {ls : List Vl} {kn kn' : List Vl → List Vl → Mm → Nat × Nat → Prop} {kj kj' : Nat → List Vl → Prop} {kc kc' : Nat → List Vl → List Vl → Prop} {kr kr' : Option Vl → Prop} {kt kt' : Nat → Prop} (hN : 72 ≤ gN M)
    (hn : ∀ ls st M cs, 72 ≤ gN M → kn' (ls.map pv) (st.map pv) (Prm M) cs → kn ls st M cs) (hj : ∀ t st, kj' t (st.map pv) → kj t st) (hc : ∀ y as r, kc' y (as.map pv) (r.map pv) → kc y as r) (hr : ∀ v : Option Vl, kr' (v.map pv) → kr v) (ht : ∀ e, kt' e → kt e) (h : ex bd op (ls.map pv) (st.map pv) (Prm M) cs kn' kj' kc' kr' kt') : ex bd op ls st M cs kn kj kc kr kt := by
  obtain ⟨ins, len, aux, cst⟩ := op
  have nI : ∀ {a : Int} {r : List Vl} {cs}, kn' (ls.map pv) (.inl a :: r.map pv) (Prm M) cs → kn ls (.inl a :: r) M cs := fun {a r cs} q => hn ls (.inl a :: r) M cs hN q
  have nL : ∀ {a : Int} {r : List Vl} {cs}, kn' (ls.map pv) (.inr (.inl a) :: r.map pv) (Prm M) cs → kn ls (.inr (.inl a) :: r) M cs := fun {a r cs} q => hn ls (.inr (.inl a) :: r) M cs hN q
  have nR : ∀ {a : Nat} {r : List Vl} {cs}, kn' (ls.map pv) (.inr (.inr (.inl (pn a))) :: r.map pv) (Prm M) cs → kn ls (.inr (.inr (.inl a)) :: r) M cs := fun {a r cs} q => hn ls (.inr (.inr (.inl a)) :: r) M cs hN q
  have nN : ∀ {kd : Nat × Nat} {r : List Vl} {cs}, kn' (ls.map pv) (.inr (.inr (.inl (gN (Prm M) + 1))) :: r.map pv) (nw (Prm M) kd) cs → kn ls (.inr (.inr (.inl (gN M + 1))) :: r) (nw M kd) cs := by
    intro kd r cs q
    rw [← PM_nw hN, PM_N, show gN M + 1 = pn (gN M + 1) from (pn_id (by omega)).symm] at q
    exact hn ls (.inr (.inr (.inl (gN M + 1))) :: r) (nw M kd) cs (Nat.le_succ_of_le hN) q
  unfold ex at h ⊢
  cases ins
  all_goals dsimp only at h ⊢
  all_goals first
    | exact h.elim
    | exact hn _ _ _ _ hN h
    | exact nI h
    | exact nL h
    | exact nR (a := 0) h
    | exact hj _ _ h
    | exact lI_p (fun a q => nI q) h
    | exact lL_p (fun a q => nL q) h
    | exact lR_p (fun a q => nR q) h
    | exact p1I_p (fun a r q => nI q) h
    | exact p1I_p (fun a r q => nL q) h
    | exact p2I_p (fun a b r q => nI q) h
    | exact p2L_p (fun a b r q => nL q) h
    | exact p2L_p (fun a b r q => nI q) h
    | exact p2I_p (fun a b r => chk_i nI) h
    | exact p1I_p (fun a r q => hn _ _ _ _ hN (by rw [← sto_i]; exact q)) h
    | exact p1R_p (fun a r q => hn _ _ _ _ hN (by rw [← sto_r]; exact q)) h
    | exact lI_p (fun a q => hn _ _ _ _ hN (by rw [← sto_i]; exact q)) h
    | exact p1R_p (fun o r q => exFld_p (fun v q => hn _ (v :: r) _ _ hN q) q) h
    | exact exPut_p hN (fun r M hN q => hn _ _ _ _ hN q) h
    | exact exCall_p hN (fun st M cs hN q => hn _ _ _ _ hN q) hc h
    | exact p1I_p (fun a r => swT_m (fun t q => hj _ _ q) _ _) h
    | exact p1I_p (fun a r => swL_m (fun t q => hj _ _ q) _ _) h
    | exact p1I_p (fun n r => chk_i (chk_i nN)) h
    | (refine pIR_p (fun a i r q => ?_) h
       first
         | (rw [PM_1, PM_I] at q; exact chk_i (chk_i nI) q)
         | (rw [PM_1, PM_J] at q; exact chk_i (chk_i nL) q)
         | (rw [PM_1, PM_R] at q; exact chk_i (chk_i nR) q))
    | skip
  all_goals first
    | (refine p2I_p (fun a b r q => ?_) h
       split <;> first | exact cnd_m (hj _ _) (hn _ _ _ _ hN) q | exact cnd_m (hn _ _ _ _ hN) (hj _ _) q)
    | (refine p1I_p (fun a r q => ?_) h
       split <;> first | exact cnd_m (hj _ _) (hn _ _ _ _ hN) q | exact cnd_m (hn _ _ _ _ hN) (hj _ _) q)
    | skip
  case ldc i =>
    split at h
    · obtain ⟨h1, h⟩ := chk_e h
      exact chk_of h1 (nR (by rw [pn_id (Nat.le_trans (by decide) (Nat.le_of_ble_eq_true h1))]; exact h))
    · exact nI h
  case ldc_w i =>
    split at h
    · obtain ⟨h1, h⟩ := chk_e h
      exact chk_of h1 (nR (by rw [pn_id (Nat.le_trans (by decide) (Nat.le_of_ble_eq_true h1))]; exact h))
    · exact nI h
  case lconst n =>
    split at h
    · exact nL h
    · exact nL h
  case lstore i =>
    rcases st with _ | ⟨v, r⟩
    · exact h.elim
    · rcases v with a | a | a | a
      all_goals first | exact h.elim | skip
      exact hn _ _ _ _ hN (by rw [← pu_j, ← sto_l]; exact h)
  case lstore_n i =>
    rcases st with _ | ⟨v, r⟩
    · exact h.elim
    · rcases v with a | a | a | a
      all_goals first | exact h.elim | skip
      exact hn _ _ _ _ hN (by rw [← pu_j, ← sto_l]; exact h)
  case lshr =>
    rcases st with _ | ⟨v, _ | ⟨w, r⟩⟩
    · exact h.elim
    · rcases v with a | a | a | a <;> exact h.elim
    · rcases v with a | a | a | a
      all_goals rcases w with b | b | b | b
      all_goals first | exact h.elim | exact nL h
  case dup =>
    rcases st with _ | ⟨v, r⟩
    · exact h.elim
    · rcases v with a | a | a | a
      · exact hn ls (.inl a :: .inl a :: r) M cs hN h
      · exact h.elim
      · exact hn ls (.inr (.inr (.inl a)) :: .inr (.inr (.inl a)) :: r) M cs hN h
      · exact h.elim
  case dup2 =>
    rcases st with _ | ⟨v, _ | ⟨w, r⟩⟩
    · exact h.elim
    · rcases v with a | a | a | a <;> exact h.elim
    · rcases v with a | a | a | a
      all_goals rcases w with b | b | b | b
      all_goals first | exact h.elim | exact hn ls (.inl a :: .inr (.inr (.inl b)) :: .inl a :: .inr (.inr (.inl b)) :: r) M cs hN h
  case pop =>
    rcases st with _ | ⟨v, r⟩
    · exact h.elim
    · rcases v with a | a | a | a
      all_goals first | exact h.elim | exact hn ls r M cs hN h
  case iaload =>
    split at h
    · refine pIR_p (fun a i r q => ?_) h
      obtain ⟨h1, h2⟩ := chk_e q
      rw [PM_1] at h1
      rw [PM_S6 (Nat.eq_of_beq_eq_true h1), PM_I] at h2
      exact chk_of h1 (chk_i nI h2)
    · refine pIR_p (fun a i r q => ?_) h
      rw [PM_1, PM_I] at q
      exact chk_i (chk_i nI) q
  case iastore =>
    rcases st with _ | ⟨u, _ | ⟨v, _ | ⟨w, r⟩⟩⟩
    · exact h.elim
    · rcases u with a | a | a | a <;> exact h.elim
    · rcases u with a | a | a | a <;> rcases v with b | b | b | b <;> exact h.elim
    · rcases u with a | a | a | a <;> rcases v with b | b | b | b <;> rcases w with c | c | c | c
      all_goals first | exact h.elim | skip
      have h1 : chk (Nat.beq ((Prm M).1 (pn c)).1 1) (chk (ib b ((Prm M).1 (pn c)).2) (kn' (ls.map pv) (r.map pv) (wI (Prm M) (pn c) b.toNat a) cs)) := h
      rw [PM_1, ← PM_wI] at h1
      exact chk_i (chk_i (hn ls r (wI M c b.toNat a) cs hN)) h1
  case bastore =>
    rcases st with _ | ⟨u, _ | ⟨v, _ | ⟨w, r⟩⟩⟩
    · exact h.elim
    · rcases u with a | a | a | a <;> exact h.elim
    · rcases u with a | a | a | a <;> rcases v with b | b | b | b <;> exact h.elim
    · rcases u with a | a | a | a <;> rcases v with b | b | b | b <;> rcases w with c | c | c | c
      all_goals first | exact h.elim | skip
      have h1 : chk (Nat.beq ((Prm M).1 (pn c)).1 3) (chk (ib b ((Prm M).1 (pn c)).2) (chk (zb a) (kn' (ls.map pv) (r.map pv) (wI (Prm M) (pn c) b.toNat a) cs))) := h
      rw [PM_1, ← PM_wI] at h1
      exact chk_i (chk_i (chk_i (hn ls r (wI M c b.toNat a) cs hN))) h1
  case lastore =>
    rcases st with _ | ⟨u, _ | ⟨v, _ | ⟨w, r⟩⟩⟩
    · exact h.elim
    · rcases u with a | a | a | a <;> exact h.elim
    · rcases u with a | a | a | a <;> rcases v with b | b | b | b <;> exact h.elim
    · rcases u with a | a | a | a <;> rcases v with b | b | b | b <;> rcases w with c | c | c | c
      all_goals first | exact h.elim | skip
      have h1 : chk (Nat.beq ((Prm M).1 (pn c)).1 2) (chk (ib b ((Prm M).1 (pn c)).2) (kn' (ls.map pv) (r.map pv) (wJ (Prm M) (pn c) b.toNat a) cs)) := h
      rw [PM_1, ← PM_wJ] at h1
      exact chk_i (chk_i (hn ls r (wJ M c b.toNat a) cs hN)) h1
  case aastore =>
    rcases st with _ | ⟨u, _ | ⟨v, _ | ⟨w, r⟩⟩⟩
    · exact h.elim
    · rcases u with a | a | a | a <;> exact h.elim
    · rcases u with a | a | a | a <;> rcases v with b | b | b | b <;> exact h.elim
    · rcases u with a | a | a | a <;> rcases v with b | b | b | b <;> rcases w with c | c | c | c
      all_goals first | exact h.elim | skip
      have h1 : chk (Nat.beq ((Prm M).1 (pn c)).1 4) (chk (kq ((Prm M).1 (pn a)) 0 (aux.headD 0)) (chk (ib b ((Prm M).1 (pn c)).2) (kn' (ls.map pv) (r.map pv) (wR (Prm M) (pn c) b.toNat (pn a)) cs))) := h
      rw [PM_1, PM_1, ← PM_wR] at h1
      exact chk_i (chk_i (chk_i (hn ls r (wR M c b.toNat a) cs hN))) h1
  case arraylength =>
    split at h
    · refine p1R_p (fun a r q => ?_) h
      obtain ⟨h1, h2⟩ := chk_e q
      rw [PM_1] at h1
      rw [PM_S6 (Nat.eq_of_beq_eq_true h1)] at h2
      exact chk_of h1 (nI h2)
    · refine p1R_p (fun a r q => ?_) h
      rw [PM_1] at q
      exact chk_i nI q
    · exact h.elim
  case new i =>
    split at h
    · rw [List.length_map] at h
      exact chk_i (chk_i (ht _)) h
    · exact chk_i nN h
    · exact h.elim
  case ireturn =>
    rcases st with _ | ⟨v, _ | ⟨w, r⟩⟩
    · exact h.elim
    · rcases v with a | a | a | a
      all_goals first | exact h.elim | skip
      generalize aux.headD 0 = z at h ⊢
      rcases z with _ | _ | _ | z
      · exact hr (some (.inl a)) h
      · exact hr (some (.inl a)) h
      · exact chk_i (hr (some (.inl a))) h
      · exact hr (some (.inl a)) h
    · rcases v with a | a | a | a <;> exact h.elim
  case lreturn =>
    rcases st with _ | ⟨v, _ | ⟨w, r⟩⟩
    · exact h.elim
    · rcases v with a | a | a | a
      all_goals first | exact h.elim | exact hr (some (.inr (.inl a))) h
    · rcases v with a | a | a | a <;> exact h.elim
  case return_ =>
    rcases st with _ | ⟨v, r⟩
    · exact hr none h
    · exact h.elim
end PX
theorem wp_p : ∀ (f d j pc : Nat) (ops : List Op) (ls st : List Vl) (M : Mm) (cs : Nat × Nat) (Q : Rs → Mm → Prop), 72 ≤ gN M → wp f d j pc ops (ls.map pv) (st.map pv) (Prm M) cs Q → wp f d j pc ops ls st M cs (fun o M' => 72 ≤ gN M' ∧ Q (po o) (Prm M')) := by
  intro f
  induction f with
  | zero =>
    intro d j pc ops ls st M cs Q hN h
    exact h.elim
  | succ f ih =>
    intro d j pc ops ls st M cs Q hN h
    cases ops with
    | nil => exact h.elim
    | cons op ops =>
      unfold wp at h ⊢
      refine ex_p hN (fun ls st M cs hN q => ih _ _ _ _ _ _ _ _ _ hN q) (fun t st q => ?_) (fun y as r q => ?_) (fun v q => ⟨hN, q⟩) (fun e q => ⟨hN, q⟩) h
      · rw [mk_p] at q
        exact ih _ _ _ _ _ _ _ _ _ hN q
      · rw [spr_p, List.length_map] at q
        refine chk_i (fun q => ⟨q.1, ?_⟩) q
        refine wp_m _ _ _ _ _ _ _ _ _ _ _ _ _ (Nat.le_refl _) (Nat.le_refl _) (fun o M' z => ?_) (ih _ _ _ _ _ [] _ _ _ hN q.2)
        obtain ⟨hN', z⟩ := z
        cases o with
        | inl v =>
          replace z : wp f d j (pc + 3) ops (ls.map pv) (aft (v.map pv) (r.map pv)) (Prm M') (cs.1 + (mcOf y).1, cs.2 + (mcOf y).2) Q := z
          rw [aft_p] at z
          exact ih _ _ _ _ _ _ _ _ _ hN' z
        | inr e =>
          dsimp only [po] at z ⊢
          cases e9 : hnd j pc e with
          | none =>
            rw [e9] at z
            exact ⟨hN', z⟩
          | some k =>
            rw [e9] at z
            exact ih _ _ _ _ [] [] _ _ _ hN' z
theorem wpo_p {d j pc : Nat} {ops : List Op} {ls st : List Vl} {M : Mm} {cs : Nat × Nat} {Q : Rs → Mm → Prop} (hN : 72 ≤ gN M) (h : wpo d j pc ops (ls.map pv) (st.map pv) (Prm M) cs Q) : wpo d j pc ops ls st M cs (fun o M' => 72 ≤ gN M' ∧ Q (po o) (Prm M')) := by
  obtain ⟨f, h⟩ := h
  exact ⟨f, wp_p _ _ _ _ _ _ _ _ _ _ hN h⟩
