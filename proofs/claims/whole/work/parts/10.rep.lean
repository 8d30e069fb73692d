/-! ===== how the small machine's memory lies in the heap ===== -/
def rf (ad : Nat → Nat) (r : Nat) : Option Nat := match r with
  | 0 => none
  | r + 1 => some (ad (r + 1))
def cf (ad : Nat → Nat) (v : Vl) : Value := match v with
  | .inl a => .int (Int32.ofInt a)
  | .inr (.inl a) => .long (Int64.ofInt a)
  | .inr (.inr (.inl r)) => va_rf (rf ad r)
  | .inr (.inr (.inr ())) => .null
def fv (ad : Nat → Nat) (M : Mm) (k i t : Nat) : Value := match t with
  | 0 => .int (Int32.ofInt (gI M k i))
  | 1 => .long (Int64.ofInt (gJ M k i))
  | 2 => va_rf (rf ad (M.2.1 k i))
  | 3 => .int (Int32.ofInt (gI M k i))
  | _ => va_rf (rf ad (M.2.2.1 k i))
def fl (ad : Nat → Nat) (M : Mm) (k ci : Nat) : List Value := (List.range (ft ci).length).map (fun i => fv ad M k i ((ft ci).getD i 0))
abbrev T4 : Type := ClassId × ClassId × ClassId × ClassId
def en (T : T4) (ad : Nat → Nat) (M : Mm) (k : Nat) : va_E := match (M.1 k).1 with
  | 0 => .inr ((M.1 k).2, fl ad M k (M.1 k).2)
  | 1 => .inl (T.1, (M.1 k).2, .inl (fun i => Int32.ofInt (gI M k i)))
  | 2 => .inl (T.2.1, (M.1 k).2, .inr (.inl (fun i => Int64.ofInt (gJ M k i))))
  | 3 => .inl (T.2.2.1, (M.1 k).2, .inl (fun i => Int32.ofInt (gI M k i)))
  | _ => .inl (T.2.2.2, (M.1 k).2, .inr (.inr (.inr (.inr (fun i => rf ad (M.2.1 k i))))))
def wl' (T : T4) (ad : Nat → Nat) (M : Mm) : va_W := (List.range (gN M)).map (fun i => (ad (i + 1), en T ad M (i + 1)))
theorem wl_get {T : T4} {ad : Nat → Nat} {M : Mm} {k : Nat} (h1 : 1 ≤ k) (h2 : k ≤ gN M) : (wl' T ad M)[k - 1]? = some (ad k, en T ad M k) := by
  unfold wl'
  rw [List.getElem?_map, List.getElem?_range (by omega)]
  simp only [Option.map_some, show k - 1 + 1 = k by omega]
theorem wl_of {T : T4} {ad : Nat → Nat} {M : Mm} {i : Nat} {q : Nat × va_E} (h : (wl' T ad M)[i]? = some q) : i < gN M ∧ q = (ad (i + 1), en T ad M (i + 1)) := by
  unfold wl' at h
  have hl := (List.getElem?_eq_some_iff.mp h).1
  rw [List.length_map, List.length_range] at hl
  rw [List.getElem?_map, List.getElem?_range hl] at h
  exact ⟨hl, (Option.some.inj h).symm⟩
theorem wl_set {T : T4} {ad : Nat → Nat} {M M' : Mm} {k : Nat} {e : va_E} (h1 : 1 ≤ k) (h2 : k ≤ gN M) (hN : gN M' = gN M) (ho : ∀ a, a ≠ k → en T ad M' a = en T ad M a) (he : en T ad M' k = e) : (wl' T ad M).set (k - 1) (ad k, e) = wl' T ad M' := by
  apply List.ext_getElem?
  intro i
  by_cases hi : i < gN M
  · by_cases hk : i = k - 1
    · subst hk
      rw [List.getElem?_set_self (by unfold wl'; simp; omega), wl_get h1 (by omega), he]
    · rw [List.getElem?_set_ne (fun h => hk h.symm)]
      have a1 := wl_get (T := T) (ad := ad) (M := M) (k := i + 1) (by omega) (by omega)
      have a2 := wl_get (T := T) (ad := ad) (M := M') (k := i + 1) (by omega) (by omega)
      rw [show i + 1 - 1 = i by omega] at a1 a2
      rw [a1, a2, ho (i + 1) (by omega)]
  · rw [List.getElem?_eq_none (by unfold wl'; simp; omega), List.getElem?_eq_none (by unfold wl'; simp; omega)]
theorem wl_push {T : T4} {ad ad' : Nat → Nat} {M M' : Mm} {e : va_E} (hN : gN M' = gN M + 1) (had : ∀ a, a ≤ gN M → ad' a = ad a) (ho : ∀ a, 1 ≤ a → a ≤ gN M → en T ad' M' a = en T ad M a) (he : en T ad' M' (gN M + 1) = e) : wl' T ad M ++ [(ad' (gN M + 1), e)] = wl' T ad' M' := by
  apply List.ext_getElem?
  intro i
  have hl : (wl' T ad M).length = gN M := by unfold wl'; simp
  by_cases hi : i < gN M
  · rw [List.getElem?_append_left (by omega)]
    have a1 := wl_get (T := T) (ad := ad) (M := M) (k := i + 1) (by omega) (by omega)
    have a2 := wl_get (T := T) (ad := ad') (M := M') (k := i + 1) (by omega) (by omega)
    rw [show i + 1 - 1 = i by omega] at a1 a2
    rw [a1, a2, ho (i + 1) (by omega) (by omega), had _ (by omega)]
  · by_cases hi2 : i = gN M
    · subst hi2
      have a2 := wl_get (T := T) (ad := ad') (M := M') (k := gN M + 1) (by omega) (by omega)
      rw [show gN M + 1 - 1 = gN M by omega] at a2
      rw [a2, List.getElem?_append_right (by omega), hl, he]
      simp
    · rw [List.getElem?_eq_none (by simp [hl]; omega), List.getElem?_eq_none (by unfold wl'; simp; omega)]
/-- what always holds of a memory -/
def MI (L : Nat) (xs : Nat → Int32) (M : Mm) : Prop :=
  (∀ k i, inR (gI M k i)) ∧ (∀ k i, inL (gJ M k i)) ∧ (∀ k, (M.1 k).1 ≤ 4 → 1 ≤ k ∧ k ≤ gN M) ∧ (∀ k, (M.1 k).1 = 0 → (M.1 k).2 < 12) ∧ (∀ k, (M.1 k).2 < 2147483648) ∧
  (∀ k i, k ≤ gN M → M.2.1 k i ≤ gN M ∧ M.2.2.1 k i ≤ gN M) ∧ gN M ≤ 100000 ∧
  M.2.2.1 1000000 0 = L ∧ (∀ i, i < L → gI M 1000000 i = (xs i).toInt) ∧ (∀ k, (M.1 k).1 = 6 → k = 1000000) ∧ (∀ k, (M.1 k).1 = 7 → ∃ t, t < NSTR ∧ k = 2000000 + t ∧ (M.1 k).2 = strL t) ∧
  (∀ t i, t < NSTR → i < strL t → gI M (2000000 + t) i = strC t i)
/-- a value that fits -/
def rgv (M : Mm) (v : Vl) : Prop := match v with
  | .inl a => inR a
  | .inr (.inl a) => inL a
  | .inr (.inr (.inl r)) => r ≤ gN M ∨ 1000000 ≤ r
  | .inr (.inr (.inr ())) => True
theorem fl_len (ad : Nat → Nat) (M : Mm) (k ci : Nat) : (fl ad M k ci).length = (ft ci).length := by unfold fl; simp
theorem fl_get {ad : Nat → Nat} {M : Mm} {k ci i : Nat} (h : i < (ft ci).length) : (fl ad M k ci)[i]? = some (fv ad M k i ((ft ci).getD i 0)) := by
  unfold fl
  rw [List.getElem?_map, List.getElem?_range h]
  rfl
theorem fl_set {ad : Nat → Nat} {M M' : Mm} {k ci i : Nat} {v : Value} (h : i < (ft ci).length) (ho : ∀ a t, a ≠ i → fv ad M' k a t = fv ad M k a t) (he : fv ad M' k i ((ft ci).getD i 0) = v) : (fl ad M k ci).set i v = fl ad M' k ci := by
  apply List.ext_getElem?
  intro a
  by_cases ha : a < (ft ci).length
  · by_cases hk : a = i
    · subst hk
      rw [List.getElem?_set_self (by rw [fl_len]; exact h), fl_get ha, he]
    · rw [List.getElem?_set_ne (fun h => hk h.symm), fl_get ha, fl_get ha, ho _ _ hk]
  · rw [List.getElem?_eq_none (by simp [fl_len]; omega), List.getElem?_eq_none (by simp [fl_len]; omega)]
theorem en_obj {T : T4} {ad : Nat → Nat} {M : Mm} {k ci : Nat} (h : kq (M.1 k) 0 ci = true) : en T ad M k = .inr (ci, fl ad M k ci) ∧ (M.1 k).1 = 0 ∧ (M.1 k).2 = ci := by
  unfold kq at h
  rw [Bool.and_eq_true] at h
  have h1 : (M.1 k).1 = 0 := Nat.eq_of_beq_eq_true h.1
  have h2 : (M.1 k).2 = ci := Nat.eq_of_beq_eq_true h.2
  unfold en
  rw [h1, h2]
  exact ⟨rfl, rfl, rfl⟩
theorem u2_ne {α : Type} {f : Nat → Nat → α} {k i a : Nat} {v : α} (h : a ≠ k) (b : Nat) : u2 f k i v a b = f a b := by
  unfold u2
  rw [if_neg (fun q => h q.1)]
theorem u2_nei {α : Type} {f : Nat → Nat → α} {k i a b : Nat} {v : α} (h : b ≠ i) : u2 f k i v a b = f a b := by
  unfold u2
  rw [if_neg (fun q => h q.2)]
theorem u2_eq {α : Type} {f : Nat → Nat → α} {k i : Nat} {v : α} : u2 f k i v k i = v := by
  unfold u2
  rw [if_pos ⟨rfl, rfl⟩]
theorem u2_at {α : Type} {f : Nat → Nat → α} {k i b : Nat} {v : α} : u2 f k i v k b = if b = i then v else f k b := by
  unfold u2
  by_cases h : b = i
  · rw [if_pos ⟨rfl, h⟩, if_pos h]
  · rw [if_neg (fun q => h q.2), if_neg h]
/-- another cell's entry -/
theorem en_wI {T : T4} {ad : Nat → Nat} {M : Mm} {k i a : Nat} {v : Int} (h : a ≠ k) : en T ad (wI M k i v) a = en T ad M a := by
  unfold en fl fv wI gI gJ
  simp only [u2_ne h]
theorem en_wJ {T : T4} {ad : Nat → Nat} {M : Mm} {k i a : Nat} {v : Int} (h : a ≠ k) : en T ad (wJ M k i v) a = en T ad M a := by
  unfold en fl fv wJ gI gJ
  simp only [u2_ne h]
theorem en_wR {T : T4} {ad : Nat → Nat} {M : Mm} {k i a : Nat} {v : Nat} (h : a ≠ k) : en T ad (wR M k i v) a = en T ad M a := by
  unfold en fl fv wR gI gJ
  simp only [u2_ne h]
theorem en_wS {T : T4} {ad : Nat → Nat} {M : Mm} {k i a : Nat} {v : Nat} (h : a ≠ k) : en T ad (wS M k i v) a = en T ad M a := by
  unfold en fl fv wS gI gJ
  simp only [u2_ne h]
theorem en_cpI {T : T4} {ad : Nat → Nat} {M : Mm} {s sp k tp n a : Nat} (h : a ≠ k) : en T ad (cpI M s sp k tp n) a = en T ad M a := by
  unfold en fl fv cpI gI gJ c2
  simp only [if_neg h]
theorem en_cpJ {T : T4} {ad : Nat → Nat} {M : Mm} {s sp k tp n a : Nat} (h : a ≠ k) : en T ad (cpJ M s sp k tp n) a = en T ad M a := by
  unfold en fl fv cpJ gI gJ c2
  simp only [if_neg h]
/-- the locals that are held -/
def lvl (ad : Nat → Nat) (ls : List Vl) : List (Nat × Value) := (List.range ls.length).filterMap (fun i => match ls.getD i jk with
  | .inr (.inr (.inr ())) => none
  | v => some (i, cf ad v))
theorem lvl_mem {ad : Nat → Nat} {ls : List Vl} {q : Nat × Value} : q ∈ lvl ad ls ↔ ∃ v, ls[q.1]? = some v ∧ v ≠ jk ∧ q.2 = cf ad v := by
  unfold lvl
  rw [List.mem_filterMap]
  constructor
  · rintro ⟨i, hi, h⟩
    rw [List.mem_range] at hi
    have hg : ls[i]? = some (ls.getD i jk) := by simp [hi]
    split at h
    · cases h
    · rename_i hne
      cases h
      exact ⟨_, hg, fun e => hne e, rfl⟩
  · rintro ⟨v, h1, h2, h3⟩
    have hi := (List.getElem?_eq_some_iff.mp h1).1
    refine ⟨q.1, List.mem_range.mpr hi, ?_⟩
    have hg : ls.getD q.1 jk = v := by simp [h1]
    rw [hg]
    split
    · exact absurd rfl h2
    · rw [← h3]
theorem lv_mem {LS : Array Slot} {n : Nat} {l l' : List (Nat × Value)} (h : lv_has LS n l) (hm : ∀ q ∈ l', q ∈ l) : lv_has LS n l' := ⟨h.1, h.2.1, fun q hq => h.2.2 q (hm q hq)⟩
theorem lv_val {LS : Array Slot} {n : Nat} {ad : Nat → Nat} {ls : List Vl} {i : Nat} {v : Vl} (h : lv_has LS n (lvl ad ls)) (hv : ls.getD i jk = v) (hn : v ≠ jk) : LS[i]? = some (.val (cf ad v)) := by
  have hi : i < ls.length := by
    by_cases hi : i < ls.length
    · exact hi
    · exfalso
      apply hn
      rw [← hv]
      simp [Nat.not_lt.mp hi]
  exact h.2.2 (i, cf ad v) (lvl_mem.mpr ⟨v, by simp [← hv, hi], hn, rfl⟩)
theorem sto_get (v : Vl) : ∀ (i : Nat) (ls : List Vl) (k : Nat) (w : Vl), (sto v i ls)[k]? = some w → w ≠ jk → (k = i ∧ w = v) ∨ (k ≠ i ∧ ls[k]? = some w ∧ (k + 1 = i → ctg w ≠ 2))
  | 0, [], k, w, h, hw => by
    cases k with
    | zero => simp [sto] at h; exact Or.inl ⟨rfl, h.symm⟩
    | succ k => simp [sto] at h
  | 0, x :: r, k, w, h, hw => by
    cases k with
    | zero => simp [sto] at h; exact Or.inl ⟨rfl, h.symm⟩
    | succ k => simp [sto] at h; exact Or.inr ⟨by omega, by simpa using h, fun e => by omega⟩
  | 1, x :: r, k, w, h, hw => by
    cases k with
    | zero =>
      rcases x with a | a | x
      · have h : some (Sum.inl a) = some w := h
        cases h
        exact Or.inr ⟨by omega, rfl, fun _ => show ¬ ((1 : Nat) = 2) by decide⟩
      · have h : some jk = some w := h
        cases h
        exact absurd rfl hw
      · have h : some (Sum.inr (Sum.inr x)) = some w := h
        cases h
        exact Or.inr ⟨by omega, rfl, fun _ => show ¬ ((1 : Nat) = 2) by decide⟩
    | succ k =>
      have h : (sto v 0 r)[k]? = some w := h
      rcases sto_get v 0 r k w h hw with ⟨h1, h2⟩ | ⟨h1, h2, h3⟩
      · exact Or.inl ⟨by omega, h2⟩
      · exact Or.inr ⟨by omega, by simpa using h2, fun e => by omega⟩
  | 1, [], k, w, h, hw => by
    cases k with
    | zero => simp [sto] at h; exact absurd h.symm hw
    | succ k =>
      have h : (sto v 0 [])[k]? = some w := h
      rcases sto_get v 0 [] k w h hw with ⟨h1, h2⟩ | ⟨h1, h2, h3⟩
      · exact Or.inl ⟨by omega, h2⟩
      · simp at h2
  | n + 2, [], k, w, h, hw => by
    cases k with
    | zero => simp [sto] at h; exact absurd h.symm hw
    | succ k =>
      have h : (sto v (n + 1) [])[k]? = some w := h
      rcases sto_get v (n + 1) [] k w h hw with ⟨h1, h2⟩ | ⟨h1, h2, h3⟩
      · exact Or.inl ⟨by omega, h2⟩
      · simp at h2
  | n + 2, x :: r, k, w, h, hw => by
    cases k with
    | zero => simp [sto] at h; exact Or.inr ⟨by omega, by simp [h], fun e => by omega⟩
    | succ k =>
      have h : (sto v (n + 1) r)[k]? = some w := h
      rcases sto_get v (n + 1) r k w h hw with ⟨h1, h2⟩ | ⟨h1, h2, h3⟩
      · exact Or.inl ⟨by omega, h2⟩
      · exact Or.inr ⟨by omega, by simpa using h2, fun e => h3 (by omega)⟩
theorem pu_get : ∀ (i : Nat) (ls : List Vl) (k : Nat) (w : Vl), (pu jk i ls)[k]? = some w → w ≠ jk → k ≠ i ∧ ls[k]? = some w
  | 0, [], k, w, h, hw => by
    cases k with
    | zero => simp [pu] at h; exact absurd h.symm hw
    | succ k => simp [pu] at h
  | 0, x :: r, k, w, h, hw => by
    cases k with
    | zero => simp [pu] at h; exact absurd h.symm hw
    | succ k => simp [pu] at h; exact ⟨by omega, by simpa using h⟩
  | n + 1, [], k, w, h, hw => by
    cases k with
    | zero => simp [pu] at h; exact absurd h.symm hw
    | succ k =>
      simp only [pu, List.getElem?_cons_succ] at h
      have h2 := pu_get n [] k w h hw
      simp at h2
  | n + 1, x :: r, k, w, h, hw => by
    cases k with
    | zero => simp [pu] at h; exact ⟨by omega, by simp [h]⟩
    | succ k =>
      simp only [pu, List.getElem?_cons_succ] at h
      have h2 := pu_get n r k w h hw
      exact ⟨by omega, by simpa using h2.2⟩
theorem cat_cf (ad : Nat → Nat) (v : Vl) : (cf ad v).category = ctg v := by
  rcases v with a | a | r | u
  · rfl
  · rfl
  · unfold cf ctg
    cases r <;> rfl
  · rfl
theorem lvl_sto {ad : Nat → Nat} {ls : List Vl} {i : Nat} {v : Vl} : ∀ q ∈ lvl ad (sto v i ls), q ∈ (i, cf ad v) :: (lvl ad ls).filter (fun q => !(q.1 == i) && !(q.1 + 1 == i && q.2.category == 2)) := by
  intro q hq
  obtain ⟨w, h1, h2, h3⟩ := lvl_mem.mp hq
  rcases sto_get v i ls q.1 w h1 h2 with ⟨a, b⟩ | ⟨a, b, c⟩
  · rw [List.mem_cons]
    left
    rw [← b, ← h3, ← a]
  · rw [List.mem_cons]
    right
    rw [List.mem_filter]
    refine ⟨lvl_mem.mpr ⟨w, b, h2, h3⟩, ?_⟩
    simp only [Bool.and_eq_true, Bool.not_eq_true', beq_eq_false_iff_ne, Bool.and_eq_false_iff, ne_eq]
    refine ⟨a, ?_⟩
    by_cases e : q.1 + 1 = i
    · right
      rw [h3, cat_cf]
      exact c e
    · left
      exact e
theorem lvl_stoL {ad : Nat → Nat} {ls : List Vl} {i : Nat} {v : Vl} : ∀ q ∈ lvl ad (pu jk (i + 1) (sto v i ls)), q ∈ (i, cf ad v) :: (lvl ad ls).filter (fun q => !(q.1 == i) && (!(q.1 == i + 1) && !(q.1 + 1 == i && q.2.category == 2))) := by
  intro q hq
  obtain ⟨w, h1, h2, h3⟩ := lvl_mem.mp hq
  obtain ⟨h4, h1⟩ := pu_get _ _ _ _ h1 h2
  rcases sto_get v i ls q.1 w h1 h2 with ⟨a, b⟩ | ⟨a, b, c⟩
  · rw [List.mem_cons]
    left
    rw [← b, ← h3, ← a]
  · rw [List.mem_cons]
    right
    rw [List.mem_filter]
    refine ⟨lvl_mem.mpr ⟨w, b, h2, h3⟩, ?_⟩
    simp only [Bool.and_eq_true, Bool.not_eq_true', beq_eq_false_iff_ne, Bool.and_eq_false_iff, ne_eq]
    refine ⟨a, h4, ?_⟩
    by_cases e : q.1 + 1 = i
    · right
      rw [h3, cat_cf]
      exact c e
    · left
      exact e
theorem lvl_mk {ad : Nat → Nat} : ∀ (m : List Bool) (ls : List Vl), ∀ q ∈ lvl ad (mk m ls), q ∈ lvl ad ls := by
  have key : ∀ (m : List Bool) (ls : List Vl) (k : Nat) (w : Vl), (mk m ls)[k]? = some w → w ≠ jk → ls[k]? = some w := by
    intro m
    induction m with
    | nil => intro ls k w h hw; simp [mk] at h
    | cons b m ih =>
      intro ls k w h hw
      cases ls with
      | nil => cases b <;> simp [mk] at h
      | cons v r =>
        cases b
        · cases k with
          | zero => simp [mk] at h; exact absurd h.symm hw
          | succ k => simp only [mk, List.getElem?_cons_succ] at h ⊢; exact ih r k w h hw
        · cases k with
          | zero => simpa [mk] using h
          | succ k => simp only [mk, List.getElem?_cons_succ] at h ⊢; exact ih r k w h hw
  intro m ls q hq
  obtain ⟨w, h1, h2, h3⟩ := lvl_mem.mp hq
  exact lvl_mem.mpr ⟨w, key _ _ _ _ h1 h2, h2, h3⟩
