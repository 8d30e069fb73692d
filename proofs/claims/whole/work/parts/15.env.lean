/-! ===== what holds of the machine's tables at every method's start ===== -/
def tabs (k : Nat) : List Cond := match k with
  | 0 => k2_sels lw_privs
  | 1 => tables_1_1
  | 2 => tables_1_2
  | 3 => tables_1_3
  | 4 => tables_1_4
  | 5 => tables_1_5
  | 6 => tables_1_6
  | 7 => tables_1_7
  | 8 => tables_1_8
  | 9 => tables_1_9
  | 10 => tables_1_10
  | _ => []
theorem tabs_in {k o : Nat} {w : Cond} (h : (tabs k)[o]? = some w) : w ∈ lw_tbl := by
  have h := List.mem_of_getElem? h
  unfold tabs at h
  show w ∈ k2_sels lw_privs ++ (tables_1_1 ++ (tables_1_2 ++ (tables_1_3 ++ (tables_1_4 ++ (tables_1_5 ++ (tables_1_6 ++ (tables_1_7 ++ (tables_1_8 ++ (tables_1_9 ++ tables_1_10)))))))))
  simp only [List.mem_append]
  split at h
  · exact Or.inl h
  · exact Or.inr (Or.inl h)
  · exact Or.inr (Or.inr (Or.inl h))
  · exact Or.inr (Or.inr (Or.inr (Or.inl h)))
  · exact Or.inr (Or.inr (Or.inr (Or.inr (Or.inl h))))
  · exact Or.inr (Or.inr (Or.inr (Or.inr (Or.inr (Or.inl h)))))
  · exact Or.inr (Or.inr (Or.inr (Or.inr (Or.inr (Or.inr (Or.inl h))))))
  · exact Or.inr (Or.inr (Or.inr (Or.inr (Or.inr (Or.inr (Or.inr (Or.inl h)))))))
  · exact Or.inr (Or.inr (Or.inr (Or.inr (Or.inr (Or.inr (Or.inr (Or.inr (Or.inl h))))))))
  · exact Or.inr (Or.inr (Or.inr (Or.inr (Or.inr (Or.inr (Or.inr (Or.inr (Or.inr (Or.inl h)))))))))
  · exact Or.inr (Or.inr (Or.inr (Or.inr (Or.inr (Or.inr (Or.inr (Or.inr (Or.inr (Or.inr h)))))))))
  · cases h
def gw (w : Cond) : Bool := match w with
  | .methodLinkNest .. => true
  | .castable .. => true
  | .declares _ => true
  | w => goodWord w
theorem gw_on {w : Cond} (h : gw w = true) : w.onTables = true ∨ ∃ ty, w = .arrayClass ty := by
  unfold gw at h
  split at h
  · exact Or.inl rfl
  · exact Or.inl rfl
  · exact Or.inl rfl
  · rcases good_of_word h with h | h
    · rw [Bool.and_eq_true] at h
      exact Or.inl h.1
    · exact Or.inr h
theorem gw_args {w : Cond} (h : gw w = true) {A A' : Array Value} {u U : State} (hv : u.vm = U.vm) (hb : w.before A u = true) : w.before A' U = true := by
  rcases gw_on h with h | ⟨ty, rfl⟩
  · exact va_tabs h hv hb
  · exact word_at (hv ▸ State.WarmedH.refl u) (Or.inr ⟨ty, rfl⟩) hb
theorem gw_warm {w : Cond} (h : gw w = true) {A' : Array Value} {u U : State} (hW : u.WarmedH U.vm) (hb : w.before #[] u = true) : w.before A' U = true := by
  have key : w.before #[] U = true := by
    unfold gw at h
    split at h
    · exact va_Nw.warmM hW hb
    · exact va_Nw.warmC hW hb
    · exact va_Nw.warmD hW hb
    · exact word_at hW (good_of_word h) hb
  exact gw_args h rfl key
/-- the words that go on holding -/
def TS : List Cond := lw_tbl.filter gw
theorem TS_in {k o : Nat} {w : Cond} (h : (tabs k)[o]? = some w) (hg : gw w = true) : w ∈ TS := List.mem_filter.mpr ⟨tabs_in h, hg⟩
theorem TS_gw {w : Cond} (h : w ∈ TS) : gw w = true := (List.mem_filter.mp h).2
theorem TS_args {A A' : Array Value} {u U : State} (hv : u.vm = U.vm) (h : ∀ w ∈ TS, w.before A u = true) : ∀ w ∈ TS, w.before A' U = true := fun w hw => gw_args (TS_gw hw) hv (h w hw)
theorem TS_warm {A' : Array Value} {u U : State} (hW : u.WarmedH U.vm) (h : ∀ w ∈ TS, w.before #[] u = true) : ∀ w ∈ TS, w.before A' U = true := fun w hw => gw_warm (TS_gw hw) hW (h w hw)
def exn (e : Nat) : String := match e with
  | 0 => "java/lang/IndexOutOfBoundsException"
  | 1 => "java/util/NoSuchElementException"
  | 2 => "java/lang/IllegalArgumentException"
  | _ => "java/lang/IllegalStateException"
def strLens : List Nat := (List.range NSTR).map strL
def strBs : List (List Int32) := strCs.map (fun l => l.map Int32.ofInt)
/-- statics that String's own code and the exceptions' read -/
def SE (b0 : Nat) (adV : Nat → Nat) (ad : Nat → Nat) (U : State) (H : Heap) : Prop :=
  (∀ t : Nat, t < NSTR → vk_S 1 [strLens.getD t 0] [strBs.getD t []] (fun _ => ad (2000000 + t)) (fun _ => adV t) (AA b0) U H) ∧ va_Z "java/lang/String" "COMPACT_STRINGS" "Z" (.int 1) (AA b0) U H ∧ vx_Zq "jdk/internal/util/Preconditions" "SIOOBE_FORMATTER" "Ljava/util/function/BiFunction;" (AA b0) U H ∧
  vx_Zq Bundle.tN "UNASSIGNED_STACK" Bundle.steD (AA b0) U H ∧ vx_Zq Bundle.tN "SUPPRESSED_SENTINEL" Bundle.listD (AA b0) U H
theorem SE_1 {b0 : Nat} {adV ad : Nat → Nat} {U : State} {H : Heap} (h : ∀ t : Nat, t < NSTR → vk_S 1 [strLens.getD t 0] [strBs.getD t []] (fun _ => ad (2000000 + t)) (fun _ => adV t) (AA b0) U H) (t : Nat) (ht : t < NSTR) : va_O "java/lang/String" (ad (2000000 + t)) (AA b0) U H ∧ va_OF "java/lang/String" "coder" "B" (.int 0) (ad (2000000 + t)) (AA b0) U H ∧ va_OF "java/lang/String" "value" "[B" (.ref (adV t)) (ad (2000000 + t)) (AA b0) U H ∧ va_T .byte (adV t) (strLens.getD t 0) (fun j => .int ((strBs.getD t []).getD j 0)) (AA b0) U H := (h t ht).1 0 Nat.one_pos
def EV (D : va_G) (T : T4) (b0 L : Nat) (xs : Nat → Int32) (adV : Nat → Nat) (ad : Nat → Nat) (U : State) : Prop :=
  (∀ w ∈ TS, w.before #[] U = true) ∧ va_K D vwCl (tyl T) U ∧ va_X (ad 1000000) L xs U U.heap ∧ ad 1000000 < b0 ∧ b0 ≤ U.heap.size ∧ L ≤ 3072 ∧
  (∀ t, t < NSTR → vk_R (strO.getD t ("", 0, "")).1 (strO.getD t ("", 0, "")).2.1 (strO.getD t ("", 0, "")).2.2 (ad (2000000 + t)) U) ∧ SE b0 adV ad U U.heap ∧ va_AO "GlassLeaders$Party" U ∧ (∀ a b, a < 4 → b < 4 → a ≠ b → va_Nc (exn a) (exn b) U)
theorem EV_mv {D : va_G} {T : T4} {b0 L : Nat} {xs : Nat → Int32} {adV ad ad' : Nat → Nat} {s U : State} {H : Heap} {locs : List Loc} (h : EV D T b0 L xs adV ad s) (hW : s.WarmedH U.vm) (hS : va_S (AA b0) s.heap H locs) (hH : U.heap = H) (had : ∀ a, 1000000 ≤ a → ad' a = ad a) : EV D T b0 L xs adV ad' U := by
  obtain ⟨h1, h2, h3, h4, h5, h6, h7, ⟨s1, s2, s3, s4, s5⟩, h9, h10⟩ := h
  have hal := hW.alike
  have hk : ∀ q : Nat, q < s.heap.size → ¬ AA b0 q → U.heap[q]? = s.heap[q]? := fun q q1 q2 => by rw [hH]; exact hS.2.1 q q1 q2
  have ha1 : ad' 1000000 = ad 1000000 := had _ (Nat.le_refl _)
  have hsl : (fun t => ad' (2000000 + t)) = fun t => ad (2000000 + t) := funext fun t => had _ (by omega)
  refine ⟨TS_warm hW h1, h2.moved hal, ?_, by rw [ha1]; exact h4, by rw [hH]; exact Nat.le_trans h5 hS.1, h6, fun t ht => by rw [had _ (by omega)]; exact (h7 t ht).warm hW, ⟨?_, ?_, ?_, ?_, ?_⟩, ?_, fun a b ha hb hab => (h10 a b ha hb hab).moved hal⟩
  · rw [ha1]
    exact (h3.kept (hk _ (by omega) (fun q => by unfold AA at q; omega))).moved hal
  · intro t ht
    have q := ((s1 t ht).kept hk).moved hal
    rw [← congrFun hsl t] at q
    exact q
  · exact (s2.kept hk).moved hal
  · exact (s3.kept hk).moved hal
  · exact (s4.kept hk).moved hal
  · exact (s5.kept hk).moved hal
  · exact va_AO.moved hal h9
theorem EV_vm {D : va_G} {T : T4} {b0 L : Nat} {xs : Nat → Int32} {adV ad : Nat → Nat} {s U : State} (h : EV D T b0 L xs adV ad s) (hv : s.vm = U.vm) (hH : U.heap = s.heap) : EV D T b0 L xs adV ad U :=
  EV_mv h (hv ▸ State.WarmedH.refl s) va_S.rf hH (fun _ _ => rfl)
