/-! THE CLAIM OUT OF ONE WALK OF THE LAW'S BODY. Your part is whole_start (and what it stands on); all else here is the same for every law, but numbers. -/
def R_law : String := "GlassLeadersLaw"
def lw_P (b : Addr) (xs : List Int32) (args : Array Value) (s : State) : Prop := args = #[.ref b] ∧ s.IntsAt b xs ∧ xs.length ≤ 3072 ∧ (Jvm.Cond.and given_1 narrow_1).before args s = true
def lw_Q (_ : Array Value) (s : State) (o : Outcome) (t : State) : Prop := o = .returned (some (.int 1)) ∧ Framed s o t [] 601024 7293034
def lw_Z (below : List Frame) (a : Array Value) (s : State) : State → Prop := fun t => ∃ o, t.status = .running ∧ Ended t below o ∧ lw_Q a s o t
/-- the law's own end, with 1 on the stack, nothing written that was there before, its room as the claim has it -/
theorem lw_ret {p : Program} {l : Launch} {e : Env} {s : State} {m : MethodId} {below : List Frame} {meth : Method} {c : Code} {b : Nat} (hx : p.tables.exec = Jvm.exec) (hb : c.code = code) (hr : meth.sig.returnType = ret) (hlocks : meth.locks = false) {pc : Nat} {H : Heap} {ls : Array Slot} (hdg : decode code pc = .ok (.ireturn, 1)) : W p l e room_1 s m #[Value.ref b] below meth c H [] 601024 7293034 (lw_Z below #[Value.ref b] s) (F0 m pc ls [.int 1]) := by
  intro T hT X
  obtain ⟨fs, hret, hrun, hended, hW, hframe⟩ := X.leave (v := some (.int 1)) (hlocks := hlocks) (fun h => by rw [hr] at h; cases h)
  have hmeth' : T.vm.method? m = some meth := X.method'
  refine ⟨T.setFrames fs, ?_, .returned (some (.int 1)), hrun, hended, rfl, ⟨_, rfl⟩, hW, hframe⟩
  jvm_step X.here [X.here.top, hx, hb, hdg, hmeth', hr, ret, narrow_b1]
  (try refine ⟨rfl, ?_⟩); (try refine ⟨rfl, ?_⟩)
  first | (intro acts; rw [hret _ acts rfl rfl rfl]) | rw [hret _ _ rfl rfl rfl]
  exact Steps.refl _
/-- what holds at the law's entry: the machine, the code, the tables' words (any of lw_tbl by 'hts w (by decide +kernel)'), the script of L ints xs at the cell b, what the Statement gives of the start (any of its parts by flat_of_before) -/
def lw_At (p : Program) (s : State) (m : MethodId) (meth : Method) (c : Code) (b L : Nat) (xs : Nat → Int32) : Prop :=
  p.tables.exec = Jvm.exec ∧ c.code = code ∧ meth.sig.returnType = ret ∧ c.maxLocals = 8 ∧ s.vm.findClass R_law = some m.cls ∧ (∀ w ∈ lw_tbl, w.before #[Value.ref b] s = true) ∧ va_X b L xs s s.heap ∧ b < s.heap.size ∧ meth.locks = false ∧ (Jvm.Cond.and given_1 narrow_1).before #[Value.ref b] s = true
/-! ===== the law is entered ===== -/
def srP : List (Nat × Nat) := [(5, 60), (4, 236), (4, 200), (3, 123), (8, 68), (8, 69), (8, 34), (8, 40), (8, 41), (8, 42), (8, 43), (8, 44), (8, 45), (8, 46), (8, 47), (8, 148), (8, 149), (8, 150), (8, 151), (8, 152), (8, 128), (8, 153), (8, 154), (8, 109), (8, 110), (8, 111), (3, 181), (4, 13), (4, 31), (4, 36), (4, 45), (4, 54), (4, 55), (4, 56), (4, 57), (4, 7), (4, 8), (4, 108), (4, 110), (4, 113), (4, 162), (4, 163), (4, 126), (4, 150), (4, 151), (4, 152), (4, 153), (4, 154), (4, 155), (4, 156), (4, 157)]
def exP : List Nat := [332, 314, 291, 69, 432, 441, 343, 354, 362, 372, 383, 393, 403, 413, 422, 480, 489, 498, 509, 520, 472, 527, 535, 449, 458, 465, 90, 113, 120, 130, 138, 147, 156, 165, 173, 99, 106, 182, 190, 196, 278, 284, 202, 209, 217, 225, 235, 243, 253, 263, 269]
def tmS (t : Nat) : Term := .string (strO.getD t ("", 0, "")).1 (strO.getD t ("", 0, "")).2.1
def vfS (t : Nat) : Term := .field (tmS t) "java/lang/String" "value" "[B"
def blk (t : Nat) : List Cond := [.exactly (tmS t) "java/lang/String", .eq (.field (tmS t) "java/lang/String" "coder" "B") (.int 0), .arrayOf (vfS t) .byte, .eq (.length (vfS t)) (.int (Int32.ofNat (strLens.getD t 0)))] ++ (List.range (strLens.getD t 0)).map (fun j => .eq (.elem (vfS t) (.int (Int32.ofNat j))) (.int ((strBs.getD t []).getD j 0)))
theorem blk_in : ∀ t : Nat, t < 51 → ((flatC narrow_1).drop (exP.getD t 0)).take (4 + strLens.getD t 0) = blk t := by decide +kernel
theorem sr_in : ∀ t : Nat, t < 51 → (tabs (srP.getD t (0, 0)).1)[(srP.getD t (0, 0)).2]? = some (.stringRef (strO.getD t ("", 0, "")).1 (strO.getD t ("", 0, "")).2.1 (strO.getD t ("", 0, "")).2.2) := by decide +kernel
theorem sl_in : ∀ t : Nat, t < 51 → strLens.getD t 0 < 2 ^ 31 := by decide +kernel
section ST
variable {s : State} {A : Array Value}
theorem st_str (hn : ∀ w ∈ flatC narrow_1, w.before A s = true) (t : Nat) (ht : t < 51) : ∃ q : Nat × Nat, vk_S 1 [strLens.getD t 0] [strBs.getD t []] (fun _ => q.1) (fun _ => q.2) (AA s.heap.size) s s.heap ∧ (tmS t).eval A s none [] s = some (.ref q.1) := by
  have hb : ∀ w ∈ blk t, w.before A s = true := fun w hw => hn w (by
    rw [← blk_in t ht] at hw
    exact List.mem_of_mem_drop (List.mem_of_mem_take hw))
  have h4 : ∀ k (w : Cond), (blk t)[k]? = some w → w.before A s = true := fun k w hw => hb w (List.mem_of_getElem? hw)
  have h1 : ∀ {i : Nat}, i < 1 → i = 0 := fun h => by omega
  obtain ⟨adK, adV, hS, hv⟩ := vk_Sof (args := A) (s := s) (N := 1) (tm := fun _ => tmS t) (len := [strLens.getD t 0]) (byt := [strBs.getD t []]) (A := AA s.heap.size)
    (fun i hi => by rw [h1 hi]; exact sl_in t ht) (fun i hi => h4 0 _ rfl) (fun i hi => h4 1 _ rfl) (fun i hi => h4 2 _ rfl) (fun i hi => by rw [h1 hi]; exact h4 3 _ rfl)
    (fun i hi j hj => by
      rw [h1 hi] at hj ⊢
      exact hb _ (List.mem_append_right _ (List.mem_map.mpr ⟨j, List.mem_range.mpr hj, rfl⟩)))
    (fun i j hi hj hij => absurd ((h1 hi).trans (h1 hj).symm) hij) (fun a h1 h2 => by unfold AA at h2; omega)
  exact ⟨(adK 0, adV 0), ⟨fun i hi => by
    rw [h1 hi]
    exact hS.1 0 Nat.one_pos, fun i j hi hj _ => (h1 hi).trans (h1 hj).symm⟩, hv 0 Nat.one_pos⟩
theorem st_arr {ty : FieldType} (h : (Cond.arrayClass ty).before A s = true) (hr : ∀ cA, s.vm.findClass ("[" ++ ty.toString) = some cA → va_RA s cA ty) : ∃ cA, ArrOfT s cA ty ∧ va_RA s cA ty := by
  obtain ⟨cA, kA, comp, h1, h2, h3⟩ := Cond.arrayClass_spec h
  exact ⟨cA, fun n z => ⟨fun k h => (by cases h), kA, h2, comp, h3⟩, hr cA h1⟩
theorem st_arrO {C : String} (h : (Cond.arrayOver (.object C)).before A s = true) : ∃ cA, ArrOfT s cA (.object C) ∧ va_RA s cA (.object C) := by
  obtain ⟨comp, cA, kA, h1, h2, h3, h4, h5⟩ := Cond.arrayOver_spec h
  exact ⟨cA, fun n z => ⟨fun k h => (by cases h), kA, h3, comp, h4⟩, kA, comp, h3, h4, h1, h5⟩
theorem vwCl_len : vwCl.length = 12 := by decide +kernel
theorem st_K (hT : TOK) (hts : ∀ w ∈ lw_tbl, w.before A s = true) : ∃ (D : va_G) (T : T4), va_K D vwCl (tyl T) s := by
  have h9 : ∀ w ∈ TS, w.before A s = true := fun w hw => hts w (List.mem_filter.mp hw).1
  have h0 : ∀ ci : Nat, ∃ q : ClassId × (Nat → Nat), ∀ q' : vw_C, vwCl[ci]? = some q' → u_Kn s q'.1 q'.2.1 q'.2.2 q.1 q.2 := by
    intro ci
    by_cases h : ci < 12
    · obtain ⟨c1, c2, -⟩ := hT.2.2.1 ci h
      obtain ⟨cC, iS, hk⟩ := u_known h9 c2 (h9 _ (hT.2.2.2.2.1 ci h).1)
      exact ⟨(cC, iS), fun q' hq => by
        rw [c1] at hq
        cases hq
        exact hk⟩
    · exact ⟨(0, fun _ => 0), fun q' hq => by
        rw [List.getElem?_eq_none (by rw [vwCl_len]; omega)] at hq
        cases hq⟩
  obtain ⟨f, hf⟩ := Classical.axiomOfChoice h0
  have ha := hT.2.2.2.2.2.2
  obtain ⟨c1, a1, b1⟩ := st_arr (s := s) (A := A) (ty := .int) (h9 _ ha.2.2.2.2.2.1) (fun _ h => h)
  obtain ⟨c2, a2, b2⟩ := st_arr (s := s) (A := A) (ty := .long) (h9 _ ha.2.2.2.2.2.2.1) (fun _ h => h)
  obtain ⟨c3, a3, b3⟩ := st_arr (s := s) (A := A) (ty := .boolean) (h9 _ ha.2.2.2.2.2.2.2.1) (fun _ h => h)
  obtain ⟨c4, a4, b4⟩ := st_arrO (s := s) (A := A) (C := "GlassLeaders$Party") (hts _ (tabs_in (k := 2) (o := 206) (by decide +kernel)))
  refine ⟨(fun c => (f c).1, fun c => (f c).2), (c1, c2, c3, c4), fun c q hq => hf c q hq, fun k q hk => ?_⟩
  rcases k with _ | _ | _ | _ | k
  · cases hk; exact ⟨a1, b1⟩
  · cases hk; exact ⟨a2, b2⟩
  · cases hk; exact ⟨a3, b3⟩
  · cases hk; exact ⟨a4, b4⟩
  · cases hk
theorem st_EV {b L : Nat} {xs : Nat → Int32} (hT : TOK) (hts : ∀ w ∈ lw_tbl, w.before A s = true) (hg : (Jvm.Cond.and given_1 narrow_1).before A s = true) (hX : va_X b L xs s s.heap) (hb : b < s.heap.size) (hL : L ≤ 3072) :
    ∃ (D : va_G) (T : T4) (adV ad : Nat → Nat), EV D T s.heap.size L xs adV ad s ∧ ad 1000000 = b := by
  have hq := flat_of_before _ hg
  have hn : ∀ w ∈ flatC narrow_1, w.before A s = true := fun w hw => hq w (List.mem_append_right _ hw)
  have h9 : ∀ w ∈ TS, w.before A s = true := fun w hw => hts w (List.mem_filter.mp hw).1
  obtain ⟨D, T, hK⟩ := st_K hT hts
  have h0 : ∀ t : Nat, ∃ q : Nat × Nat, t < 51 → vk_S 1 [strLens.getD t 0] [strBs.getD t []] (fun _ => q.1) (fun _ => q.2) (AA s.heap.size) s s.heap ∧ (tmS t).eval A s none [] s = some (.ref q.1) := by
    intro t
    by_cases ht : t < 51
    · obtain ⟨q, h⟩ := st_str hn t ht
      exact ⟨q, fun _ => h⟩
    · exact ⟨(0, 0), fun h => absurd h ht⟩
  obtain ⟨f, hf⟩ := Classical.axiomOfChoice h0
  have hA : ∀ a : Nat, a < s.heap.size → ¬ AA s.heap.size a := fun a h1 h2 => by unfold AA at h2; omega
  have e1 : ∀ t, (if 2000000 + t = 1000000 then b else (f (2000000 + t - 2000000)).1) = (f t).1 := fun t => by
    rw [if_neg (by omega), Nat.add_sub_cancel_left]
  refine ⟨D, T, fun t => (f t).2, fun a => if a = 1000000 then b else (f (a - 2000000)).1, ⟨fun w hw => gw_args (TS_gw hw) rfl (h9 w hw), hK, ?_, ?_, Nat.le_refl _, hL, ?_, ⟨?_, ?_, ?_, ?_, ?_⟩, ?_, ?_⟩, if_pos rfl⟩
  · show va_X (if (1000000 : Nat) = 1000000 then b else _) L xs s s.heap
    rw [if_pos rfl]
    exact hX
  · show (if (1000000 : Nat) = 1000000 then b else _) < _
    rw [if_pos rfl]
    exact hb
  · intro t ht
    show vk_R _ _ _ (if 2000000 + t = 1000000 then b else (f (2000000 + t - 2000000)).1) s
    rw [e1]
    exact vk_R.of (A := A) (hts _ (tabs_in (sr_in t ht))) (hf t ht).2
  · intro t ht
    show vk_S 1 _ _ (fun _ => if 2000000 + t = 1000000 then b else (f (2000000 + t - 2000000)).1) _ _ s s.heap
    rw [e1]
    exact (hf t ht).1
  · exact va_Zof (args := A) (hts _ (tabs_in (k := 3) (o := 195) (by decide +kernel))) (hts _ (tabs_in (k := 1) (o := 19) (by decide +kernel))) (va_eqi (hn _ (List.mem_of_getElem? (i := 4) (by decide +kernel)))) hA
  · exact vx_Zqof (args := A) (hts _ (tabs_in (k := 3) (o := 211) (by decide +kernel))) (hts _ (tabs_in (k := 1) (o := 21) (by decide +kernel))) (hn _ (List.mem_of_getElem? (i := 5) (by decide +kernel))) hA
  · exact vx_Zqof (args := A) (hts _ (tabs_in (k := 3) (o := 108) (by decide +kernel))) (hts _ (tabs_in (k := 1) (o := 14) (by decide +kernel))) (hn _ (List.mem_of_getElem? (i := 2) (by decide +kernel))) hA
  · exact vx_Zqof (args := A) (hts _ (tabs_in (k := 3) (o := 110) (by decide +kernel))) (hts _ (tabs_in (k := 1) (o := 14) (by decide +kernel))) (hn _ (List.mem_of_getElem? (i := 3) (by decide +kernel))) hA
  · exact va_AO.of (A := A) (hts _ (tabs_in (k := 2) (o := 206) (by decide +kernel)))
  · intro a b ha hb hab
    rcases a with _ | _ | _ | _ | a <;> rcases b with _ | _ | _ | _ | b
    all_goals first | exact absurd rfl hab | omega | skip
    · exact va_Nc.of (args := A) (hn _ (List.mem_of_getElem? (i := 37) (by decide +kernel)))
    · exact va_Nc.of (args := A) (hn _ (List.mem_of_getElem? (i := 22) (by decide +kernel)))
    · exact va_Nc.of (args := A) (hn _ (List.mem_of_getElem? (i := 68) (by decide +kernel)))
    · exact va_Nc.of (args := A) (hn _ (List.mem_of_getElem? (i := 52) (by decide +kernel)))
    · exact va_Nc.of (args := A) (hn _ (List.mem_of_getElem? (i := 21) (by decide +kernel)))
    · exact va_Nc.of (args := A) (hn _ (List.mem_of_getElem? (i := 67) (by decide +kernel)))
    · exact va_Nc.of (args := A) (hn _ (List.mem_of_getElem? (i := 51) (by decide +kernel)))
    · exact va_Nc.of (args := A) (hn _ (List.mem_of_getElem? (i := 36) (by decide +kernel)))
    · exact va_Nc.of (args := A) (hn _ (List.mem_of_getElem? (i := 66) (by decide +kernel)))
    · exact va_Nc.of (args := A) (hn _ (List.mem_of_getElem? (i := 53) (by decide +kernel)))
    · exact va_Nc.of (args := A) (hn _ (List.mem_of_getElem? (i := 38) (by decide +kernel)))
    · exact va_Nc.of (args := A) (hn _ (List.mem_of_getElem? (i := 23) (by decide +kernel)))
end ST
theorem law_in {p : Program} {e : Env} {s : State} {m : MethodId} {below : List Frame} {meth : Method} {c : Code} {l : Launch} (hst : l.stackTraces = false) (hpure : PURE) {b L : Nat} {xs : Nat → Int32} (hL : L ≤ 3072) (C0 : lw_At p s m meth c b L xs) (hexc : ∀ z ∈ c.exceptionTable.toList, False) : W p l e room_1 s m #[Value.ref b] below meth c s.heap [] 0 0 (lw_Z below #[Value.ref b] s) (entryFrame m ([Value.ref b] : List Value).toArray 8) := by
  obtain ⟨hx0, hcode, hret, hml, hown, hts, hX, hb, hlock, hg⟩ := C0
  obtain ⟨D, T, adV, ad, hE, had⟩ := st_EV tok hts hg hX hb hL
  obtain ⟨f, hw⟩ := hpure L xs hL
  have ha : (([Sum.inr (Sum.inr (Sum.inl 1000000))] : List Vl).map (cf ad)).toArray = #[Value.ref b] := by
    show #[va_rf (rf ad 1000000)] = _
    rw [rf_1 (by omega), had]
  have h9 : ∀ w ∈ TS, w.before #[Value.ref b] s = true := fun w hw => hts w (List.mem_filter.mp hw).1
  have hB := real (D := D) (T := T) (b0 := s.heap.size) (L := L) (xs := xs) (adV := adV) tok hst s_length s_char f
  have hC : CX p room_1 s m (([Sum.inr (Sum.inr (Sum.inl 1000000))] : List Vl).map (cf ad)).toArray meth c D T s.heap.size L xs adV 2000 LAWM ad := by
    rw [ha]
    exact ⟨hx0, hcode, hml, hown, h9, hE, hlock, hret, fun h => absurd h (by decide), by
      show c.exceptionTable.toList = []
      exact List.eq_nil_iff_forall_not_mem.mpr hexc, rfl, rfl, by decide, by decide, by decide⟩
  have hF : KF p l e room_1 s m (([Sum.inr (Sum.inr (Sum.inl 1000000))] : List Vl).map (cf ad)).toArray below meth c (lw_Z below #[Value.ref b] s) D T s.heap.size L xs LAWM ad (M00 L xs) Q1 := by
    rw [ha]
    intro pc ad' ls M cs LS H locs hx hcs
    refine ⟨fun v hS hq hd hr => ?_, fun v hS hq => ?_, fun hS hq => ?_, fun op z y hz hok hS h => ?_, fun z ce q9 rest hx4 hS hce hcv hcl hn hs => ?_⟩
    · injection hq with hq
      injection hq with hq
      injection hq with hq
      subst hq
      refine W.widen (k := 601024) (n := 7293034) hcs.1 hcs.2 (va_forget (fun q hq => hS.2.2.2.2.2.2.2.2 q hq) ?_)
      exact lw_ret hx0 hcode hret hlock hd
    · injection hq with hq
      injection hq with hq
      cases hq
    · injection hq with hq
      cases hq
    · have := (chk_e h).2
      cases this
    · have := hn rfl
      cases this
  have h := entry_W (as := [Sum.inr (Sum.inr (Sum.inl 1000000))]) tok hB hC hF hw (by decide) (fun v hv => by
    rw [List.mem_singleton.mp hv]
    exact Or.inr (Nat.le_refl _)) (MI_00 L xs) (fun k q hq => (nomatch hq)) ⟨(fun i j p q hq => nomatch hq), fun k q hq => nomatch hq⟩
  rw [ha] at h
  exact h
