/-! ===== ends: returns, throws, handlers; what else is left ===== -/
section RE
variable {p : Program} {l : Launch} {e : Env} {R : Room} {s : State} {m : MethodId} {args : Array Value} {below : List Frame} {meth : Method} {c : Code} {H : Heap} {locs : List Loc} {Q : State → Prop}
variable {D : va_G} {T : T4} {b0 L n : Nat} {xs : Nat → Int32} {adV ad : Nat → Nat} {ls st : List Vl} {M : Mm} {LS : Array Slot} {pc : Nat} {cs bd : Nat × Nat} {cc : ByteArray} {kn : List Vl → List Vl → Mm → Nat × Nat → Prop} {kj : Nat → List Vl → Prop}
variable {Ts : List Cond} {ci i t idx N mc ms : Nat} {C own : String} {F : u_T} {ty : Nat → FieldType} {ad0 : Nat → Nat} {M0 : Mm} {Q' : Rs → Mm → Prop}
theorem ret_q {v : Option Vl} {a : Array Value} (hS : SP D T b0 L xs n s ad ls st M LS H locs) (hx : EX ad0 M0 ad M) (hq : Q' (.inl v) M) (hv : ∀ w, v = some w → rgv M w) {t0 : State} (ht : t0.heap = H) : QR D T b0 L xs ad0 M0 Q' a s (.returned (v.map (cf ad))) t0 :=
  ⟨⟨v, M, ad, rfl, hq, hx, hS.2.2.2.1, hv, by rw [ht]; exact hS.2.2.2.2.1, hS.2.2.2.2.2.1⟩, va_S.F hS.2.2.2.2.2.2 ht⟩
theorem e_iret (hx0 : p.tables.exec = Jvm.exec) (hb : c.code = cc) (hd : decode cc pc = .ok (.ireturn, 1)) (hS : SP D T b0 L xs n s ad ls st M LS H locs) (hx : EX ad0 M0 ad M) (hcs : cs.1 ≤ mc ∧ cs.2 ≤ ms)
    (h : (match (generalizing := false) st with | [.inl v] => Q' (.inl (some (.inl v))) M | _ => False)) (hr : meth.sig.returnType = some .int) (hl : meth.locks = false) : W p l e R s m args below meth c H locs cs.1 cs.2 (vx_MQ below (QR D T b0 L xs ad0 M0 Q') (QX D T b0 L xs ad0 M0 Q') args s mc ms (AA b0)) (F0 m pc LS (st.map (cf ad))) := by
  split at h
  · rename_i v
    obtain ⟨hv, -⟩ := fa1 hS.2.2.1
    refine W.widen hcs.1 hcs.2 (vx_ret ?_)
    exact W.iret hx0 hb hr (fun t0 ht _ => ret_q (v := some (.inl v)) hS hx h (fun w hw => by cases hw; exact hv) ht) hS.2.2.2.2.2.2.2.2 hd hl
  · exact h.elim
theorem e_zret (hx0 : p.tables.exec = Jvm.exec) (hb : c.code = cc) (hd : decode cc pc = .ok (.ireturn, 1)) (hS : SP D T b0 L xs n s ad ls st M LS H locs) (hx : EX ad0 M0 ad M) (hcs : cs.1 ≤ mc ∧ cs.2 ≤ ms)
    (h : (match (generalizing := false) st with | [.inl v] => chk (zb v) (Q' (.inl (some (.inl v))) M) | _ => False)) (hr : meth.sig.returnType = some .boolean) (hl : meth.locks = false) : W p l e R s m args below meth c H locs cs.1 cs.2 (vx_MQ below (QR D T b0 L xs ad0 M0 Q') (QX D T b0 L xs ad0 M0 Q') args s mc ms (AA b0)) (F0 m pc LS (st.map (cf ad))) := by
  split at h
  · rename_i v
    obtain ⟨hz, h⟩ := chk_e h
    obtain ⟨hv, -⟩ := fa1 hS.2.2.1
    refine W.widen hcs.1 hcs.2 (vx_ret ?_)
    exact W.zret hx0 hb hr (fit_of (ad := ad) (v := .inl v) (Or.inr ⟨rfl, zb_or hz⟩)).1 (fun t0 ht _ => ret_q (v := some (.inl v)) hS hx h (fun w hw => by cases hw; exact hv) ht) hS.2.2.2.2.2.2.2.2 hd hl
  · exact h.elim
theorem e_lret (hx0 : p.tables.exec = Jvm.exec) (hb : c.code = cc) (hd : decode cc pc = .ok (.lreturn, 1)) (hS : SP D T b0 L xs n s ad ls st M LS H locs) (hx : EX ad0 M0 ad M) (hcs : cs.1 ≤ mc ∧ cs.2 ≤ ms)
    (h : (match (generalizing := false) st with | [.inr (.inl v)] => Q' (.inl (some (.inr (.inl v)))) M | _ => False)) (hr : meth.sig.returnType = some .long) (hl : meth.locks = false) : W p l e R s m args below meth c H locs cs.1 cs.2 (vx_MQ below (QR D T b0 L xs ad0 M0 Q') (QX D T b0 L xs ad0 M0 Q') args s mc ms (AA b0)) (F0 m pc LS (st.map (cf ad))) := by
  split at h
  · rename_i v
    obtain ⟨hv, -⟩ := fa1 hS.2.2.1
    refine W.widen hcs.1 hcs.2 (vx_ret ?_)
    exact W.lret hx0 hb hr (fun t0 ht _ => ret_q (v := some (.inr (.inl v))) hS hx h (fun w hw => by cases hw; exact hv) ht) hS.2.2.2.2.2.2.2.2 hd hl
  · exact h.elim
theorem e_vret (hx0 : p.tables.exec = Jvm.exec) (hb : c.code = cc) (hd : decode cc pc = .ok (.return_, 1)) (hS : SP D T b0 L xs n s ad ls st M LS H locs) (hx : EX ad0 M0 ad M) (hcs : cs.1 ≤ mc ∧ cs.2 ≤ ms)
    (h : (match (generalizing := false) st with | [] => Q' (.inl none) M | _ => False)) (hr : meth.sig.returnType = none) (hl : meth.locks = false) : W p l e R s m args below meth c H locs cs.1 cs.2 (vx_MQ below (QR D T b0 L xs ad0 M0 Q') (QX D T b0 L xs ad0 M0 Q') args s mc ms (AA b0)) (F0 m pc LS (st.map (cf ad))) := by
  split at h
  · refine W.widen hcs.1 hcs.2 (vx_ret ?_)
    exact W.vret hx0 hb hr (fun t0 ht _ => ret_q (v := none) hS hx h (fun w hw => by cases hw) ht) hS.2.2.2.2.2.2.2.2 hd hl
  · exact h.elim
/-- an exception that a callee let go, here: caught, or let go -/
theorem e_catch {x : Nat} {ce : Cell} {q9 : Addr} {rest : List Value} (hown : s.vm.findClass own = some m.cls) (hN : ∀ a b, a < 4 → b < 4 → a ≠ b → va_Nc (exn a) (exn b) s) (hcast : ∀ a, a < 4 → (Cond.castable (exn a) (exn a)).before args s = true) (hl : meth.locks = false)
    (hS : SP D T b0 L xs n s ad ls [] M LS H locs) (hx : EX ad0 M0 ad M) (hx4 : x < 4) (hcs : cs.1 ≤ mc ∧ cs.2 ≤ ms) (hce : H[q9]? = some ce) (hcv : ce.vm = .none) (hcl : s.vm.findClass (exn x) = some ce.cls) :
    ∀ (rows pre : List (Nat × Nat × Nat × Nat)), c.exceptionTable.toList = tableOf (pre ++ rows) → (∀ r ∈ pre ++ rows, r.2.2.2 ≠ 0 ∧ (Cond.classLink own r.2.2.2 (exn (xn r.2.2.2))).before args s = true) → (∀ r ∈ pre, ¬ (r.1 ≤ pc ∧ pc < r.2.1 ∧ x = xn r.2.2.2)) →
    (hndR rows pc x = none → Q' (.inr x) M) → (∀ h, hndR rows pc x = some h → W p l e R s m args below meth c H locs cs.1 cs.2 (vx_MQ below (QR D T b0 L xs ad0 M0 Q') (QX D T b0 L xs ad0 M0 Q') args s mc ms (AA b0)) (F0 m h LS [.ref q9])) →
    vx_W p l e R s m args below meth c H locs cs.1 cs.2 (vx_MQ below (QR D T b0 L xs ad0 M0 Q') (QX D T b0 L xs ad0 M0 Q') args s mc ms (AA b0)) (F0 m pc LS rest) q9 := by
  have xn4 : ∀ i, xn i < 4 := by
    intro i
    unfold xn
    split
    · omega
    · split
      · omega
      · split <;> omega
  have pass : ∀ (pre : List (Nat × Nat × Nat × Nat)) (all : List (Nat × Nat × Nat × Nat)), (∀ r ∈ pre, r ∈ all) → (∀ r ∈ all, r.2.2.2 ≠ 0 ∧ (Cond.classLink own r.2.2.2 (exn (xn r.2.2.2))).before args s = true) → (∀ r ∈ pre, ¬ (r.1 ≤ pc ∧ pc < r.2.1 ∧ x = xn r.2.2.2)) → ∀ z ∈ tableOf pre, covers z pc = false ∨ (z.catchType ≠ 0 ∧ ∃ nm : String, (Cond.classLink own z.catchType nm).before args s = true ∧ va_Nc (exn x) nm s) := by
    intro pre all hsub hall hno z hz
    unfold tableOf at hz
    obtain ⟨r, hr, rfl⟩ := List.mem_map.mp hz
    obtain ⟨g1, g2⟩ := hall r (hsub r hr)
    by_cases hcov : r.1 ≤ pc ∧ pc < r.2.1
    · right
      refine ⟨g1, _, g2, hN x _ hx4 (xn4 _) fun q => hno r hr ⟨hcov.1, hcov.2, q⟩⟩
    · left
      unfold covers
      simp only [Bool.and_eq_false_iff, decide_eq_false_iff_not]
      by_cases h1 : r.1 ≤ pc
      · right; intro h2; exact hcov ⟨h1, h2⟩
      · left; exact h1
  intro rows
  induction rows with
  | nil =>
    intro pre hT hall hno hnone hsome
    rw [List.append_nil] at hT hall
    refine vx_outP hown hl ?_ hce hcv hcl (fun t0 ht _ => ⟨⟨x, M, ad, rfl, hx4, hnone rfl, hx, hS.2.2.2.1, by rw [ht]; exact hS.2.2.2.2.1, hS.2.2.2.2.2.1⟩, va_S.F hS.2.2.2.2.2.2 ht⟩) hS.2.2.2.2.2.2.2.2 hcs.1 hcs.2
    rw [hT]
    exact pass pre pre (fun _ h => h) hall hno
  | cons r rows ih =>
    intro pre hT hall hno hnone hsome
    obtain ⟨ra, rb, rh, ri⟩ := r
    by_cases hm : ra ≤ pc ∧ pc < rb ∧ x = xn ri
    · have hr := hall (ra, rb, rh, ri) (List.mem_append_right _ List.mem_cons_self)
      have hh : hndR ((ra, rb, rh, ri) :: rows) pc x = some rh := by unfold hndR; rw [if_pos hm]
      have hT2 : c.exceptionTable.toList = tableOf pre ++ (tableOf [(ra, rb, rh, ri)] ++ tableOf rows) := by
        rw [hT]
        unfold tableOf
        simp
      refine vx_catch hown (tableOf pre) _ (tableOf rows) hT2 (pass pre _ (fun r hr => List.mem_append_left _ hr) hall hno) ?_ hr.1 hr.2 ?_ hce hcv hcl (hsome rh hh)
      · unfold covers
        simp only [Bool.and_eq_true, decide_eq_true_eq]
        exact ⟨hm.1, hm.2.1⟩
      · rw [← hm.2.2]
        exact hcast x hx4
    · refine ih (pre ++ [(ra, rb, rh, ri)]) (by rw [hT]; simp) (by simpa using hall) (fun r hr => ?_) (fun h => hnone (by unfold hndR; rw [if_neg hm]; exact h)) (fun h hh => hsome h (by unfold hndR; rw [if_neg hm]; exact hh))
      rcases List.mem_append.mp hr with h | h
      · exact hno r h
      · rw [List.mem_singleton] at h
        rw [h]
        exact hm
/-- the same of a method without a table -/
theorem e_out {x : Nat} {ce : Cell} {q9 : Addr} {rest : List Value} (ht : ∀ z ∈ c.exceptionTable.toList, False) (hl : meth.locks = false)
    (hS : SP D T b0 L xs n s ad ls [] M LS H locs) (hx : EX ad0 M0 ad M) (hx4 : x < 4) (hcs : cs.1 ≤ mc ∧ cs.2 ≤ ms) (hce : H[q9]? = some ce) (hcv : ce.vm = .none) (hcl : s.vm.findClass (exn x) = some ce.cls) (hq : Q' (.inr x) M) :
    vx_W p l e R s m args below meth c H locs cs.1 cs.2 (vx_MQ below (QR D T b0 L xs ad0 M0 Q') (QX D T b0 L xs ad0 M0 Q') args s mc ms (AA b0)) (F0 m pc LS rest) q9 :=
  vx_out (fun z hz => (ht z hz).elim) hl hce hcv hcl (fun t0 ht _ => ⟨⟨x, M, ad, rfl, hx4, hq, hx, hS.2.2.2.1, by rw [ht]; exact hS.2.2.2.2.1, hS.2.2.2.2.2.1⟩, va_S.F hS.2.2.2.2.2.2 ht⟩) hS.2.2.2.2.2.2.2.2 hcs.1 hcs.2
def xnames : List String := ["java/lang/RuntimeException", "java/lang/Exception"]
/-- 'throw new E("text")' -/
theorem e_throw {x is ic sa : Nat} {tx : String} (hx0 : p.tables.exec = Jvm.exec) (hb : c.code = cc) (hst : l.stackTraces = false) (hml : c.maxLocals = n) (hown : s.vm.findClass own = some m.cls) (hE : EV D T b0 L xs adV ad s)
    (hcls : Bundle.fit (exn x) = true) (hx4 : x < 4) (hk : (Cond.classLink own idx (exn x)).before args s = true) (hini : (Cond.initialized (exn x)).before args s = true) (hstr : vk_R own is tx sa s) (hat : ∀ w ∈ x_at own ic (exn x) (xIx x) (xRx x) xnames, w.before args s = true)
    (hgood : ∀ w ∈ Cond.classLink own idx (exn x) :: Cond.initialized (exn x) :: x_at own ic (exn x) (xIx x) (xRx x) xnames, vx_ot w = true)
    (d0 : decode cc pc = .ok (.new idx, 3)) (d3 : decode cc (pc + 3) = .ok (.dup, 1)) (d4 : decode cc (pc + 4) = .ok (.ldc_w is, 3)) (d7 : decode cc (pc + 7) = .ok (.invokespecial ic, 3)) (d10 : decode cc (pc + 10) = .ok (.athrow, 1))
    (hout : ∀ z ∈ c.exceptionTable.toList, False) (hR : 6 ≤ R.frames ∧ 90 ≤ R.locals ∧ R.cells = mc ∧ R.slots = ms) (hlocks : meth.locks = false)
    (hS : SP D T b0 L xs n s ad ls st M LS H locs) (hx : EX ad0 M0 ad M) (h : chk (lq (cs.1 + 1) mc (cs.2 + 6) ms) (Q' (.inr x) M)) (hcat : st = []) :
    W p l e R s m args below meth c H locs cs.1 cs.2 (vx_MQ below (QR D T b0 L xs ad0 M0 Q') (QX D T b0 L xs ad0 M0 Q') args s mc ms (AA b0)) (F0 m pc LS (st.map (cf ad))) := by
  subst hcat
  obtain ⟨h1, h⟩ := chk_e h
  unfold lq at h1
  simp only [Bool.and_eq_true, Nat.ble_eq] at h1
  obtain ⟨-, -, -, s4, s5⟩ := hE.2.2.2.2.2.2.2.1
  exact x_throw (text := tx) (A := AA b0) hx0 hb hst (x_decs x) hown hcls (by decide +kernel) hk hini hstr hat hgood s4 s5 hS.2.2.2.2.2.2 (hS.1.1.trans hml.symm) d0 d3 d4 d7 d10 (fun z hz => (hout z hz).elim)
    (by show 2 + 3 < _; omega) (by show 0 + (13 * (2 + 1) + 43) ≤ _; omega) (by omega) (by omega) hlocks
    (fun t0 _ hsz hkp => ⟨⟨x, M, ad, rfl, hx4, h, hx, hS.2.2.2.1, hS.2.2.2.2.1.kept (fun k q hq => hkp q.1 (hS.2.2.2.2.1 k q hq).lt), hS.2.2.2.2.2.1⟩, Nat.le_trans hS.2.2.2.2.2.2.1 hsz, fun q h1 h2 => (hkp q (Nat.lt_of_lt_of_le h1 hS.2.2.2.2.2.2.1)).trans (hS.2.2.2.2.2.2.2.1 q h1 h2)⟩)
    hS.2.2.2.2.2.2.2.2 (by omega) (by omega)
/-- Object.<init> -/
theorem r_obj (hx : p.tables.exec = Jvm.exec) (hb : c.code = cc) (hml : c.maxLocals = n) (hd : decode cc pc = .ok (.invokespecial idx, 3)) (hS : SP D T b0 L xs n s ad ls st M LS H locs) (hcs : cs.1 ≤ bd.1 ∧ cs.2 ≤ bd.2) (h : p1R st (fun o r => chk (catOK r) (chk (Nat.beq (M.1 o).1 0) (kn ls r M cs)))) (K : KN p l e R s m args below meth c Q D T b0 L xs n ad M (pc + 3) bd kn)
    (hown : s.vm.findClass own = some m.cls) (h1 : (Cond.methodLink own idx Lib.objectInit).before args s = true) (h2 : (Cond.instanceMethod Lib.objectInit).before args s = true) (h3 : (Cond.code Lib.objectInit ⟨#[0xb1]⟩ 1 none).before args s = true) (hR : 1 ≤ R.frames ∧ 20 ≤ R.locals) :
    W p l e R s m args below meth c H locs cs.1 cs.2 Q (F0 m pc LS (st.map (cf ad))) := by
  unfold p1R at h
  split at h
  · rename_i o r
    obtain ⟨hc, h⟩ := chk_e h
    obtain ⟨g1, h⟩ := chk_e h
    obtain ⟨g2, g3, g4⟩ := beq_1 hS.2.2.2.1 g1 (by omega)
    obtain ⟨-, h5⟩ := fa1 hS.2.2.1
    show W p l e R s m args below meth c H locs cs.1 cs.2 Q (F0 m pc LS (va_rf (rf ad o) :: r.map (cf ad)))
    rw [rf_1 g3]
    refine W.objInit hx hb hown h1 h2 h3 rfl (hS.1.1.trans hml.symm) rfl hd hR.1 ?_ (KN_t K hS hcs h h5)
    show 2 * 0 + ((r.map (cf ad)).map fun v => v.category).sum + 12 ≤ R.locals
    have := catsum (ad := ad) hc
    omega
  · exact h.elim
theorem MI_cpI {a sp k tp q : Nat} (hM : MI L xs M) (hk : k ≤ gN M) : MI L xs (cpI M a sp k tp q) := by
  refine MI_w hM hk rfl rfl (fun b hb i => ?_) (fun b hb i => rfl) (fun b => ?_) hM.2.1 (fun b hb i => (hM.2.2.2.2.2.1 b i hb).1) (fun i => (hM.2.2.2.2.2.1 k i hk).2)
  · show c2 M.2.2.2.1 a sp k tp q b i = _
    unfold c2
    rw [if_neg hb]
    rfl
  · show inR (c2 M.2.2.2.1 a sp k tp q k b)
    unfold c2
    rw [if_pos rfl]
    unfold va_cpy
    split
    · exact hM.1 _ _
    · exact hM.1 _ _
theorem MI_cpJ {a sp k tp q : Nat} (hM : MI L xs M) (hk : k ≤ gN M) : MI L xs (cpJ M a sp k tp q) := by
  refine MI_w hM hk rfl rfl (fun b hb i => rfl) (fun b hb i => rfl) (fun b => hM.1 k b) (fun b i => ?_) (fun b hb i => (hM.2.2.2.2.2.1 b i hb).1) (fun i => (hM.2.2.2.2.2.1 k i hk).2)
  show inL (c2 M.2.2.2.2.1 a sp k tp q b i)
  unfold c2
  split
  · unfold va_cpy
    split
    · exact hM.2.1 _ _
    · exact hM.2.1 _ _
  · exact hM.2.1 _ _
/-- Math.max -/
theorem r_max (hx : p.tables.exec = Jvm.exec) (hb : c.code = cc) (hml : c.maxLocals = n) (hd : decode cc pc = .ok (.invokestatic idx, 3)) (hS : SP D T b0 L xs n s ad ls st M LS H locs) (hcs : cs.1 ≤ bd.1 ∧ cs.2 ≤ bd.2) (h : p2I st (fun a b r => chk (catOK r) (kn ls (.inl (if a < b then b else a) :: r) M cs))) (K : KN p l e R s m args below meth c Q D T b0 L xs n ad M (pc + 3) bd kn)
    (hown : s.vm.findClass own = some m.cls) (h1 : (Cond.methodLink own idx Lib.Math.max.name).before args s = true) (h2 : (Cond.static Lib.Math.max.name).before args s = true) (h3 : (Cond.initialized "java/lang/Math").before args s = true) (h4 : (Cond.code Lib.Math.max.name Lib.Math.max.code 2 (some .int)).before args s = true) (hR : 1 ≤ R.frames ∧ 30 ≤ R.locals) (hcm : bd.1 ≤ R.cells ∧ bd.2 ≤ R.slots) :
    W p l e R s m args below meth c H locs cs.1 cs.2 Q (F0 m pc LS (st.map (cf ad))) := by
  unfold p2I at h
  split at h
  · rename_i b a r
    obtain ⟨hc, h⟩ := chk_e h
    obtain ⟨rb, h5⟩ := fa1 hS.2.2.1
    obtain ⟨ra, h6⟩ := fa1 h5
    have hcat := catsum (ad := ad) hc
    refine va_mmax hx hb (hml.trans hS.1.1.symm) hown h1 h2 h3 h4 hR.1 (by omega) (Nat.le_trans hcs.1 hcm.1) (Nat.le_trans hcs.2 hcm.2) hd ?_
    have e : (Value.int (if Int32.ofInt a < Int32.ofInt b then Int32.ofInt b else Int32.ofInt a)) = cf ad (.inl (if a < b then b else a)) := by
      by_cases q : a < b
      · rw [if_pos q, if_pos ((z_lt ra rb).mpr q)]
        rfl
      · rw [if_neg q, if_neg (fun w => q ((z_lt ra rb).mp w))]
        rfl
    rw [e]
    exact KN_t K hS hcs h (List.forall_mem_cons.mpr ⟨by show inR _; split <;> assumption, h6⟩)
  · exact h.elim
/-- Math.min -/
theorem r_min (hx : p.tables.exec = Jvm.exec) (hb : c.code = cc) (hml : c.maxLocals = n) (hd : decode cc pc = .ok (.invokestatic idx, 3)) (hS : SP D T b0 L xs n s ad ls st M LS H locs) (hcs : cs.1 ≤ bd.1 ∧ cs.2 ≤ bd.2) (h : p2I st (fun a b r => chk (catOK r) (kn ls (.inl (if b < a then b else a) :: r) M cs))) (K : KN p l e R s m args below meth c Q D T b0 L xs n ad M (pc + 3) bd kn)
    (hown : s.vm.findClass own = some m.cls) (h1 : (Cond.methodLink own idx Lib.Math.min.name).before args s = true) (h2 : (Cond.static Lib.Math.min.name).before args s = true) (h3 : (Cond.initialized "java/lang/Math").before args s = true) (h4 : (Cond.code Lib.Math.min.name Lib.Math.min.code 2 (some .int)).before args s = true) (hR : 1 ≤ R.frames ∧ 30 ≤ R.locals) (hcm : bd.1 ≤ R.cells ∧ bd.2 ≤ R.slots) :
    W p l e R s m args below meth c H locs cs.1 cs.2 Q (F0 m pc LS (st.map (cf ad))) := by
  unfold p2I at h
  split at h
  · rename_i b a r
    obtain ⟨hc, h⟩ := chk_e h
    obtain ⟨rb, h5⟩ := fa1 hS.2.2.1
    obtain ⟨ra, h6⟩ := fa1 h5
    have hcat := catsum (ad := ad) hc
    refine va_mmin hx hb (hml.trans hS.1.1.symm) hown h1 h2 h3 h4 hR.1 (by omega) (Nat.le_trans hcs.1 hcm.1) (Nat.le_trans hcs.2 hcm.2) hd ?_
    have e : (Value.int (if Int32.ofInt b < Int32.ofInt a then Int32.ofInt b else Int32.ofInt a)) = cf ad (.inl (if b < a then b else a)) := by
      by_cases q : b < a
      · rw [if_pos q, if_pos ((z_lt rb ra).mpr q)]
        rfl
      · rw [if_neg q, if_neg (fun w => q ((z_lt rb ra).mp w))]
        rfl
    rw [e]
    exact KN_t K hS hcs h (List.forall_mem_cons.mpr ⟨by show inR _; split <;> assumption, h6⟩)
  · exact h.elim
/-- System.arraycopy -/
theorem r_copy {tag : Nat} (hx : p.tables.exec = Jvm.exec) (hb : c.code = cc) (hml : c.maxLocals = n) (hd : decode cc pc = .ok (.invokestatic idx, 3)) (hS : SP D T b0 L xs n s ad ls st M LS H locs) (hcs : cs.1 ≤ bd.1 ∧ cs.2 ≤ bd.2) (htag : tag = 1 ∨ tag = 2)
    (h : (match (generalizing := false) st with | .inl k :: .inl tp :: .inr (.inr (.inl b)) :: .inl sp :: .inr (.inr (.inl a)) :: r => chk (catOK r) (chk (Nat.beq (M.1 a).1 tag && Nat.beq (M.1 b).1 tag) (chk (acp sp tp k (M.1 a).2 (M.1 b).2) (kn ls r (match (generalizing := false) tag with | 1 => cpI M a sp.toNat b tp.toNat k.toNat | _ => cpJ M a sp.toNat b tp.toNat k.toNat) cs))) | _ => False)) (K : KN p l e R s m args below meth c Q D T b0 L xs n ad M (pc + 3) bd kn)
    (hown : s.vm.findClass own = some m.cls) (hK : va_K D vwCl (tyl T) s) (h1 : (Cond.methodLink own idx arraycopyName).before args s = true) (h2 : (Cond.native arraycopyName).before args s = true) (h3 : (Cond.static arraycopyName).before args s = true) (h4 : (Cond.initialized "java/lang/System").before args s = true) (hR : 1 ≤ R.frames ∧ 8 + (nativeFrameWords "java/lang/System" "arraycopy" 5 + 11) ≤ R.locals) :
    W p l e R s m args below meth c H locs cs.1 cs.2 Q (F0 m pc LS (st.map (cf ad))) := by
  split at h
  · rename_i k tp b sp a r
    obtain ⟨hc, h⟩ := chk_e h
    obtain ⟨g1, h⟩ := chk_e h
    obtain ⟨g2, h⟩ := chk_e h
    rw [Bool.and_eq_true] at g1
    obtain ⟨a1, a2, a3⟩ := beq_1 hS.2.2.2.1 g1.1 (by omega)
    obtain ⟨b1, b2, b3⟩ := beq_1 hS.2.2.2.1 g1.2 (by omega)
    obtain ⟨r1, q1⟩ := fa1 hS.2.2.1
    obtain ⟨r2, q2⟩ := fa1 q1
    obtain ⟨-, q3⟩ := fa1 q2
    obtain ⟨r4, q4⟩ := fa1 q3
    obtain ⟨-, q5⟩ := fa1 q4
    have wa := wl_get (T := T) (ad := ad) a2 a3
    have wb := wl_get (T := T) (ad := ad) b2 b3
    unfold acp nn at g2
    simp only [Bool.and_eq_true, decide_eq_true_eq] at g2
    obtain ⟨⟨⟨⟨k1, k2⟩, k3⟩, k4⟩, k5⟩ := g2
    have i1 : (Int32.ofInt sp).toNatClampNeg + (Int32.ofInt k).toNatClampNeg ≤ (M.1 a).2 := by rw [z_idx r4, z_idx r1]; omega
    have i2 : (Int32.ofInt tp).toNatClampNeg + (Int32.ofInt k).toNatClampNeg ≤ (M.1 b).2 := by rw [z_idx r2, z_idx r1]; omega
    have hsum := catsum (ad := ad) hc
    show W p l e R s m args below meth c H locs cs.1 cs.2 Q (F0 m pc LS (.int (Int32.ofInt k) :: .int (Int32.ofInt tp) :: va_rf (rf ad b) :: .int (Int32.ofInt sp) :: va_rf (rf ad a) :: r.map (cf ad)))
    rw [rf_1 a2, rf_1 b2]
    rcases htag with rfl | rfl
    · rw [en_1 a1] at wa
      rw [en_1 b1] at wb
      refine va_copyi hx hb (hml.trans hS.1.1.symm) hown h1 h2 h3 h4 hK hS.2.2.2.2.1 hS.2.2.2.2.2.1 hS.2.2.2.2.2.2 (a - 1) (b - 1) 0 0 wa wb rfl rfl rfl (z_nneg r4 k1) (z_nneg r2 k2) (z_nneg r1 k3) i1 i2 (fun _ _ => rfl) hR.1 (by omega) hd fun H1 locs1 hP hD hS1 => ?_
      rw [z_idx r4, z_idx r2, z_idx r1] at hP hD
      refine KN_m K hS hcs h q5 b2 b3 rfl (MI_cpI hS.2.2.2.1 b3) (fun z hz => en_cpI hz) ?_ hP hD hS1
      show en T ad (cpI M a sp.toNat b tp.toNat k.toNat) b = _
      rw [en_1 (M := cpI M a sp.toNat b tp.toNat k.toNat) b1]
      have ee : (fun i => Int32.ofInt (gI (cpI M a sp.toNat b tp.toNat k.toNat) b i)) = va_cpy (fun i => Int32.ofInt (gI M a i)) (fun i => Int32.ofInt (gI M b i)) sp.toNat tp.toNat k.toNat := by
        funext i
        show Int32.ofInt (c2 M.2.2.2.1 a sp.toNat b tp.toNat k.toNat b i) = _
        unfold c2 va_cpy
        rw [if_pos rfl]
        split <;> rfl
      rw [ee]
      rfl
    · rw [en_2 a1] at wa
      rw [en_2 b1] at wb
      refine va_copyl hx hb (hml.trans hS.1.1.symm) hown h1 h2 h3 h4 hK hS.2.2.2.2.1 hS.2.2.2.2.2.1 hS.2.2.2.2.2.2 (a - 1) (b - 1) 1 1 wa wb rfl rfl rfl (z_nneg r4 k1) (z_nneg r2 k2) (z_nneg r1 k3) i1 i2 (fun _ _ => rfl) hR.1 (by omega) hd fun H1 locs1 hP hD hS1 => ?_
      rw [z_idx r4, z_idx r2, z_idx r1] at hP hD
      refine KN_m K hS hcs h q5 b2 b3 rfl (MI_cpJ hS.2.2.2.1 b3) (fun z hz => en_cpJ hz) ?_ hP hD hS1
      show en T ad (cpJ M a sp.toNat b tp.toNat k.toNat) b = _
      rw [en_2 (M := cpJ M a sp.toNat b tp.toNat k.toNat) b1]
      have ee : (fun i => Int64.ofInt (gJ (cpJ M a sp.toNat b tp.toNat k.toNat) b i)) = va_cpy (fun i => Int64.ofInt (gJ M a i)) (fun i => Int64.ofInt (gJ M b i)) sp.toNat tp.toNat k.toNat := by
        funext i
        show Int64.ofInt (c2 M.2.2.2.2.1 a sp.toNat b tp.toNat k.toNat b i) = _
        unfold c2 va_cpy
        rw [if_pos rfl]
        split <;> rfl
      rw [ee]
      rfl
  · exact h.elim
end RE
