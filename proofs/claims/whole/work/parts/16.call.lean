/-! ===== calls, returns, throws ===== -/
def rm (d j : Nat) : Room := { frames := d + 30, cells := (mcOf j).1, slots := (mcOf j).2, locals := 40 * d + 1200 }
/-- how a method ends, as its caller sees it -/
def QR (D : va_G) (T : T4) (b0 L : Nat) (xs : Nat → Int32) (ad : Nat → Nat) (M : Mm) (Q' : Rs → Mm → Prop) : Array Value → State → Outcome → State → Prop := fun _ st o t =>
  (∃ (v : Option Vl) (M' : Mm) (ad' : Nat → Nat), o = .returned (v.map (cf ad')) ∧ Q' (.inl v) M' ∧ EX ad M ad' M' ∧ MI L xs M' ∧ (∀ w, v = some w → rgv M' w) ∧ va_P D vwCl (wl' T ad' M') t.heap ∧ va_D (AA b0) (wl' T ad' M')) ∧ va_F (AA b0) st t
def QX (D : va_G) (T : T4) (b0 L : Nat) (xs : Nat → Int32) (ad : Nat → Nat) (M : Mm) (Q' : Rs → Mm → Prop) : String → State → State → Prop := fun E st t =>
  (∃ (x : Nat) (M' : Mm) (ad' : Nat → Nat), E = exn x ∧ x < 4 ∧ Q' (.inr x) M' ∧ EX ad M ad' M' ∧ MI L xs M' ∧ va_P D vwCl (wl' T ad' M') t.heap ∧ va_D (AA b0) (wl' T ad' M')) ∧ va_F (AA b0) st t
/-- a method's start -/
def PS (D : va_G) (T : T4) (b0 L : Nat) (xs : Nat → Int32) (adV : Nat → Nat) (ad : Nat → Nat) (M : Mm) : State → Prop := fun U =>
  EV D T b0 L xs adV ad U ∧ MI L xs M ∧ va_P D vwCl (wl' T ad M) U.heap ∧ va_D (AA b0) (wl' T ad M)
def cw (j : Nat) : Cond := match hht j with
  | [] => .code (yn j) (byt j) (mxl j) (rtt j)
  | h :: t => .codeWith (yn j) (byt j) (mxl j) (rtt j) (h :: t)
/-- what a method keeps, whatever it is called with -/
def CT (l : Launch) (D : va_G) (T : T4) (b0 L : Nat) (xs : Nat → Int32) (adV : Nat → Nat) (d j : Nat) (as : List Vl) (M : Mm) (Q' : Rs → Mm → Prop) : Prop :=
  ∀ ad : Nat → Nat, (∀ v ∈ as, rgv M v) → vx_Met l (yn j) [cw j] (rm d j) (va_Pc (as.map (cf ad)) (PS D T b0 L xs adV ad M)) (QR D T b0 L xs ad M Q') (QX D T b0 L xs ad M Q') (mcOf j).1 (mcOf j).2 (AA b0)
theorem PS_vm {D : va_G} {T : T4} {b0 L : Nat} {xs : Nat → Int32} {adV ad : Nat → Nat} {M : Mm} {s U : State} (h : PS D T b0 L xs adV ad M s) (hv : s.vm = U.vm) (hH : U.heap = s.heap) : PS D T b0 L xs adV ad M U := ⟨EV_vm h.1 hv hH, h.2.1, by rw [hH]; exact h.2.2.1, h.2.2.2⟩
theorem PS_blind {D : va_G} {T : T4} {b0 L : Nat} {xs : Nat → Int32} {adV ad : Nat → Nat} {M : Mm} {av : List Value} : FrameBlind (va_Pc av (PS D T b0 L xs adV ad M)) := fun a U g mk h => ⟨h.1, PS_vm h.2 rfl rfl⟩
section RC
variable {p : Program} {l : Launch} {e : Env} {R : Room} {s : State} {m : MethodId} {args : Array Value} {below : List Frame} {meth : Method} {c : Code} {H : Heap} {locs : List Loc} {Q : State → Prop}
variable {D : va_G} {T : T4} {b0 L n : Nat} {xs : Nat → Int32} {adV ad : Nat → Nat} {ls st : List Vl} {M : Mm} {LS : Array Slot} {pc : Nat} {cs bd : Nat × Nat} {cc : ByteArray} {kn : List Vl → List Vl → Mm → Nat × Nat → Prop} {kj : Nat → List Vl → Prop}
variable {Ts : List Cond} {ci i t idx N : Nat} {C own : String} {F : u_T} {ty : Nat → FieldType}
theorem SP_PS (hE : EV D T b0 L xs adV ad s) (hS : SP D T b0 L xs n s ad ls st M LS H locs) {U : State} (hU : U.heap = H) (hW : s.WarmedH U.vm) : PS D T b0 L xs adV ad M U :=
  ⟨EV_mv hE hW hS.2.2.2.2.2.2 hU (fun _ _ => rfl), hS.2.2.2.1, by rw [hU]; exact hS.2.2.2.2.1, hS.2.2.2.2.2.1⟩
theorem catsum {ad : Nat → Nat} {r : List Vl} (h : catOK r = true) : ((r.map (cf ad)).map fun v => v.category).sum ≤ 8 := by
  unfold catOK at h
  have h := ble_le h
  rw [List.map_map]
  have e : (fun v => v.category) ∘ cf ad = ctg := funext fun v => cat_cf ad v
  rw [e]
  exact h
theorem catsuL {ad : Nat → Nat} {r : List Vl} (h : catL r = true) : ((r.map (cf ad)).map fun v => v.category).sum ≤ 12 := by
  unfold catL at h
  have h := ble_le h
  rw [List.map_map]
  have e : (fun v => v.category) ∘ cf ad = ctg := funext fun v => cat_cf ad v
  rw [e]
  exact h
/-- a call, by what the callee keeps -/
theorem r_call {mc ms : Nat} {st0 : List Value} {rest : List Vl} {a : Array Value} {Q' : Rs → Mm → Prop} (hr : vx_Run p l e R s m args below meth c H locs cs.1 cs.2 mc ms (F0 m pc LS st0) (rest.map (cf ad)) (QR D T b0 L xs ad M Q' a) (QX D T b0 L xs ad M Q') (AA b0))
    (hS : SP D T b0 L xs n s ad ls st M LS H locs) (hrest : ∀ v ∈ rest, rgv M v)
    (Kk : ∀ (v : Option Vl) (M' : Mm) (ad' : Nat → Nat) (H1 : Heap) (locs1 : List Loc), Q' (.inl v) M' → EX ad M ad' M' → SP D T b0 L xs n s ad' ls (aft v rest) M' LS H1 locs1 → W p l e R s m args below meth c H1 locs1 (cs.1 + mc) (cs.2 + ms) Q (F0 m (pc + 3) LS ((aft v rest).map (cf ad'))))
    (Kx : ∀ (x : Nat) (M' : Mm) (ad' : Nat → Nat) (H1 : Heap) (locs1 : List Loc) (ce : Cell) (q9 : Addr), Q' (.inr x) M' → x < 4 → EX ad M ad' M' → SP D T b0 L xs n s ad' ls [] M' LS H1 locs1 → H1[q9]? = some ce → ce.vm = .none → s.vm.findClass (exn x) = some ce.cls → vx_W p l e R s m args below meth c H1 locs1 (cs.1 + mc) (cs.2 + ms) Q (F0 m pc LS (rest.map (cf ad))) q9) :
    W p l e R s m args below meth c H locs cs.1 cs.2 Q (F0 m pc LS st0) := by
  have hloc : ∀ {ad' : Nat → Nat} {M' : Mm}, EX ad M ad' M' → lv_has LS n (lvl ad' ls) := by
    intro ad' M' hx
    refine lv_mem hS.1 fun z hz => ?_
    obtain ⟨v, h1, h2, h3⟩ := lvl_mem.mp hz
    exact lvl_mem.mpr ⟨v, h1, h2, by rw [h3, EX_cf hx (hS.2.1 v (List.mem_of_getElem? h1))]⟩
  intro T0 hT X
  rcases hr T0 hT X with ⟨v, st₀, t, T', LL, h0, X', hL, e1, e2, ⟨⟨w, M', ad', hv, hq, hx, hM, hw, hP, hD⟩, hF⟩, st9⟩ | ⟨q, st₀, t, T', LL, E, ce, h0, X', hL, e1, e2, ⟨⟨x, M', ad', hEx, hx4, hq, hx, hM, hP, hD⟩, hF⟩, hce, hcv, hcl, st9⟩
  · obtain ⟨k1, k2, k3⟩ := vx_keep (A1 := AA b0) h0 e1 hS.2.2.2.2.2.2 (fun q _ h => h) (fun q h => h) hL hF
    have hv : v = w.map (cf ad') := by injection hv
    subst hv
    have hs : SP D T b0 L xs n s ad' ls (aft w rest) M' LS T'.heap (locs ++ LL) := by
      refine ⟨hloc hx, fun v hv => EX_rg hx (hS.2.1 v hv), ?_, hM, by rw [e1]; exact hP, hD, k3⟩
      cases w with
      | none => exact fun v hv => EX_rg hx (hrest v hv)
      | some w => exact fa2 (hw w rfl) fun v hv => EX_rg hx (hrest v hv)
    obtain ⟨t2, a1, b1⟩ := Kk w M' ad' T'.heap (locs ++ LL) hq hx hs T' rfl X'
    refine ⟨t2, st9 t2 ?_, b1⟩
    have er : (aft w rest).map (cf ad') = (w.map (cf ad')).toList ++ rest.map (cf ad) := by
      cases w with
      | none => exact EX_map hx hrest
      | some w =>
        show cf ad' w :: rest.map (cf ad') = cf ad' w :: rest.map (cf ad)
        rw [EX_map hx hrest]
    rw [er] at a1
    exact a1
  · obtain ⟨k1, k2, k3⟩ := vx_keep (A1 := AA b0) h0 e1 hS.2.2.2.2.2.2 (fun q _ h => h) (fun q h => h) hL hF
    subst hEx
    have hs : SP D T b0 L xs n s ad' ls [] M' LS T'.heap (locs ++ LL) := ⟨hloc hx, fun v hv => EX_rg hx (hS.2.1 v hv), (fun v hv => nomatch hv), hM, by rw [e1]; exact hP, hD, k3⟩
    obtain ⟨t2, a1, b1⟩ := Kx x M' ad' T'.heap (locs ++ LL) ce q hq hx4 hx hs (by rw [e1]; exact hce) hcv hcl T' rfl X'
    exact ⟨t2, st9.trans a1, b1⟩
/-- a method of an object, by its name -/
theorem w_virt {y d nA : Nat} {o : Nat} {as r : List Vl} {Q' : Rs → Mm → Prop} (hx : p.tables.exec = Jvm.exec) (hb : c.code = cc) (hml : c.maxLocals = n) (hd : decode cc pc = .ok (.invokevirtual idx, 3)) (hE : EV D T b0 L xs adV ad s) (hS : SP D T b0 L xs n s ad ls st M LS H locs)
    (hM : CT l D T b0 L xs adV d y (.inr (.inr (.inl o)) :: as) M Q') (hh : hht y = []) (hown : s.vm.findClass own = some m.cls) (hts : ∀ w ∈ TS, w.before args s = true) (hK : va_K D vwCl (tyl T) s)
    (hrg : ∀ v ∈ Sum.inr (Sum.inr (Sum.inl o)) :: as, rgv M v) (hcat : catL r = true) (hko : kq (M.1 o) 0 ci = true) (hcn : vwCl[ci]? = some (C, F, N))
    (hG : GoodIn TS (wsV own idx C (yn y) [.code (yn y) (byt y) (mxl y) (rtt y)])) (hdc : (yn y).cls = C ∧ (yn y).cls ≠ "java/lang/invoke/MethodHandle" ∧ (yn y).cls ≠ "java/lang/invoke/VarHandle" ∧ (parseMethodDescriptor (yn y).desc).map (fun d => d.parameters.length) = some as.length)
    (hR : d + 31 ≤ R.frames ∧ 23 + mxl y + (40 * d + 1200) ≤ R.locals) (hf : cs.1 + (mcOf y).1 ≤ R.cells ∧ cs.2 + (mcOf y).2 ≤ R.slots) :
    vx_Run p l e R s m args below meth c H locs cs.1 cs.2 (mcOf y).1 (mcOf y).2 (F0 m pc LS (as.reverse.map (cf ad) ++ va_rf (rf ad o) :: r.map (cf ad))) (r.map (cf ad)) (QR D T b0 L xs ad M Q' (Value.ref (ad o) :: as.map (cf ad)).toArray) (QX D T b0 L xs ad M Q') (AA b0) := by
  have hm := hM ad hrg
  have hcw : cw y = .code (yn y) (byt y) (mxl y) (rtt y) := by unfold cw; rw [hh]
  rw [hcw] at hm
  obtain ⟨h1, h2, h3, h4⟩ := kq_1 hS.2.2.2.1 hko
  obtain ⟨e1, -⟩ := en_obj (T := T) (ad := ad) hko
  have hw := wl_get (T := T) (ad := ad) h3 h4
  rw [e1] at hw
  have hrv := va_recv hK hS.2.2.2.2.1 hcn hw
  rw [rf_1 h3]
  refine x_runV (As := as.map (cf ad)) (n := as.length) (nL := n) (own := own) (C := C) (b := ad o) (Ts := TS) (bytes := byt y) (maxL := mxl y) (ret := rtt y) (index := idx) (rest := r.map (cf ad)) ⟨hx, hb, hml, hown, hts⟩ hm (cwV as.length hts hG rfl rfl rfl hdc ⟨by show d + 30 + 1 ≤ _; omega, by show 8 + (mxl y + 11) + (40 * d + 1200) ≤ _; omega⟩) (by show 12 + (mxl y + 11) + (40 * d + 1200) ≤ _; omega) ⟨PS_blind, hrv, fun U hU hW => ⟨?_, SP_PS hE hS hU hW⟩⟩ rfl (by simp) hS.1.1 (by rw [List.map_reverse]) (by show 2 * 0 + _ ≤ 12; have := catsuL (ad := ad) hcat; omega) hd hf
  rw [List.map_cons]
  show (Value.ref (ad o) :: _).toArray = (va_rf (rf ad o) :: _).toArray
  rw [rf_1 h3]
/-- a static method -/
theorem w_stat {y d : Nat} {as r : List Vl} {Q' : Rs → Mm → Prop} (hx : p.tables.exec = Jvm.exec) (hb : c.code = cc) (hml : c.maxLocals = n) (hd : decode cc pc = .ok (.invokestatic idx, 3)) (hE : EV D T b0 L xs adV ad s) (hS : SP D T b0 L xs n s ad ls st M LS H locs)
    (hM : CT l D T b0 L xs adV d y as M Q') (hh : hht y = []) (hown : s.vm.findClass own = some m.cls) (hts : ∀ w ∈ TS, w.before args s = true)
    (hrg : ∀ v ∈ as, rgv M v) (hcat : catOK r = true)
    (hG : GoodIn TS (va_wsS own idx (yn y) [.code (yn y) (byt y) (mxl y) (rtt y)])) (hdc : (yn y).cls ≠ "java/lang/invoke/MethodHandle" ∧ (yn y).cls ≠ "java/lang/invoke/VarHandle" ∧ (parseMethodDescriptor (yn y).desc).map (fun d => d.parameters.length) = some as.length)
    (hR : d + 31 ≤ R.frames ∧ 19 + mxl y + (40 * d + 1200) ≤ R.locals) (hf : cs.1 + (mcOf y).1 ≤ R.cells ∧ cs.2 + (mcOf y).2 ≤ R.slots) :
    vx_Run p l e R s m args below meth c H locs cs.1 cs.2 (mcOf y).1 (mcOf y).2 (F0 m pc LS (as.reverse.map (cf ad) ++ r.map (cf ad))) (r.map (cf ad)) (QR D T b0 L xs ad M Q' (as.map (cf ad)).toArray) (QX D T b0 L xs ad M Q') (AA b0) := by
  have hm := hM ad hrg
  have hcw : cw y = .code (yn y) (byt y) (mxl y) (rtt y) := by unfold cw; rw [hh]
  rw [hcw] at hm
  exact vx_runS (As := as.map (cf ad)) (n := as.length) (nL := n) (own := own) (Ts := TS) (bytes := byt y) (maxL := mxl y) (ret := rtt y) (index := idx) (rest := r.map (cf ad)) ⟨hx, hb, hml, hown, hts⟩ hm (va_cwS as.length hts hG rfl rfl rfl hdc ⟨by show d + 30 + 1 ≤ _; omega, by show 8 + (mxl y + 11) + (40 * d + 1200) ≤ _; omega⟩) ⟨PS_blind, fun U hU hW => ⟨rfl, SP_PS hE hS hU hW⟩⟩ rfl (by simp) hS.1.1 (by rw [List.map_reverse]) (by show 2 * 0 + _ ≤ 8; have := catsum (ad := ad) hcat; omega) hd hf
/-- a static method with a table of handlers -/
theorem w_statX {y d : Nat} {as r : List Vl} {Q' : Rs → Mm → Prop} {h0 : Nat × Nat × Nat × Nat} {ht : List (Nat × Nat × Nat × Nat)} (hx : p.tables.exec = Jvm.exec) (hb : c.code = cc) (hml : c.maxLocals = n) (hd : decode cc pc = .ok (.invokestatic idx, 3)) (hE : EV D T b0 L xs adV ad s) (hS : SP D T b0 L xs n s ad ls st M LS H locs)
    (hM : CT l D T b0 L xs adV d y as M Q') (hh : hht y = h0 :: ht) (hown : s.vm.findClass own = some m.cls) (hts : ∀ w ∈ TS, w.before args s = true)
    (hrg : ∀ v ∈ as, rgv M v) (hcat : catOK r = true)
    (hG : GoodIn TS (va_wsS own idx (yn y) [.codeWith (yn y) (byt y) (mxl y) (rtt y) (h0 :: ht)])) (hdc : (yn y).cls ≠ "java/lang/invoke/MethodHandle" ∧ (yn y).cls ≠ "java/lang/invoke/VarHandle" ∧ (parseMethodDescriptor (yn y).desc).map (fun d => d.parameters.length) = some as.length)
    (hR : d + 31 ≤ R.frames ∧ 19 + mxl y + (40 * d + 1200) ≤ R.locals) (hf : cs.1 + (mcOf y).1 ≤ R.cells ∧ cs.2 + (mcOf y).2 ≤ R.slots) :
    vx_Run p l e R s m args below meth c H locs cs.1 cs.2 (mcOf y).1 (mcOf y).2 (F0 m pc LS (as.reverse.map (cf ad) ++ r.map (cf ad))) (r.map (cf ad)) (QR D T b0 L xs ad M Q' (as.map (cf ad)).toArray) (QX D T b0 L xs ad M Q') (AA b0) := by
  have hm := hM ad hrg
  have hcw : cw y = .codeWith (yn y) (byt y) (mxl y) (rtt y) (h0 :: ht) := by unfold cw; rw [hh]
  rw [hcw] at hm
  exact vx_runSX (As := as.map (cf ad)) (n := as.length) (nL := n) (own := own) (Ts := TS) (bytes := byt y) (maxL := mxl y) (ret := rtt y) (index := idx) (rest := r.map (cf ad)) ⟨hx, hb, hml, hown, hts⟩ hm (vx_cwSW as.length hts hG rfl rfl rfl hdc ⟨by show d + 30 + 1 ≤ _; omega, by show 8 + (mxl y + 11) + (40 * d + 1200) ≤ _; omega⟩) ⟨PS_blind, fun U hU hW => ⟨rfl, SP_PS hE hS hU hW⟩⟩ rfl (by simp) hS.1.1 (by rw [List.map_reverse]) (by show 2 * 0 + _ ≤ 8; have := catsum (ad := ad) hcat; omega) hd hf
/-- a constructor -/
theorem w_spec {y d : Nat} {o : Nat} {as r : List Vl} {Q' : Rs → Mm → Prop} (hx : p.tables.exec = Jvm.exec) (hb : c.code = cc) (hml : c.maxLocals = n) (hd : decode cc pc = .ok (.invokespecial idx, 3)) (hE : EV D T b0 L xs adV ad s) (hS : SP D T b0 L xs n s ad ls st M LS H locs)
    (hM : CT l D T b0 L xs adV d y (.inr (.inr (.inl o)) :: as) M Q') (hh : hht y = []) (hown : s.vm.findClass own = some m.cls) (hts : ∀ w ∈ TS, w.before args s = true)
    (hrg : ∀ v ∈ Sum.inr (Sum.inr (Sum.inl o)) :: as, rgv M v) (hcat : catOK r = true) (hko : kq (M.1 o) 0 ci = true)
    (hret : rtt y = none) (hG : GoodIn TS [.code (yn y) (byt y) (mxl y) none]) (hini : Cond.initialized (yn y).cls ∈ TS) (hlk : Cond.methodLink own idx (yn y) ∈ TS) (hin : Cond.instanceMethod (yn y) ∈ TS) (hy1 : (yn y).name = "<init>")
    (hdc : (yn y).cls ≠ "java/lang/invoke/MethodHandle" ∧ (yn y).cls ≠ "java/lang/invoke/VarHandle" ∧ (parseMethodDescriptor (yn y).desc).map (fun d => d.parameters.length) = some as.length)
    (hR : d + 31 ≤ R.frames ∧ 19 + mxl y + (40 * d + 1200) ≤ R.locals) (hf : cs.1 + (mcOf y).1 ≤ R.cells ∧ cs.2 + (mcOf y).2 ≤ R.slots) :
    vx_Run p l e R s m args below meth c H locs cs.1 cs.2 (mcOf y).1 (mcOf y).2 (F0 m pc LS (as.reverse.map (cf ad) ++ va_rf (rf ad o) :: r.map (cf ad))) (r.map (cf ad)) (QR D T b0 L xs ad M Q' (Value.ref (ad o) :: as.map (cf ad)).toArray) (QX D T b0 L xs ad M Q') (AA b0) := by
  have hm := hM ad hrg
  have hcw : cw y = .code (yn y) (byt y) (mxl y) none := by unfold cw; rw [hh, hret]
  rw [hcw] at hm
  obtain ⟨h1, h2, h3, h4⟩ := kq_1 hS.2.2.2.1 hko
  rw [rf_1 h3]
  refine vx_runI (As := as.map (cf ad)) (n := as.length) (nL := n) (own := own) (b := ad o) (Ts := TS) (bytes := byt y) (maxL := mxl y) (index := idx) (rest := r.map (cf ad)) ⟨hx, hb, hml, hown, hts⟩ hm (cwI as.length hts hG rfl rfl rfl (hts _ hini) (hts _ hlk) (hts _ hin) hy1 hdc ⟨by show d + 30 + 1 ≤ _; omega, by show 8 + (mxl y + 11) + (40 * d + 1200) ≤ _; omega⟩) ⟨PS_blind, fun U hU hW => ⟨?_, SP_PS hE hS hU hW⟩⟩ rfl (by simp) hS.1.1 (by rw [List.map_reverse]) (by show 2 * 0 + _ ≤ 8; have := catsum (ad := ad) hcat; omega) hd hf
  rw [List.map_cons]
  show (Value.ref (ad o) :: _).toArray = (va_rf (rf ad o) :: _).toArray
  rw [rf_1 h3]
/-- a private constructor of a nest mate -/
theorem w_specN {y d : Nat} {o : Nat} {as r : List Vl} {host : String} {Q' : Rs → Mm → Prop} (hx : p.tables.exec = Jvm.exec) (hb : c.code = cc) (hml : c.maxLocals = n) (hd : decode cc pc = .ok (.invokespecial idx, 3)) (hE : EV D T b0 L xs adV ad s) (hS : SP D T b0 L xs n s ad ls st M LS H locs)
    (hM : CT l D T b0 L xs adV d y (.inr (.inr (.inl o)) :: as) M Q') (hh : hht y = []) (hown : s.vm.findClass own = some m.cls) (hts : ∀ w ∈ TS, w.before args s = true)
    (hrg : ∀ v ∈ Sum.inr (Sum.inr (Sum.inl o)) :: as, rgv M v) (hcat : catOK r = true) (hko : kq (M.1 o) 0 ci = true)
    (hret : rtt y = none) (hG : GoodIn TS [.code (yn y) (byt y) (mxl y) none]) (hini : Cond.initialized (yn y).cls ∈ TS) (hlk : Cond.methodLinkNest own idx (yn y) host ∈ TS) (hin : Cond.instanceMethod (yn y) ∈ TS) (hy1 : (yn y).name = "<init>")
    (hdc : (yn y).cls ≠ "java/lang/invoke/MethodHandle" ∧ (yn y).cls ≠ "java/lang/invoke/VarHandle" ∧ (parseMethodDescriptor (yn y).desc).map (fun d => d.parameters.length) = some as.length)
    (hR : d + 31 ≤ R.frames ∧ 19 + mxl y + (40 * d + 1200) ≤ R.locals) (hf : cs.1 + (mcOf y).1 ≤ R.cells ∧ cs.2 + (mcOf y).2 ≤ R.slots) :
    vx_Run p l e R s m args below meth c H locs cs.1 cs.2 (mcOf y).1 (mcOf y).2 (F0 m pc LS (as.reverse.map (cf ad) ++ va_rf (rf ad o) :: r.map (cf ad))) (r.map (cf ad)) (QR D T b0 L xs ad M Q' (Value.ref (ad o) :: as.map (cf ad)).toArray) (QX D T b0 L xs ad M Q') (AA b0) := by
  have hm := hM ad hrg
  have hcw : cw y = .code (yn y) (byt y) (mxl y) none := by unfold cw; rw [hh, hret]
  rw [hcw] at hm
  obtain ⟨h1, h2, h3, h4⟩ := kq_1 hS.2.2.2.1 hko
  rw [rf_1 h3]
  refine vx_runIN (As := as.map (cf ad)) (n := as.length) (nL := n) (own := own) (host := host) (b := ad o) (Ts := TS) (bytes := byt y) (maxL := mxl y) (index := idx) (rest := r.map (cf ad)) ⟨hx, hb, hml, hown, hts⟩ hm ⟨va_cnB as.length hts hG rfl rfl rfl (va_Nw.of rfl (hts _ hlk)) (hts _ hini) hdc ⟨by show d + 30 + 1 ≤ _; omega, by show 8 + (mxl y + 11) + (40 * d + 1200) ≤ _; omega⟩, hy1, hts _ hin⟩ ⟨PS_blind, fun U hU hW => ⟨?_, SP_PS hE hS hU hW⟩⟩ rfl (by simp) hS.1.1 (by rw [List.map_reverse]) (by show 2 * 0 + _ ≤ 8; have := catsum (ad := ad) hcat; omega) hd hf
  rw [List.map_cons]
  show (Value.ref (ad o) :: _).toArray = (va_rf (rf ad o) :: _).toArray
  rw [rf_1 h3]
end RC
