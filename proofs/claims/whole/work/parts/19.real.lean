/-! ===== the small machine tells of the real one ===== -/
theorem an2 {a b : Bool} (h : (a && b) = true) : a = true ∧ b = true := by rw [Bool.and_eq_true] at h; exact h
theorem beqE {a b : Nat} (h : Nat.beq a b = true) : a = b := Nat.eq_of_beq_eq_true h
theorem dec_e {p : Prop} {d : Decidable p} (h : @decide p d = true) : p := of_decide_eq_true h
theorem not_e {b : Bool} (h : (!b) = true) : b = false := by cases b <;> simp_all
/-- String's own two methods, on the constants -/
def S5 (l : Launch) (D : va_G) (T : T4) (b0 L : Nat) (xs : Nat → Int32) (adV : Nat → Nat) : Prop := ∀ (ad : Nat → Nat) (M : Mm) (t : Nat), t < NSTR → vx_Met l yJ0_length_8abf5 [.code yJ0_length_8abf5 cJ0_length_8abf5 1 (some .int)] { frames := 20, cells := 0, slots := 0, locals := 800 } (va_Pc [.ref (ad (2000000 + t))] (PS D T b0 L xs adV ad M)) (QR D T b0 L xs ad M (fun o M' => o = .inl (some (.inl (strL t : Nat))) ∧ M' = M)) (QX D T b0 L xs ad M (fun _ _ => False)) 0 0 (AA b0)
def S6 (l : Launch) (D : va_G) (T : T4) (b0 L : Nat) (xs : Nat → Int32) (adV : Nat → Nat) : Prop := ∀ (ad : Nat → Nat) (M : Mm) (t i : Nat), t < NSTR → i < strL t → vx_Met l yJ0_charAt_5068e [.code yJ0_charAt_5068e cJ0_charAt_5068e 2 (some .char)] { frames := 20, cells := 0, slots := 0, locals := 800 } (va_Pc [.ref (ad (2000000 + t)), .int (Int32.ofInt i)] (PS D T b0 L xs adV ad M)) (QR D T b0 L xs ad M (fun o M' => o = .inl (some (.inl (strC t i))) ∧ M' = M)) (QX D T b0 L xs ad M (fun _ _ => False)) 0 0 (AA b0)
/-- the tables are right -/
def TOK : Prop := (∀ j t, j < NMETH → okL j t (cod j t).2 = true) ∧ (∀ y, y < NMETH → y ≠ LAWM → mOK y = true) ∧ (∀ ci, ci < 12 → CL TS ci (clC ci) (clF ci) (clN ci) (clT ci)) ∧ (∀ ci i, ci < 12 → i < clN ci → tyg (clT ci i) ≠ 9 ∧ (tyg (clT ci i) = (ft ci).getD i 0 ∨ ((ft ci).getD i 0 = 4 ∧ tyg (clT ci i) = 2))) ∧ (∀ ci, ci < 12 → Cond.instantiable (clC ci) (clN ci) ∈ TS ∧ Cond.initialized (clC ci) ∈ TS) ∧
  (∀ e, e < 4 → Bundle.fit (exn e) = true ∧ Cond.initialized (exn e) ∈ TS ∧ Cond.castable (exn e) (exn e) ∈ TS ∧ (∀ w ∈ vx_atS "GlassLeaders" (iix9 e) (exn e) xnames, w ∈ TS ∧ vx_ot w = true)) ∧
  Cond.methodLink "GlassLeaders" 0 Lib.objectInit = Cond.methodLink "GlassLeaders" 0 Lib.objectInit ∧ Cond.instanceMethod Lib.objectInit ∈ TS ∧ Cond.code Lib.objectInit ⟨#[0xb1]⟩ 1 none ∈ TS ∧ Cond.native arraycopyName ∈ TS ∧ Cond.static arraycopyName ∈ TS ∧ Cond.initialized "java/lang/System" ∈ TS ∧ Cond.arrayClass .int ∈ TS ∧ Cond.arrayClass .long ∈ TS ∧ Cond.arrayClass .boolean ∈ TS ∧
  (∀ w ∈ wsV "" 0 "java/lang/String" yJ0_length_8abf5 [.code yJ0_length_8abf5 cJ0_length_8abf5 1 (some .int)], w = .methodLink "" 0 yJ0_length_8abf5 ∨ (w ∈ TS ∧ goodWord w = true)) ∧ (∀ w ∈ wsV "" 0 "java/lang/String" yJ0_charAt_5068e [.code yJ0_charAt_5068e cJ0_charAt_5068e 2 (some .char)], w = .methodLink "" 0 yJ0_charAt_5068e ∨ (w ∈ TS ∧ goodWord w = true)) ∧
  (∀ j h, j < NMETH → (∃ r ∈ hht j, r.2.2.1 = h) → ∃ (op : Op) (ops : List Op) (i : Nat), (cod j h).2 = op :: ops ∧ i < mxl j ∧ ((op.1 = .astore i ∧ op.2.1 = 2) ∨ ∃ k : Fin 4, k.val = i ∧ op.1 = .astore_n k ∧ op.2.1 = 1)) ∧
  (∀ j, j < NMETH → ∀ r ∈ hht j, r.2.2.2 ≠ 0 ∧ Cond.classLink (yn j).cls r.2.2.2 (exn (xn r.2.2.2)) ∈ TS)
section RX
variable {p : Program} {l : Launch} {e : Env} {R : Room} {s : State} {m : MethodId} {args : Array Value} {below : List Frame} {meth : Method} {c : Code} {Q : State → Prop}
variable {D : va_G} {T : T4} {b0 L : Nat} {xs : Nat → Int32} {adV : Nat → Nat}
/-- a method's surroundings -/
def CX (p : Program) (R : Room) (s : State) (m : MethodId) (args : Array Value) (meth : Method) (c : Code) (D : va_G) (T : T4) (b0 L : Nat) (xs : Nat → Int32) (adV : Nat → Nat) (d j : Nat) (ad0 : Nat → Nat) : Prop :=
  p.tables.exec = Jvm.exec ∧ c.code = byt j ∧ c.maxLocals = mxl j ∧ s.vm.findClass (yn j).cls = some m.cls ∧ (∀ w ∈ TS, w.before args s = true) ∧ EV D T b0 L xs adV ad0 s ∧ meth.locks = false ∧ meth.sig.returnType = rtt j ∧ ((yn j).name = "<init>" → meth.name = "<init>") ∧ c.exceptionTable.toList = tableOf (hht j) ∧ R.cells = (mcOf j).1 ∧ R.slots = (mcOf j).2 ∧ d + 30 ≤ R.frames ∧ 40 * d + 1200 ≤ R.locals ∧ j < NMETH
/-- how it may end -/
def KF (p : Program) (l : Launch) (e : Env) (R : Room) (s : State) (m : MethodId) (args : Array Value) (below : List Frame) (meth : Method) (c : Code) (Q : State → Prop) (D : va_G) (T : T4) (b0 L : Nat) (xs : Nat → Int32) (j : Nat) (ad0 : Nat → Nat) (M0 : Mm) (Q' : Rs → Mm → Prop) : Prop :=
  ∀ (pc : Nat) (ad : Nat → Nat) (ls : List Vl) (M : Mm) (cs : Nat × Nat) (LS : Array Slot) (H : Heap) (locs : List Loc), EX ad0 M0 ad M → cs.1 ≤ (mcOf j).1 ∧ cs.2 ≤ (mcOf j).2 →
    (∀ v, SP D T b0 L xs (mxl j) s ad ls [.inl v] M LS H locs → Q' (.inl (some (.inl v))) M → decode (byt j) pc = .ok (.ireturn, 1) → (rtt j = some .int ∨ (rtt j = some .boolean ∧ zb v = true)) → W p l e R s m args below meth c H locs cs.1 cs.2 Q (F0 m pc LS [cf ad (.inl v)])) ∧
    (∀ v, SP D T b0 L xs (mxl j) s ad ls [.inr (.inl v)] M LS H locs → Q' (.inl (some (.inr (.inl v)))) M → decode (byt j) pc = .ok (.lreturn, 1) → rtt j = some .long → W p l e R s m args below meth c H locs cs.1 cs.2 Q (F0 m pc LS [cf ad (.inr (.inl v))])) ∧
    (SP D T b0 L xs (mxl j) s ad ls [] M LS H locs → Q' (.inl none) M → decode (byt j) pc = .ok (.return_, 1) → rtt j = none → W p l e R s m args below meth c H locs cs.1 cs.2 Q (F0 m pc LS [])) ∧
    (∀ (op : Op) (x : Nat) (z : List Nat), op.2.2.1 = 9 :: x :: z → okT j pc op = true → SP D T b0 L xs (mxl j) s ad ls [] M LS H locs → chk (lq (cs.1 + 1) (mcOf j).1 (cs.2 + 6) (mcOf j).2) (Q' (.inr x) M) → W p l e R s m args below meth c H locs cs.1 cs.2 Q (F0 m pc LS [])) ∧
    (∀ (x : Nat) (ce : Cell) (q9 : Addr) (rest : List Value), x < 4 → SP D T b0 L xs (mxl j) s ad ls [] M LS H locs → H[q9]? = some ce → ce.vm = .none → s.vm.findClass (exn x) = some ce.cls → (hnd j pc x = none → Q' (.inr x) M) → (∀ h, hnd j pc x = some h → W p l e R s m args below meth c H locs cs.1 cs.2 Q (F0 m h LS [.ref q9])) → vx_W p l e R s m args below meth c H locs cs.1 cs.2 Q (F0 m pc LS rest) q9)
def ICT (l : Launch) (D : va_G) (T : T4) (b0 L : Nat) (xs : Nat → Int32) (adV : Nat → Nat) (f : Nat) : Prop := ∀ (d y : Nat) (as : List Vl) (M : Mm) (Q' : Rs → Mm → Prop), y < NMETH → y ≠ LAWM → wp f d y 0 (cod y 0).2 (spr as) [] M (0, 0) Q' → CT l D T b0 L xs adV d y as M Q'
def BODY (l : Launch) (D : va_G) (T : T4) (b0 L : Nat) (xs : Nat → Int32) (adV : Nat → Nat) (f : Nat) : Prop := ∀ (p : Program) (e : Env) (R : Room) (s : State) (m : MethodId) (args : Array Value) (below : List Frame) (meth : Method) (c : Code) (Q : State → Prop) (d j : Nat) (ad0 : Nat → Nat) (M0 : Mm) (Q' : Rs → Mm → Prop),
  CX p R s m args meth c D T b0 L xs adV d j ad0 → KF p l e R s m args below meth c Q D T b0 L xs j ad0 M0 Q' →
  ∀ (pc : Nat) (ops : List Op) (ls st : List Vl) (M : Mm) (cs : Nat × Nat) (ad : Nat → Nat) (LS : Array Slot) (H : Heap) (locs : List Loc), wp f d j pc ops ls st M cs Q' → okL j pc ops = true → EX ad0 M0 ad M → cs.1 ≤ (mcOf j).1 ∧ cs.2 ≤ (mcOf j).2 → SP D T b0 L xs (mxl j) s ad ls st M LS H locs →
    W p l e R s m args below meth c H locs cs.1 cs.2 Q (F0 m pc LS (st.map (cf ad)))
theorem EV_ad {ad0 ad : Nat → Nat} {M0 M : Mm} (hE : EV D T b0 L xs adV ad0 s) (h : EX ad0 M0 ad M) : EV D T b0 L xs adV ad s := EV_mv hE (State.WarmedH.refl s) va_S.rf rfl h.2.2
theorem gin {ws : List Cond} (h : ∀ w ∈ ws, w ∈ TS ∧ goodWord w = true) : GoodIn TS ws := fun w hw => ⟨(h w hw).1, good_of_word (h w hw).2⟩
theorem mk_mem : ∀ (b : List Bool) (ls : List Vl), ∀ w ∈ mk b ls, w = jk ∨ w ∈ ls := by
  intro b
  induction b with
  | nil => intro ls w hw; simp [mk] at hw
  | cons x b ih =>
    intro ls w hw
    cases ls with
    | nil => cases x <;> simp [mk] at hw
    | cons v r =>
      cases x
      · simp only [mk, List.mem_cons] at hw
        rcases hw with h | h
        · exact Or.inl h
        · rcases ih r w h with h | h
          · exact Or.inl h
          · exact Or.inr (List.mem_cons_of_mem _ h)
      · simp only [mk, List.mem_cons] at hw
        rcases hw with h | h
        · exact Or.inr (by rw [h]; exact List.mem_cons_self)
        · rcases ih r w h with h | h
          · exact Or.inl h
          · exact Or.inr (List.mem_cons_of_mem _ h)
theorem take_rg {M : Mm} {st : List Vl} {k : Nat} (h : ∀ v ∈ st, rgv M v) : (∀ v ∈ (st.take k).reverse, rgv M v) ∧ ∀ v ∈ st.drop k, rgv M v := ⟨fun v hv => h v (List.mem_of_mem_take (List.mem_reverse.mp hv)), fun v hv => h v (List.mem_of_mem_drop hv)⟩
end RX
