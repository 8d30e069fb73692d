/-! ===== the small machine tells of the real one ===== -/
theorem an2 {a b : Bool} (h : (a && b) = true) : a = true ∧ b = true := by rw [Bool.and_eq_true] at h; exact h
theorem beqE {a b : Nat} (h : Nat.beq a b = true) : a = b := Nat.eq_of_beq_eq_true h
theorem dec_e {p : Prop} {d : Decidable p} (h : @decide p d = true) : p := of_decide_eq_true h
theorem not_e {b : Bool} (h : (!b) = true) : b = false := by cases b <;> simp_all
/-- String's own two methods, on the constants -/
def S5 (l : Launch) (D : va_G) (T : T4) (b0 L : Nat) (xs : Nat → Int32) (adV : Nat → Nat) : Prop := ∀ (ad : Nat → Nat) (M : Mm) (t : Nat), t < NSTR → vx_Met l yJ0_length_8abf5 [.code yJ0_length_8abf5 cJ0_length_8abf5 1 (some .int)] { frames := 20, cells := 0, slots := 0, locals := 800 } (va_Pc [.ref (ad (2000000 + t))] (PS D T b0 L xs adV ad M)) (QR D T b0 L xs ad M (fun o M' => o = .inl (some (.inl (strL t : Nat))) ∧ M' = M)) (QX D T b0 L xs ad M (fun o M' => o = .inl (some (.inl (strL t : Nat))) ∧ M' = M)) 0 0 (AA b0)
def S6 (l : Launch) (D : va_G) (T : T4) (b0 L : Nat) (xs : Nat → Int32) (adV : Nat → Nat) : Prop := ∀ (ad : Nat → Nat) (M : Mm) (t i : Nat), t < NSTR → i < strL t → vx_Met l yJ0_charAt_5068e [.code yJ0_charAt_5068e cJ0_charAt_5068e 2 (some .char)] { frames := 20, cells := 0, slots := 0, locals := 800 } (va_Pc [.ref (ad (2000000 + t)), .int (Int32.ofInt i)] (PS D T b0 L xs adV ad M)) (QR D T b0 L xs ad M (fun o M' => o = .inl (some (.inl (strC t i))) ∧ M' = M)) (QX D T b0 L xs ad M (fun o M' => o = .inl (some (.inl (strC t i))) ∧ M' = M)) 0 0 (AA b0)
/-- the tables are right -/
def TOK : Prop := (∀ j t, j < NMETH → okL j t (cod j t).2 = true) ∧ (∀ y, y < NMETH → y ≠ LAWM → mOK y = true) ∧ (∀ ci, ci < 12 → CL TS ci (clC ci) (clF ci) (clN ci) (clT ci)) ∧ (∀ ci i, ci < 12 → i < clN ci → tyg (clT ci i) ≠ 9 ∧ (tyg (clT ci i) = (ft ci).getD i 0 ∨ ((ft ci).getD i 0 = 4 ∧ tyg (clT ci i) = 2))) ∧ (∀ ci, ci < 12 → Cond.instantiable (clC ci) (clN ci) ∈ TS ∧ Cond.initialized (clC ci) ∈ TS) ∧
  (∀ e, e < 4 → Bundle.fit (exn e) = true ∧ Cond.initialized (exn e) ∈ TS ∧ Cond.castable (exn e) (exn e) ∈ TS ∧ (∀ w ∈ x_at "GlassLeaders" (iix9 e) (exn e) (xIx e) (xRx e) xnames, w ∈ TS ∧ vx_ot w = true)) ∧
  Cond.instanceMethod Lib.objectInit ∈ TS ∧ Cond.code Lib.objectInit ⟨#[0xb1]⟩ 1 none ∈ TS ∧ Cond.native arraycopyName ∈ TS ∧ Cond.static arraycopyName ∈ TS ∧ Cond.initialized "java/lang/System" ∈ TS ∧ Cond.arrayClass .int ∈ TS ∧ Cond.arrayClass .long ∈ TS ∧ Cond.arrayClass .boolean ∈ TS ∧
  (∀ w ∈ [Cond.instanceMethod yJ0_length_8abf5, .selects "java/lang/String" yJ0_length_8abf5 yJ0_length_8abf5, .initialized "java/lang/String", .code yJ0_length_8abf5 cJ0_length_8abf5 1 (some .int)], w ∈ TS ∧ goodWord w = true) ∧ (∀ w ∈ [Cond.instanceMethod yJ0_charAt_5068e, .selects "java/lang/String" yJ0_charAt_5068e yJ0_charAt_5068e, .initialized "java/lang/String", .code yJ0_charAt_5068e cJ0_charAt_5068e 2 (some .char)], w ∈ TS ∧ goodWord w = true) ∧
  (∀ j h, j < NMETH → (∃ r ∈ hht j, r.2.2.1 = h) → ∃ (op : Op) (ops : List Op) (i : Nat), (cod j h).2 = op :: ops ∧ i < mxl j ∧ ((op.1 = .astore i ∧ op.2.1 = 2) ∨ ∃ k : Fin 4, k.val = i ∧ op.1 = .astore_n k ∧ op.2.1 = 1)) ∧
  (∀ j, j < NMETH → ∀ r ∈ hht j, r.2.2.2 ≠ 0 ∧ Cond.classLink (yn j).cls r.2.2.2 (exn (xn r.2.2.2)) ∈ TS)
section RX
variable {p : Program} {l : Launch} {e : Env} {R : Room} {s : State} {m : MethodId} {args : Array Value} {below : List Frame} {meth : Method} {c : Code} {Q : State → Prop}
variable {D : va_G} {T : T4} {b0 L : Nat} {xs : Nat → Int32} {adV : Nat → Nat}
/-- a method's surroundings -/
def CX (p : Program) (R : Room) (s : State) (m : MethodId) (args : Array Value) (meth : Method) (c : Code) (D : va_G) (T : T4) (b0 L : Nat) (xs : Nat → Int32) (adV : Nat → Nat) (d j : Nat) (ad0 : Nat → Nat) : Prop :=
  p.tables.exec = Jvm.exec ∧ c.code = byt j ∧ c.maxLocals = mxl j ∧ s.vm.findClass (yn j).cls = some m.cls ∧ (∀ w ∈ TS, w.before args s = true) ∧ EV D T b0 L xs adV ad0 s ∧ meth.locks = false ∧ meth.sig.returnType = rtt j ∧ ((yn j).name = "<init>" → meth.name = "<init>") ∧ c.exceptionTable.toList = tableOf (hht j) ∧ R.cells = (mcOf j).1 ∧ R.slots = (mcOf j).2 ∧ d + 30 ≤ R.frames ∧ 40 * d + 1200 ≤ R.locals ∧ j < NMETH
/-- how it may end -/
def KF (p : Program) (l : Launch) (e : Env) (R : Room) (s : State) (m : MethodId) (args : Array Value) (below : List Frame) (meth : Method) (c : Code) (Q : State → Prop) (D : va_G) (T : T4) (b0 L : Nat) (xs : Nat → Int32) (j : Nat) (ad0 : Nat → Nat) (M0 : Mm) (Q' : Rs → Mm → Prop) : Prop :=
  ∀ (pc : Nat) (ad : Nat → Nat) (ls : List Vl) (M : Mm) (cs : Nat × Nat) (LS : Array Slot) (H : Heap) (locs : List Loc), EX ad0 M0 ad M → cs.1 ≤ (mcOf j).1 ∧ cs.2 ≤ (mcOf j).2 →
    (∀ v, SP D T b0 L xs (mxl j) s ad ls [.inl v] M LS H locs → Q' (.inl (some (.inl v))) M → decode (byt j) pc = .ok (.ireturn, 1) → (rtt j = some .int ∨ (rtt j = some .boolean ∧ zb v = true)) → W p l e R s m args below meth c H locs cs.1 cs.2 Q (F0 m pc LS [cf ad (.inl v)])) ∧
    (∀ v, SP D T b0 L xs (mxl j) s ad ls [.inr (.inl v)] M LS H locs → Q' (.inl (some (.inr (.inl v)))) M → decode (byt j) pc = .ok (.lreturn, 1) → rtt j = some .long → W p l e R s m args below meth c H locs cs.1 cs.2 Q (F0 m pc LS [cf ad (.inr (.inl v))])) ∧
    (SP D T b0 L xs (mxl j) s ad ls [] M LS H locs → Q' (.inl none) M → decode (byt j) pc = .ok (.return_, 1) → rtt j = none → W p l e R s m args below meth c H locs cs.1 cs.2 Q (F0 m pc LS [])) ∧
    (∀ (op : Op) (x : Nat) (z : List Nat), op.2.2.1 = 9 :: x :: z → okT j pc op = true → SP D T b0 L xs (mxl j) s ad ls [] M LS H locs → chk (lq (cs.1 + 1) (mcOf j).1 (cs.2 + 6) (mcOf j).2) (Q' (.inr x) M) → W p l e R s m args below meth c H locs cs.1 cs.2 Q (F0 m pc LS [])) ∧
    (∀ (x : Nat) (ce : Cell) (q9 : Addr) (rest : List Value), x < 4 → SP D T b0 L xs (mxl j) s ad ls [] M LS H locs → H[q9]? = some ce → ce.vm = .none → s.vm.findClass (exn x) = some ce.cls → (hnd j pc x = none → Q' (.inr x) M) → (∀ h, hnd j pc x = some h → W p l e R s m args below meth c H locs cs.1 cs.2 Q (F0 m h LS [.ref q9])) → vx_W p l e R s m args below meth c H locs cs.1 cs.2 Q (F0 m pc LS rest) q9)
def ICT (l : Launch) (D : va_G) (T : T4) (b0 L : Nat) (xs : Nat → Int32) (adV : Nat → Nat) (f : Nat) : Prop := ∀ (d y : Nat) (as : List Vl) (M : Mm) (Q' : Rs → Mm → Prop), y < NMETH → y ≠ LAWM → (spr as).length ≤ mxl y → wp f d y 0 (cod y 0).2 (spr as) [] M (0, 0) Q' → CT l D T b0 L xs adV d y as M Q'
def BODY (l : Launch) (D : va_G) (T : T4) (b0 L : Nat) (xs : Nat → Int32) (adV : Nat → Nat) (f : Nat) : Prop := ∀ (p : Program) (e : Env) (R : Room) (s : State) (m : MethodId) (args : Array Value) (below : List Frame) (meth : Method) (c : Code) (Q : State → Prop) (d j : Nat) (ad0 : Nat → Nat) (M0 : Mm) (Q' : Rs → Mm → Prop),
  CX p R s m args meth c D T b0 L xs adV d j ad0 → KF p l e R s m args below meth c Q D T b0 L xs j ad0 M0 Q' →
  ∀ (pc : Nat) (ops : List Op) (ls st : List Vl) (M : Mm) (cs : Nat × Nat) (ad : Nat → Nat) (LS : Array Slot) (H : Heap) (locs : List Loc), wp f d j pc ops ls st M cs Q' → okL j pc ops = true → EX ad0 M0 ad M → cs.1 ≤ (mcOf j).1 ∧ cs.2 ≤ (mcOf j).2 → SP D T b0 L xs (mxl j) s ad ls st M LS H locs →
    W p l e R s m args below meth c H locs cs.1 cs.2 Q (F0 m pc LS (st.map (cf ad)))
theorem EV_ad {ad0 ad : Nat → Nat} {M0 M : Mm} (hE : EV D T b0 L xs adV ad0 s) (h : EX ad0 M0 ad M) : EV D T b0 L xs adV ad s := EV_mv hE (State.WarmedH.refl s) va_S.rf rfl h.2.2
theorem gin {ws : List Cond} (h : ∀ w ∈ ws, w ∈ TS ∧ goodWord w = true) : GoodIn TS ws := fun w hw => ⟨(h w hw).1, good_of_word (h w hw).2⟩
theorem mk_mem : ∀ (b : List Bool) (ls : List Vl), ∀ w ∈ mk b ls, w = jk ∨ w ∈ ls := by
  intro b
  induction b with
  | nil => intro ls w hw; simp [mk] at hw
  | cons x b ih =>
    intro ls w hw
    cases ls with
    | nil => cases x <;> simp [mk] at hw
    | cons v r =>
      cases x
      · simp only [mk, List.mem_cons] at hw
        rcases hw with h | h
        · exact Or.inl h
        · rcases ih r w h with h | h
          · exact Or.inl h
          · exact Or.inr (List.mem_cons_of_mem _ h)
      · simp only [mk, List.mem_cons] at hw
        rcases hw with h | h
        · exact Or.inr (by rw [h]; exact List.mem_cons_self)
        · rcases ih r w h with h | h
          · exact Or.inl h
          · exact Or.inr (List.mem_cons_of_mem _ h)
theorem take_rg {M : Mm} {st : List Vl} {k : Nat} (h : ∀ v ∈ st, rgv M v) : (∀ v ∈ (st.take k).reverse, rgv M v) ∧ ∀ v ∈ st.drop k, rgv M v := ⟨fun v hv => h v (List.mem_of_mem_take (List.mem_reverse.mp hv)), fun v hv => h v (List.mem_of_mem_drop hv)⟩


theorem hndR_mem : ∀ (rows : List (Nat × Nat × Nat × Nat)) (pc x h : Nat), hndR rows pc x = some h → ∃ r ∈ rows, r.2.2.1 = h := by
  intro rows
  induction rows with
  | nil => intro pc x h hh; simp [hndR] at hh
  | cons r rows ih =>
    intro pc x h hh
    obtain ⟨a, b, hd, i⟩ := r
    unfold hndR at hh
    split at hh
    · cases hh
      exact ⟨_, List.mem_cons_self, rfl⟩
    · obtain ⟨r, h1, h2⟩ := ih pc x h hh
      exact ⟨r, List.mem_cons_of_mem _ h1, h2⟩
/-- what follows a call -/
def CONT (f d j pc : Nat) (ops : List Op) (ls r : List Vl) (cs : Nat × Nat) (y : Nat) (Q' : Rs → Mm → Prop) : Rs → Mm → Prop := fun o M' => match o with
  | .inl v => wp f d j (pc + 3) ops ls (aft v r) M' (cs.1 + (mcOf y).1, cs.2 + (mcOf y).2) Q'
  | .inr e => match hnd j pc e with
    | none => Q' (.inr e) M'
    | some h => wp f d j (hop j h).1 (hop j h).2 [] [] M' (cs.1 + (mcOf y).1, cs.2 + (mcOf y).2) Q'
theorem b_after {f d j pc y : Nat} {ops : List Op} {ls st r : List Vl} {M M0 : Mm} {cs : Nat × Nat} {ad ad0 : Nat → Nat} {LS : Array Slot} {H : Heap} {locs : List Loc} {Q' : Rs → Mm → Prop} {st0 : List Value} {a : Array Value} (hT : TOK) (hB : BODY l D T b0 L xs adV f) (hC : CX p R s m args meth c D T b0 L xs adV d j ad0) (hF : KF p l e R s m args below meth c Q D T b0 L xs j ad0 M0 Q')
    (hok : okL j (pc + 3) ops = true) (hx : EX ad0 M0 ad M) (hS : SP D T b0 L xs (mxl j) s ad ls st M LS H locs) (hr0 : ∀ v ∈ r, rgv M v) (hcs : cs.1 + (mcOf y).1 ≤ (mcOf j).1 ∧ cs.2 + (mcOf y).2 ≤ (mcOf j).2)
    (hr : vx_Run p l e R s m args below meth c H locs cs.1 cs.2 (mcOf y).1 (mcOf y).2 (F0 m pc LS st0) (r.map (cf ad)) (QR D T b0 L xs ad M (CONT f d j pc ops ls r cs y Q') a) (QX D T b0 L xs ad M (CONT f d j pc ops ls r cs y Q')) (AA b0)) :
    W p l e R s m args below meth c H locs cs.1 cs.2 Q (F0 m pc LS st0) := by
  obtain ⟨hx0, hb, hml, hown, hts, hE, hlock, hret, hinit, hexc, hRc, hRs, hRf, hRl, hj⟩ := id hC
  refine r_call hr hS hr0 (fun v M' ad' H1 locs1 hq ex hs => ?_) (fun x M' ad' H1 locs1 ce q9 hq hx4 ex hs hce hcv hcl => ?_)
  · exact hB p e R s m args below meth c Q d j ad0 M0 Q' hC hF (pc + 3) ops ls (aft v r) M' (cs.1 + (mcOf y).1, cs.2 + (mcOf y).2) ad' LS H1 locs1 hq hok (EX_tr hx ex) hcs hs
  · refine (hF pc ad' ls M' (cs.1 + (mcOf y).1, cs.2 + (mcOf y).2) LS H1 locs1 (EX_tr hx ex) hcs).2.2.2.2 x ce q9 (r.map (cf ad)) hx4 hs hce hcv hcl (fun hn => ?_) (fun hh e9 => ?_)
    · have hq : (match hnd j pc x with | none => Q' (.inr x) M' | some h => wp f d j (hop j h).1 (hop j h).2 [] [] M' (cs.1 + (mcOf y).1, cs.2 + (mcOf y).2) Q') := hq
      rw [hn] at hq
      exact hq
    · have hq : (match hnd j pc x with | none => Q' (.inr x) M' | some h => wp f d j (hop j h).1 (hop j h).2 [] [] M' (cs.1 + (mcOf y).1, cs.2 + (mcOf y).2) Q') := hq
      rw [e9] at hq
      have hq : wp f d j (hop j hh).1 (hop j hh).2 [] [] M' (cs.1 + (mcOf y).1, cs.2 + (mcOf y).2) Q' := hq
      obtain ⟨op, ops', i, c1, c2, c3⟩ := hT.2.2.2.2.2.2.2.2.2.2.2.2.2.2.2.2.1 j hh hj (hndR_mem _ _ _ _ e9)
      have hok9 := hT.1 j hh hj
      have ehop : hop j hh = (hh + op.2.1, ops') := by unfold hop; rw [c1]
      rw [ehop] at hq
      rw [c1] at hok9
      obtain ⟨ins, len, aux, cst⟩ := op
      rcases c3 with ⟨c3, c4⟩ | ⟨k, c5, c3, c4⟩
      · dsimp only at c3 c4
        subst c3; subst c4
        obtain ⟨g1, g2⟩ := an2 hok9
        obtain ⟨g1, -⟩ := an2 g1
        have g1 := dec_e g1
        refine lv_astore hx0 hb g1 hs.1 c2 rfl fun LS' hl => ?_
        exact hB p e R s m args below meth c Q d j ad0 M0 Q' hC hF (hh + 2) ops' [] [] M' (cs.1 + (mcOf y).1, cs.2 + (mcOf y).2) ad' LS' H1 locs1 hq g2 (EX_tr hx ex) hcs ⟨lv_mem hl (fun q hq => by simp [lvl] at hq), (fun v hv => nomatch hv), (fun v hv => nomatch hv), hs.2.2.2⟩
      · dsimp only at c3 c4
        subst c3; subst c4
        obtain ⟨g1, g2⟩ := an2 hok9
        obtain ⟨g1, -⟩ := an2 g1
        have g1 := dec_e g1
        refine lv_astore_n hx0 hb g1 c5 hs.1 c2 rfl fun LS' hl => ?_
        exact hB p e R s m args below meth c Q d j ad0 M0 Q' hC hF (hh + 1) ops' [] [] M' (cs.1 + (mcOf y).1, cs.2 + (mcOf y).2) ad' LS' H1 locs1 hq g2 (EX_tr hx ex) hcs ⟨lv_mem hl (fun q hq => by simp [lvl] at hq), (fun v hv => nomatch hv), (fun v hv => nomatch hv), hs.2.2.2⟩
set_option maxRecDepth 20000 in
theorem room_le {a d r : Nat} (h1 : 1 ≤ d) (h2 : 40 * d + 1200 ≤ r) (h3 : a ≤ 17) : 19 + a + (40 * (d - 1) + 1200) ≤ r := by omega
set_option maxRecDepth 100000 in
theorem room_l2 {a d r : Nat} (h1 : 1 ≤ d) (h2 : 40 * d + 1200 ≤ r) (h3 : a ≤ 17) : 23 + a + (40 * (d - 1) + 1200) ≤ r := by omega
/-- a method's facts -/
theorem m_ok (hT : TOK) {y : Nat} (h1 : y < NMETH) (h2 : y ≠ LAWM) : cw y ∈ TS ∧ (stY y = true → Cond.static (yn y) ∈ TS) ∧ (stY y = false → Cond.instanceMethod (yn y) ∈ TS) ∧ Cond.initialized (yn y).cls ∈ TS ∧ plainName (yn y).cls = true ∧ (yn y).cls ≠ "java/lang/invoke/MethodHandle" ∧ (yn y).cls ≠ "java/lang/invoke/VarHandle" ∧ mxl y ≤ 17 := by
  have h := hT.2.1 y h1 h2
  unfold mOK at h
  obtain ⟨h, g5⟩ := an2 h
  obtain ⟨h, g4⟩ := an2 h
  obtain ⟨h, g3⟩ := an2 h
  obtain ⟨h, g2⟩ := an2 h
  split at h
  · obtain ⟨h, k3⟩ := an2 h
    obtain ⟨k1, k2⟩ := an2 h
    refine ⟨wB_in k1, fun q => ?_, fun q => ?_, wB_in k3, g2, dec_e g3, dec_e g4, ble_le g5⟩
    · rw [q] at k2
      exact wB_in k2
    · rw [q] at k2
      exact wB_in k2
  · cases h
theorem gd_cw {y : Nat} (hh : hht y = []) : cw y = .code (yn y) (byt y) (mxl y) (rtt y) := by unfold cw; rw [hh]
/-- a call of a method of an object -/
theorem b_virt {f d j pc y k ci idx tk to : Nat} {ops : List Op} {M M0 : Mm} {cs : Nat × Nat} {ad ad0 : Nat → Nat} {ls st : List Vl} {LS : Array Slot} {H : Heap} {locs : List Loc} {Q' : Rs → Mm → Prop} (hT : TOK) (hB : BODY l D T b0 L xs adV f) (hI : ICT l D T b0 L xs adV f) (hC : CX p R s m args meth c D T b0 L xs adV d j ad0) (hF : KF p l e R s m args below meth c Q D T b0 L xs j ad0 M0 Q')
    (hok : okL j (pc + 3) ops = true) (hd : decode (byt j) pc = .ok (.invokevirtual idx, 3)) (hx : EX ad0 M0 ad M) (hS : SP D T b0 L xs (mxl j) s ad ls st M LS H locs)
    (hck : (Nat.ble 1 k && cB j y (k - 1) && !stY y && decide ((yn y).cls = clC ci) && Nat.ble (ci + 1) 12 && wB tk to (.methodLink (yn j).cls idx (yn y)) && selB y) = true)
    (h : exW y k ci st M (fun y as r => chk (lq (cs.1 + (mcOf y).1) (mcOf j).1 (cs.2 + (mcOf y).2) (mcOf j).2 && Nat.ble (spr as).length (mxl y)) (1 ≤ d ∧ wp f (d - 1) y 0 (cod y 0).2 (spr as) [] M (0, 0) (CONT f d j pc ops ls r cs y Q')))) :
    W p l e R s m args below meth c H locs cs.1 cs.2 Q (F0 m pc LS (st.map (cf ad))) := by
  obtain ⟨hx0, hb, hml, hown, hts, hE, hlock, hret, hinit, hexc, hRc, hRs, hRf, hRl, hj⟩ := id hC
  obtain ⟨hck, k7⟩ := an2 hck
  obtain ⟨hck, k6⟩ := an2 hck
  obtain ⟨hck, k5⟩ := an2 hck
  obtain ⟨hck, k4⟩ := an2 hck
  obtain ⟨hck, k3⟩ := an2 hck
  obtain ⟨k1, k2⟩ := an2 hck
  unfold cB at k2
  obtain ⟨k2, c3⟩ := an2 k2
  obtain ⟨c1, c2⟩ := an2 k2
  have hy1 : y < NMETH := ble_le c1
  have hy2 : y ≠ LAWM := fun q => by rw [q] at c2; simp at c2
  obtain ⟨m1, m2, m3, m4, m5, m6, m7, m8⟩ := m_ok hT hy1 hy2
  have k4 := dec_e k4
  unfold selB at k7
  obtain ⟨k7, hh⟩ := an2 k7
  have hh := dec_e hh
  have hsel := TS_in (dec_e (an2 k7).1) (an2 k7).2
  have hci : ci < 12 := ble_le k5
  unfold exW at h
  split at h
  · rename_i o as hrev
    obtain ⟨q1, h⟩ := chk_e h
    obtain ⟨q1, q0⟩ := an2 q1
    obtain ⟨q2, h⟩ := chk_e h
    obtain ⟨q3, h⟩ := chk_e h
    obtain ⟨hd1, hw⟩ := h
    have hlen : as.length = k - 1 := by
      have e1 := congrArg List.length hrev
      simp only [List.length_reverse, List.length_take, List.length_cons] at e1
      have := ble_le q0
      omega
    have hst : st = as.reverse ++ .inr (.inr (.inl o)) :: st.drop k := by
      have e1 : st.take k = as.reverse ++ [.inr (.inr (.inl o))] := by
        rw [← List.reverse_reverse (st.take k), hrev, List.reverse_cons]
      calc st = st.take k ++ st.drop k := (List.take_append_drop k st).symm
        _ = _ := by rw [e1, List.append_assoc]; rfl
    obtain ⟨t1, t2⟩ := take_rg (k := k) hS.2.2.1
    rw [hrev] at t1
    obtain ⟨q3, q9⟩ := an2 q3
    unfold lq at q3
    obtain ⟨q3, q4⟩ := an2 q3
    have hct := hI (d - 1) y _ M _ hy1 hy2 (ble_le q9) hw
    have hcw := gd_cw hh
    have hlk := wB_in k6
    rw [hcw] at m1
    have m4' : Cond.initialized (clC ci) ∈ TS := by rw [← k4]; exact m4
    have hsel : Cond.selects (clC ci) (yn y) (yn y) ∈ TS := by rw [← k4]; exact hsel
    have hCL := hT.2.2.1 ci hci
    have hRa : d - 1 + 31 ≤ R.frames := by omega
    have hRb : 23 + mxl y + (40 * (d - 1) + 1200) ≤ R.locals := room_l2 hd1 hRl m8
    have run := w_virt (nA := 0) (e := e) (below := below) (meth := meth) (idx := idx) (own := (yn j).cls) (C := clC ci) (F := clF ci) (N := clN ci) (r := st.drop k) hx0 hb hml hd (EV_ad hE hx) hS hct hh hown hts (EV_ad hE hx).2.1 t1 q1 q2 hCL.1
      (gin fun w hw9 => by
        simp only [wsV, List.mem_append, List.mem_cons, List.not_mem_nil, or_false] at hw9
        rcases hw9 with (rfl | rfl | rfl | rfl) | rfl
        · exact ⟨hlk, TS_gw hlk⟩
        · exact ⟨m3 (not_e k3), TS_gw (m3 (not_e k3))⟩
        · exact ⟨hsel, TS_gw hsel⟩
        · exact ⟨m4', TS_gw m4'⟩
        · exact ⟨m1, TS_gw m1⟩)
      ⟨k4, m6, m7, by rw [hlen]; exact dec_e c3⟩ ⟨hRa, hRb⟩ ⟨by rw [hRc]; exact ble_le q3, by rw [hRs]; exact ble_le q4⟩
    have := b_after hT hB hC hF hok hx hS t2 ⟨ble_le q3, ble_le q4⟩ run
    rw [hst, List.map_append, List.map_cons]
    exact this
  · exact h.elim
end RX
