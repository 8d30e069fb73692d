/-! ===== the induction ===== -/
section RZ
variable {l : Launch} {D : va_G} {T : T4} {b0 L : Nat} {xs : Nat → Int32} {adV : Nat → Nat}
theorem va_ldcwS {p : Program} {e : Env} {R : Room} {s : State} {m : MethodId} {args : Array Value} {below : List Frame} {meth : Method} {c : Code} {H : Heap} {locs : List Loc} {cells slots : Nat} {Q : State → Prop} {cc : ByteArray} {pc : Nat} {ls : Array Slot} {rest : List Value} (hexec : p.tables.exec = Jvm.exec) (hb : c.code = cc) {own tx : String} {index q : Nat} (hown : s.vm.findClass own = some m.cls) (hZ : vk_R own index tx q s) (hdg : decode cc pc = .ok (.ldc_w index, 3))
    (k : W p l e R s m args below meth c H locs cells slots Q (F0 m (pc + 3) ls (.ref q :: rest))) : W p l e R s m args below meth c H locs cells slots Q (F0 m pc ls rest) := by
  intro T hT X
  obtain ⟨t, a1, b1⟩ := k T hT X
  exact ⟨t, X.ldcStringW hexec hown (text := tx) (a := q) hZ.1 hZ.2 (g := F0 m pc ls rest) rfl (by rw [hb]; exact hdg) t a1, b1⟩
theorem r_ldcwS {p : Program} {e : Env} {R : Room} {s : State} {m : MethodId} {args : Array Value} {below : List Frame} {meth : Method} {c : Code} {H : Heap} {locs : List Loc} {Q : State → Prop} {n idx : Nat} {ad : Nat → Nat} {ls st : List Vl} {M : Mm} {LS : Array Slot} {pc : Nat} {cs bd : Nat × Nat} {cc : ByteArray} {kn : List Vl → List Vl → Mm → Nat × Nat → Prop} {own : String} {a : Nat} {tx : String} (hx : p.tables.exec = Jvm.exec) (hb : c.code = cc) (hd : decode cc pc = .ok (.ldc_w idx, 3)) (hS : SP D T b0 L xs n s ad ls st M LS H locs) (hcs : cs.1 ≤ bd.1 ∧ cs.2 ≤ bd.2) (h : kn ls (.inr (.inr (.inl a)) :: st) M cs) (K : KN p l e R s m args below meth c Q D T b0 L xs n ad M (pc + 3) bd kn)
    (hown : s.vm.findClass own = some m.cls) (hZ : vk_R own idx tx (ad a) s) (ha : 1000000 ≤ a) : W p l e R s m args below meth c H locs cs.1 cs.2 Q (F0 m pc LS (st.map (cf ad))) := by
  refine va_ldcwS hx hb hown hZ hd ?_
  rw [← rf_1 (ad := ad) (o := a) (by omega)]
  exact KN_t K hS hcs h (fa2 (Or.inr ha) hS.2.2.1)
theorem swL_at {x : Int} {k : Nat → Prop} {dflt : Nat} : ∀ (ps : List (Int × Int)) (ts : List Nat), ps.length = ts.length → swL x k dflt ps ts → (∃ (i t : Nat) (q : Int × Int), ts[i]? = some t ∧ ps[i]? = some q ∧ x = q.1 ∧ (∀ i', i' < i → ∀ q', ps[i']? = some q' → x ≠ q'.1) ∧ k t) ∨ ((∀ q ∈ ps, x ≠ q.1) ∧ k dflt) := by
  intro ps
  induction ps with
  | nil =>
    intro ts hl h
    unfold swL at h
    exact Or.inr ⟨fun q hq => (nomatch hq), h⟩
  | cons q ps ih =>
    intro ts hl h
    obtain ⟨a, b⟩ := q
    cases ts with
    | nil => simp at hl
    | cons t ts =>
      unfold swL at h
      by_cases hx : x = a
      · exact Or.inl ⟨0, t, (a, b), rfl, rfl, hx, fun i' hi' => by omega, cnd_t h hx⟩
      · rcases ih ts (by simpa using hl) (cnd_f h hx) with ⟨i, t', q', h1, h2, h3, h4, h5⟩ | ⟨h1, h2⟩
        · refine Or.inl ⟨i + 1, t', q', by simpa using h1, by simpa using h2, h3, fun i' hi' q'' hq => ?_, h5⟩
          cases i' with
          | zero =>
            simp at hq
            rw [← hq]
            exact hx
          | succ i' => exact h4 i' (by omega) q'' (by simpa using hq)
        · exact Or.inr ⟨fun q' hq => by
            rcases List.mem_cons.mp hq with h | h
            · rw [h]; exact hx
            · exact h1 q' h, h2⟩
theorem off_at {x dflt : Int} : ∀ (ps : List (Int × Int)), (∀ q ∈ ps, x ≠ q.1) → Op.lookupswitch.offset ps dflt x = dflt := by
  intro ps
  induction ps with
  | nil => intro _; rfl
  | cons q ps ih =>
    intro h
    obtain ⟨a, b⟩ := q
    rw [Op.lookupswitch.offset_cons, if_neg (fun e => h (a, b) List.mem_cons_self e.symm)]
    exact ih (fun q' hq => h q' (List.mem_cons_of_mem _ hq))
theorem off_in {x dflt : Int} : ∀ (ps : List (Int × Int)) (i : Nat) (q : Int × Int), ps[i]? = some q → x = q.1 → (∀ i', i' < i → ∀ q', ps[i']? = some q' → x ≠ q'.1) → Op.lookupswitch.offset ps dflt x = q.2 := by
  intro ps
  induction ps with
  | nil => intro i q h; simp at h
  | cons p ps ih =>
    intro i q h hx hn
    obtain ⟨a, b⟩ := p
    rw [Op.lookupswitch.offset_cons]
    cases i with
    | zero =>
      simp at h
      subst h
      rw [if_pos hx.symm]
    | succ i =>
      rw [if_neg (fun e => hn 0 (by omega) (a, b) rfl e.symm)]
      exact ih i q (by simpa using h) hx (fun i' hi' q' hq' => hn (i' + 1) (by omega) q' (by simpa using hq'))

theorem iv_a {aux : List Nat} {P : Nat → Bool} {P2 : Nat → Nat → Bool} (h : (match aux with | [2, a] => P a | [1, k, o] => P2 k o | _ => false) = true) : (∃ a, aux = [2, a] ∧ P a = true) ∨ ∃ k o, aux = [1, k, o] ∧ P2 k o = true := by
  split at h
  · exact Or.inl ⟨_, rfl, h⟩
  · exact Or.inr ⟨_, _, rfl, h⟩
  · cases h
theorem iv_b {aux : List Nat} {P2 : Nat → Nat → Bool} (h : (match aux with | [1, k, o] => P2 k o | _ => false) = true) : ∃ k o, aux = [1, k, o] ∧ P2 k o = true := by
  split at h
  · exact ⟨_, _, rfl, h⟩
  · cases h
theorem iv_c {aux : List Nat} {P2 : Nat → Nat → Bool} (h : (match aux with | [k, o] => P2 k o | _ => false) = true) : ∃ k o, aux = [k, o] ∧ P2 k o = true := by
  split at h
  · exact ⟨_, _, rfl, h⟩
  · cases h
theorem iv_d {aux : List Nat} {P : Nat → Nat → Nat → Nat → Nat → Bool} (h : (match aux with | [ci, i, t, _, k, o] => P ci i t k o | _ => false) = true) : ∃ ci i t z k o, aux = [ci, i, t, z, k, o] ∧ P ci i t k o = true := by
  split at h
  · exact ⟨_, _, _, _, _, _, rfl, h⟩
  · cases h
theorem iv_e {aux : List Nat} (h : (match aux with | [6] => true | [1] => true | _ => false) = true) : aux = [6] ∨ aux = [1] := by
  split at h
  · exact Or.inl rfl
  · exact Or.inr rfl
  · cases h
theorem iv_f {aux : List Nat} (h : (match aux with | [6] => true | [1] => true | [2] => true | _ => false) = true) : aux = [6] ∨ aux = [1] ∨ aux = [2] := by
  split at h
  · exact Or.inl rfl
  · exact Or.inr (Or.inl rfl)
  · exact Or.inr (Or.inr rfl)
  · cases h
theorem iv_g {a : ArrayType} {aux : List Nat} (h : (match a, aux with | .int, [1] => true | .long, [2] => true | .boolean, [3] => true | _, _ => false) = true) : (a = .int ∧ aux = [1]) ∨ (a = .long ∧ aux = [2]) ∨ (a = .boolean ∧ aux = [3]) := by
  split at h
  · exact Or.inl ⟨rfl, rfl⟩
  · exact Or.inr (Or.inl ⟨rfl, rfl⟩)
  · exact Or.inr (Or.inr ⟨rfl, rfl⟩)
  · cases h
theorem iv_h {aux : List Nat} {P2 : Nat → Nat → Bool} (h : (match aux with | [4, k, o] => P2 k o | _ => false) = true) : ∃ k o, aux = [4, k, o] ∧ P2 k o = true := by
  split at h
  · exact ⟨_, _, rfl, h⟩
  · cases h
theorem iv_i {aux : List Nat} {P : Nat → Nat → Nat → Nat → Bool} (h : (match aux with | [0, ci, n, k, o] => P ci n k o | _ => false) = true) : ∃ ci n k o, aux = [0, ci, n, k, o] ∧ P ci n k o = true := by
  split at h
  · exact ⟨_, _, _, _, rfl, h⟩
  · cases h
theorem iv_j {aux : List Nat} {P : Nat → Nat → Nat → Nat → Nat → Bool} {P5 P6 : Nat → Nat → Bool} (h : (match aux with | [0, y, n, ci, k, o] => P y n ci k o | [5, k, o] => P5 k o | [6, k, o] => P6 k o | _ => false) = true) : (∃ y n ci k o, aux = [0, y, n, ci, k, o] ∧ P y n ci k o = true) ∨ (∃ k o, aux = [5, k, o] ∧ P5 k o = true) ∨ ∃ k o, aux = [6, k, o] ∧ P6 k o = true := by
  split at h
  · exact Or.inl ⟨_, _, _, _, _, rfl, h⟩
  · exact Or.inr (Or.inl ⟨_, _, rfl, h⟩)
  · exact Or.inr (Or.inr ⟨_, _, rfl, h⟩)
  · cases h
theorem mx_1 : Cond.static Lib.Math.max.name ∈ TS := (TS_in (k := 7) (o := 40) (by decide +kernel) (by decide +kernel))
theorem mx_2 : Cond.code Lib.Math.max.name Lib.Math.max.code 2 (some .int) ∈ TS := (TS_in (k := 7) (o := 41) (by decide +kernel) (by decide +kernel))
theorem mn_1 : Cond.static Lib.Math.min.name ∈ TS := (TS_in (k := 3) (o := 172) (by decide +kernel) (by decide +kernel))
theorem mn_2 : Cond.code Lib.Math.min.name Lib.Math.min.code 2 (some .int) ∈ TS := (TS_in (k := 3) (o := 173) (by decide +kernel) (by decide +kernel))
theorem mx_3 : Cond.initialized "java/lang/Math" ∈ TS := (TS_in (k := 1) (o := 18) (by decide +kernel) (by decide +kernel))
theorem iv_k {aux : List Nat} {P : Nat → Nat → Nat → Nat → Bool} {P7 : Nat → Nat → Nat → Bool} {P8 P9 : Nat → Nat → Bool} (h : (match aux with | [1, y, n, _, k, o] => P y n k o | [8, k, o] => P8 k o | [9, k, o] => P9 k o | [7, t, k, o] => P7 t k o | _ => false) = true) : (∃ y n z k o, aux = [1, y, n, z, k, o] ∧ P y n k o = true) ∨ (∃ k o, aux = [8, k, o] ∧ P8 k o = true) ∨ (∃ k o, aux = [9, k, o] ∧ P9 k o = true) ∨ ∃ t k o, aux = [7, t, k, o] ∧ P7 t k o = true := by
  split at h
  · exact Or.inl ⟨_, _, _, _, _, rfl, h⟩
  · exact Or.inr (Or.inl ⟨_, _, rfl, h⟩)
  · exact Or.inr (Or.inr (Or.inl ⟨_, _, rfl, h⟩))
  · exact Or.inr (Or.inr (Or.inr ⟨_, _, _, rfl, h⟩))
  · cases h
theorem iv_l {aux : List Nat} {P P3 : Nat → Nat → Nat → Nat → Nat → Bool} {P4 : Nat → Nat → Bool} (h : (match aux with | [2, y, n, ci, k, o] => P y n ci k o | [3, y, n, ci, k, o] => P3 y n ci k o | [4, k, o] => P4 k o | _ => false) = true) : (∃ y n ci k o, aux = [2, y, n, ci, k, o] ∧ P y n ci k o = true) ∨ (∃ y n ci k o, aux = [3, y, n, ci, k, o] ∧ P3 y n ci k o = true) ∨ ∃ k o, aux = [4, k, o] ∧ P4 k o = true := by
  split at h
  · exact Or.inl ⟨_, _, _, _, _, rfl, h⟩
  · exact Or.inr (Or.inl ⟨_, _, _, _, _, rfl, h⟩)
  · exact Or.inr (Or.inr ⟨_, _, rfl, h⟩)
  · cases h
theorem iv_m {aux : List Nat} {b1 b2 : Bool} (h : (match aux with | [1] => b1 | [2] => b2 | _ => false) = true) : (aux = [1] ∧ b1 = true) ∨ (aux = [2] ∧ b2 = true) := by
  split at h
  · exact Or.inl ⟨rfl, h⟩
  · exact Or.inr ⟨rfl, h⟩
  · cases h
theorem st_i {st : List Vl} {P : Int → Prop} (h : (match st with | [.inl v] => P v | _ => False)) : ∃ v, st = [.inl v] ∧ P v := by
  split at h
  · exact ⟨_, rfl, h⟩
  · exact h.elim
theorem st_l {st : List Vl} {P : Int → Prop} (h : (match st with | [.inr (.inl v)] => P v | _ => False)) : ∃ v, st = [.inr (.inl v)] ∧ P v := by
  split at h
  · exact ⟨_, rfl, h⟩
  · exact h.elim
theorem st_v {st : List Vl} {P : Prop} (h : (match st with | [] => P | _ => False)) : st = [] ∧ P := by
  split at h
  · exact ⟨rfl, h⟩
  · exact h.elim
theorem st_1 {st : List Vl} {P : Int → List Vl → Prop} (h : p1I st P) : ∃ a r, st = .inl a :: r ∧ P a r := by
  unfold p1I at h
  split at h
  · exact ⟨_, _, rfl, h⟩
  · exact h.elim

set_option maxHeartbeats 4000000 in
theorem body_s (hT : TOK) (h5 : S5 l D T b0 L xs adV) (h6 : S6 l D T b0 L xs adV) {f : Nat} (hB : BODY l D T b0 L xs adV f) (hI : ICT l D T b0 L xs adV f) : BODY l D T b0 L xs adV (f + 1) := by
  intro p e R s m args below meth c Q d j ad0 M0 Q' hC hF pc ops ls st M cs ad LS H locs h hok hx hcs hS
  obtain ⟨hx0, hb, hml, hown, hts, hE, hlock, hret, hinit, hexc, hRc, hRs, hRf, hRl, hj⟩ := id hC
  have hRl9 : 1200 ≤ R.locals := Nat.le_trans (Nat.le_add_left _ _) hRl
  have hEa := EV_ad hE hx
  have hK := hEa.2.1
  cases ops with
  | nil => exact h.elim
  | cons op ops =>
  have KK : ∀ (pc' : Nat), okL j pc' ops = true → KN p l e R s m args below meth c Q D T b0 L xs (mxl j) ad M pc' (mcOf j) (fun ls st M cs => wp f d j pc' ops ls st M cs Q') := fun pc' ho ad' ls' st' M' cs' LS' H' locs' e1 h1 h2 h3 =>
    hB p e R s m args below meth c Q d j ad0 M0 Q' hC hF pc' ops ls' st' M' cs' ad' LS' H' locs' h1 ho (EX_tr hx e1) h3 h2
  have JJ : KJ p l e R s m args below meth c Q D T b0 L xs (mxl j) ad ls M LS H locs cs (fun t st => wp f d j t (cod j t).2 (mk (cod j t).1 ls) st M cs Q') := fun t st' h1 h2 =>
    hB p e R s m args below meth c Q d j ad0 M0 Q' hC hF t (cod j t).2 (mk (cod j t).1 ls) st' M cs ad LS H locs h1 (hT.1 j t hj) hx hcs
      ⟨lv_mem h2.1 (lvl_mk _ _), fun v hv => by
        rcases mk_mem _ _ v hv with h | h
        · rw [h]; trivial
        · exact h2.2.1 v h, h2.2.2⟩
  obtain ⟨ins, len, aux, cst⟩ := op
  unfold wp ex at h
  cases ins

  case iadd =>
    obtain ⟨h1, h2⟩ := an2 hok
    obtain ⟨g1, g2⟩ := an2 h1
    have g1 := dec_e g1
    have g2 : len = 1 := beqE g2
    subst g2
    exact r_iadd hx0 hb g1 hS hcs h (KK _ h2)
  case isub =>
    obtain ⟨h1, h2⟩ := an2 hok
    obtain ⟨g1, g2⟩ := an2 h1
    have g1 := dec_e g1
    have g2 : len = 1 := beqE g2
    subst g2
    exact r_isub hx0 hb g1 hS hcs h (KK _ h2)
  case imul =>
    obtain ⟨h1, h2⟩ := an2 hok
    obtain ⟨g1, g2⟩ := an2 h1
    have g1 := dec_e g1
    have g2 : len = 1 := beqE g2
    subst g2
    exact r_imul hx0 hb g1 hS hcs h (KK _ h2)
  case idiv =>
    obtain ⟨h1, h2⟩ := an2 hok
    obtain ⟨g1, g2⟩ := an2 h1
    have g1 := dec_e g1
    have g2 : len = 1 := beqE g2
    subst g2
    exact r_idiv hx0 hb g1 hS hcs h (KK _ h2)
  case irem =>
    obtain ⟨h1, h2⟩ := an2 hok
    obtain ⟨g1, g2⟩ := an2 h1
    have g1 := dec_e g1
    have g2 : len = 1 := beqE g2
    subst g2
    exact r_irem hx0 hb g1 hS hcs h (KK _ h2)
  case iand =>
    obtain ⟨h1, h2⟩ := an2 hok
    obtain ⟨g1, g2⟩ := an2 h1
    have g1 := dec_e g1
    have g2 : len = 1 := beqE g2
    subst g2
    exact r_iand hx0 hb g1 hS hcs h (KK _ h2)
  case ior =>
    obtain ⟨h1, h2⟩ := an2 hok
    obtain ⟨g1, g2⟩ := an2 h1
    have g1 := dec_e g1
    have g2 : len = 1 := beqE g2
    subst g2
    exact r_ior hx0 hb g1 hS hcs h (KK _ h2)
  case ishl =>
    obtain ⟨h1, h2⟩ := an2 hok
    obtain ⟨g1, g2⟩ := an2 h1
    have g1 := dec_e g1
    have g2 : len = 1 := beqE g2
    subst g2
    exact r_ishl hx0 hb g1 hS hcs h (KK _ h2)
  case ishr =>
    obtain ⟨h1, h2⟩ := an2 hok
    obtain ⟨g1, g2⟩ := an2 h1
    have g1 := dec_e g1
    have g2 : len = 1 := beqE g2
    subst g2
    exact r_ishr hx0 hb g1 hS hcs h (KK _ h2)
  case iushr =>
    obtain ⟨h1, h2⟩ := an2 hok
    obtain ⟨g1, g2⟩ := an2 h1
    have g1 := dec_e g1
    have g2 : len = 1 := beqE g2
    subst g2
    exact r_iushr hx0 hb g1 hS hcs h (KK _ h2)
  case ineg =>
    obtain ⟨h1, h2⟩ := an2 hok
    obtain ⟨g1, g2⟩ := an2 h1
    have g1 := dec_e g1
    have g2 : len = 1 := beqE g2
    subst g2
    exact r_ineg hx0 hb g1 hS hcs h (KK _ h2)
  case ladd =>
    obtain ⟨h1, h2⟩ := an2 hok
    obtain ⟨g1, g2⟩ := an2 h1
    have g1 := dec_e g1
    have g2 : len = 1 := beqE g2
    subst g2
    exact r_ladd hx0 hb g1 hS hcs h (KK _ h2)
  case lsub =>
    obtain ⟨h1, h2⟩ := an2 hok
    obtain ⟨g1, g2⟩ := an2 h1
    have g1 := dec_e g1
    have g2 : len = 1 := beqE g2
    subst g2
    exact r_lsub hx0 hb g1 hS hcs h (KK _ h2)
  case lmul =>
    obtain ⟨h1, h2⟩ := an2 hok
    obtain ⟨g1, g2⟩ := an2 h1
    have g1 := dec_e g1
    have g2 : len = 1 := beqE g2
    subst g2
    exact r_lmul hx0 hb g1 hS hcs h (KK _ h2)
  case lcmp =>
    obtain ⟨h1, h2⟩ := an2 hok
    obtain ⟨g1, g2⟩ := an2 h1
    have g1 := dec_e g1
    have g2 : len = 1 := beqE g2
    subst g2
    exact r_lcmp hx0 hb g1 hS hcs h (KK _ h2)
  case lshr =>
    obtain ⟨h1, h2⟩ := an2 hok
    obtain ⟨g1, g2⟩ := an2 h1
    have g1 := dec_e g1
    have g2 : len = 1 := beqE g2
    subst g2
    exact r_lshr hx0 hb g1 hS hcs h (KK _ h2)
  case i2l =>
    obtain ⟨h1, h2⟩ := an2 hok
    obtain ⟨g1, g2⟩ := an2 h1
    have g1 := dec_e g1
    have g2 : len = 1 := beqE g2
    subst g2
    exact r_i2l hx0 hb g1 hS hcs h (KK _ h2)
  case dup =>
    obtain ⟨h1, h2⟩ := an2 hok
    obtain ⟨g1, g2⟩ := an2 h1
    have g1 := dec_e g1
    have g2 : len = 1 := beqE g2
    subst g2
    exact r_dup hx0 hb g1 hS hcs h (KK _ h2)
  case dup2 =>
    obtain ⟨h1, h2⟩ := an2 hok
    obtain ⟨g1, g2⟩ := an2 h1
    have g1 := dec_e g1
    have g2 : len = 1 := beqE g2
    subst g2
    exact r_dup2 hx0 hb g1 hS hcs h (KK _ h2)
  case pop =>
    obtain ⟨h1, h2⟩ := an2 hok
    obtain ⟨g1, g2⟩ := an2 h1
    have g1 := dec_e g1
    have g2 : len = 1 := beqE g2
    subst g2
    exact r_pop hx0 hb g1 hS hcs h (KK _ h2)
  case aconst_null =>
    obtain ⟨h1, h2⟩ := an2 hok
    obtain ⟨g1, g2⟩ := an2 h1
    have g1 := dec_e g1
    have g2 : len = 1 := beqE g2
    subst g2
    exact r_aconst_null hx0 hb g1 hS hcs h (KK _ h2)
  case iload_n i =>
    obtain ⟨h1, h2⟩ := an2 hok
    obtain ⟨g1, g2⟩ := an2 h1
    have g1 := dec_e g1
    have g2 : len = 1 := beqE g2
    subst g2
    exact r_iload_n hx0 hb g1 hS hcs h (KK _ h2)
  case lload_n i =>
    obtain ⟨h1, h2⟩ := an2 hok
    obtain ⟨g1, g2⟩ := an2 h1
    have g1 := dec_e g1
    have g2 : len = 1 := beqE g2
    subst g2
    exact r_lload_n hx0 hb g1 hS hcs h (KK _ h2)
  case aload_n i =>
    obtain ⟨h1, h2⟩ := an2 hok
    obtain ⟨g1, g2⟩ := an2 h1
    have g1 := dec_e g1
    have g2 : len = 1 := beqE g2
    subst g2
    exact r_aload_n hx0 hb g1 hS hcs h (KK _ h2)
  case iload i =>
    obtain ⟨h1, h2⟩ := an2 hok
    obtain ⟨g1, g2⟩ := an2 h1
    have g1 := dec_e g1
    have g2 : len = 2 := beqE g2
    subst g2
    exact r_iload hx0 hb g1 hS hcs h (KK _ h2)
  case lload i =>
    obtain ⟨h1, h2⟩ := an2 hok
    obtain ⟨g1, g2⟩ := an2 h1
    have g1 := dec_e g1
    have g2 : len = 2 := beqE g2
    subst g2
    exact r_lload hx0 hb g1 hS hcs h (KK _ h2)
  case aload i =>
    obtain ⟨h1, h2⟩ := an2 hok
    obtain ⟨g1, g2⟩ := an2 h1
    have g1 := dec_e g1
    have g2 : len = 2 := beqE g2
    subst g2
    exact r_aload hx0 hb g1 hS hcs h (KK _ h2)
  case baload =>
    obtain ⟨h1, h2⟩ := an2 hok
    obtain ⟨g1, g2⟩ := an2 h1
    have g1 := dec_e g1
    have g2 : len = 1 := beqE g2
    subst g2
    exact r_zald hx0 hb g1 hS hcs h (KK _ h2) hK
  case laload =>
    obtain ⟨h1, h2⟩ := an2 hok
    obtain ⟨g1, g2⟩ := an2 h1
    have g1 := dec_e g1
    have g2 : len = 1 := beqE g2
    subst g2
    exact r_lald hx0 hb g1 hS hcs h (KK _ h2) hK
  case aaload =>
    obtain ⟨h1, h2⟩ := an2 hok
    obtain ⟨g1, g2⟩ := an2 h1
    have g1 := dec_e g1
    have g2 : len = 1 := beqE g2
    subst g2
    exact r_aald hx0 hb g1 hS hcs h (KK _ h2) hK
  case iastore =>
    obtain ⟨h1, h2⟩ := an2 hok
    obtain ⟨g1, g2⟩ := an2 h1
    have g1 := dec_e g1
    have g2 : len = 1 := beqE g2
    subst g2
    exact r_iast hx0 hb g1 hS hcs h (KK _ h2) hK
  case bastore =>
    obtain ⟨h1, h2⟩ := an2 hok
    obtain ⟨g1, g2⟩ := an2 h1
    have g1 := dec_e g1
    have g2 : len = 1 := beqE g2
    subst g2
    exact r_zast hx0 hb g1 hS hcs h (KK _ h2) hK
  case lastore =>
    obtain ⟨h1, h2⟩ := an2 hok
    obtain ⟨g1, g2⟩ := an2 h1
    have g1 := dec_e g1
    have g2 : len = 1 := beqE g2
    subst g2
    exact r_last hx0 hb g1 hS hcs h (KK _ h2) hK
  case istore i =>
    obtain ⟨h1, h2⟩ := an2 hok
    obtain ⟨g1, g2⟩ := an2 h1
    obtain ⟨g2, g3⟩ := an2 g2
    have g1 := dec_e g1
    have g2 : len = 2 := beqE g2
    subst g2
    exact r_istore hx0 hb g1 hS hcs h (ble_le g3) (KK _ h2)
  case astore i =>
    obtain ⟨h1, h2⟩ := an2 hok
    obtain ⟨g1, g2⟩ := an2 h1
    obtain ⟨g2, g3⟩ := an2 g2
    have g1 := dec_e g1
    have g2 : len = 2 := beqE g2
    subst g2
    exact r_astore hx0 hb g1 hS hcs h (ble_le g3) (KK _ h2)
  case istore_n i =>
    obtain ⟨h1, h2⟩ := an2 hok
    obtain ⟨g1, g2⟩ := an2 h1
    obtain ⟨g2, g3⟩ := an2 g2
    have g1 := dec_e g1
    have g2 : len = 1 := beqE g2
    subst g2
    exact r_istore_n hx0 hb g1 hS hcs h (ble_le g3) (KK _ h2)
  case astore_n i =>
    obtain ⟨h1, h2⟩ := an2 hok
    obtain ⟨g1, g2⟩ := an2 h1
    obtain ⟨g2, g3⟩ := an2 g2
    have g1 := dec_e g1
    have g2 : len = 1 := beqE g2
    subst g2
    exact r_astore_n hx0 hb g1 hS hcs h (ble_le g3) (KK _ h2)
  case lstore i =>
    obtain ⟨h1, h2⟩ := an2 hok
    obtain ⟨g1, g2⟩ := an2 h1
    obtain ⟨g2, g3⟩ := an2 g2
    have g1 := dec_e g1
    have g2 : len = 2 := beqE g2
    subst g2
    exact r_lstore hx0 hb g1 hS hcs h (ble_le g3) (KK _ h2)
  case lstore_n i =>
    obtain ⟨h1, h2⟩ := an2 hok
    obtain ⟨g1, g2⟩ := an2 h1
    obtain ⟨g2, g3⟩ := an2 g2
    have g1 := dec_e g1
    have g2 : len = 1 := beqE g2
    subst g2
    exact r_lstore_n hx0 hb g1 hS hcs h (ble_le g3) (KK _ h2)
  case iconst i =>
    obtain ⟨h1, h2⟩ := an2 hok
    obtain ⟨g1, g2⟩ := an2 h1
    obtain ⟨g2, g4⟩ := an2 g2
    obtain ⟨g2, g3⟩ := an2 g2
    have g1 := dec_e g1
    have g2 : len = 1 := beqE g2
    subst g2
    exact r_iconst hx0 hb g1 hS hcs h (by rw [dec_e g3]) (rB_in g4) (KK _ h2)
  case bipush i =>
    obtain ⟨h1, h2⟩ := an2 hok
    obtain ⟨g1, g2⟩ := an2 h1
    obtain ⟨g2, g4⟩ := an2 g2
    obtain ⟨g2, g3⟩ := an2 g2
    have g1 := dec_e g1
    have g2 : len = 2 := beqE g2
    subst g2
    exact r_bipush hx0 hb g1 hS hcs h (dec_e g3) (rB_in g4) (KK _ h2)
  case sipush i =>
    obtain ⟨h1, h2⟩ := an2 hok
    obtain ⟨g1, g2⟩ := an2 h1
    obtain ⟨g2, g4⟩ := an2 g2
    obtain ⟨g2, g3⟩ := an2 g2
    have g1 := dec_e g1
    have g2 : len = 3 := beqE g2
    subst g2
    exact r_sipush hx0 hb g1 hS hcs h (dec_e g3) (rB_in g4) (KK _ h2)
  case lconst i =>
    obtain ⟨h1, h2⟩ := an2 hok
    obtain ⟨g1, g2⟩ := an2 h1
    have g1 := dec_e g1
    have g2 : len = 1 := beqE g2
    subst g2
    match i, g1, h with
    | 0, g1, h => exact r_lconst0 hx0 hb g1 hS hcs h (KK _ h2)
    | 1, g1, h => exact r_lconst1 hx0 hb g1 hS hcs h (KK _ h2)
  case iinc i z =>
    obtain ⟨h1, h2⟩ := an2 hok
    obtain ⟨g1, g2⟩ := an2 h1
    obtain ⟨g2, g4⟩ := an2 g2
    obtain ⟨g2, g3⟩ := an2 g2
    have g1 := dec_e g1
    have g2 : len = 3 := beqE g2
    subst g2
    have g4 := dec_e g4
    subst g4
    exact r_iinc hx0 hb g1 hS hcs h (ble_le g3) (KK _ h2)
  case goto off =>
    obtain ⟨h1, h2⟩ := an2 hok
    obtain ⟨g1, g2⟩ := an2 h1
    obtain ⟨g2, g3⟩ := an2 g2
    have g1 := dec_e g1
    have g2 : len = 3 := beqE g2
    subst g2
    exact r_goto hx0 hb g1 hS hcs (dec_e g3) h JJ
  case if_icmp cc off =>
    obtain ⟨h1, h2⟩ := an2 hok
    obtain ⟨g1, g2⟩ := an2 h1
    obtain ⟨g2, g3⟩ := an2 g2
    have g1 := dec_e g1
    have g2 : len = 3 := beqE g2
    subst g2
    have g3 := dec_e g3
    cases cc with
    | eq => exact r_icmp_eq hx0 hb g1 hS hcs g3 h JJ (KK _ h2)
    | ne => exact r_icmp_ne hx0 hb g1 hS hcs g3 h JJ (KK _ h2)
    | lt => exact r_icmp_lt hx0 hb g1 hS hcs g3 h JJ (KK _ h2)
    | ge => exact r_icmp_ge hx0 hb g1 hS hcs g3 h JJ (KK _ h2)
    | gt => exact r_icmp_gt hx0 hb g1 hS hcs g3 h JJ (KK _ h2)
    | le => exact r_icmp_le hx0 hb g1 hS hcs g3 h JJ (KK _ h2)
  case ifCond cc off =>
    obtain ⟨h1, h2⟩ := an2 hok
    obtain ⟨g1, g2⟩ := an2 h1
    obtain ⟨g2, g3⟩ := an2 g2
    have g1 := dec_e g1
    have g2 : len = 3 := beqE g2
    subst g2
    have g3 := dec_e g3
    cases cc with
    | eq => exact r_if_eq hx0 hb g1 hS hcs g3 h JJ (KK _ h2)
    | ne => exact r_if_ne hx0 hb g1 hS hcs g3 h JJ (KK _ h2)
    | lt => exact r_if_lt hx0 hb g1 hS hcs g3 h JJ (KK _ h2)
    | ge => exact r_if_ge hx0 hb g1 hS hcs g3 h JJ (KK _ h2)
    | gt => exact r_if_gt hx0 hb g1 hS hcs g3 h JJ (KK _ h2)
    | le => exact r_if_le hx0 hb g1 hS hcs g3 h JJ (KK _ h2)
  case tableswitch df lo hi offs =>
    obtain ⟨h1, h2⟩ := an2 hok
    obtain ⟨g1, g2⟩ := an2 h1
    obtain ⟨g2, g5⟩ := an2 g2
    obtain ⟨g3, g4⟩ := an2 g2
    have g1 := dec_e g1
    have g3 := dec_e g3
    have g4 := dec_e g4
    have g5 := dec_e g5
    refine r_tsw hx0 hb g1 hS h JJ g3 g4 fun i t ht => ?_
    have e1 : (aux.tail.map (fun t => Int.ofNat t))[i]? = some (t : Int) := by rw [List.getElem?_map, ht]; rfl
    rw [← g5, List.getElem?_map, Array.getElem?_toList] at e1
    cases ho : offs[i]? with
    | none => rw [ho] at e1; cases e1
    | some o =>
      rw [ho] at e1
      exact ⟨o, rfl, Option.some.inj e1⟩
  case lookupswitch df ps =>
    obtain ⟨h1, h2⟩ := an2 hok
    obtain ⟨g1, g2⟩ := an2 h1
    obtain ⟨g2, g6⟩ := an2 g2
    obtain ⟨g2, g5⟩ := an2 g2
    obtain ⟨g3, g4⟩ := an2 g2
    have g1 := dec_e g1
    have g3 := dec_e g3
    have g5 := dec_e g5
    obtain ⟨a, r, rfl, h⟩ := st_1 h
    · obtain ⟨v1, v2⟩ := fa1 hS.2.2.1
      have ea : (Int32.ofInt a).toInt = a := toInt_ofInt v1
      have hl : ps.toList.length = aux.tail.length := by
        have := congrArg List.length g5
        simpa using this
      rcases swL_at ps.toList aux.tail hl h with ⟨i, t, q, a1, a2, a3, a4, a5⟩ | ⟨a1, a2⟩
      · have e1 : (aux.tail.map (fun t => Int.ofNat t))[i]? = some (t : Int) := by rw [List.getElem?_map, a1]; rfl
        rw [← g5, List.getElem?_map, a2] at e1
        exact lv_lookup hx0 hb g1 g4 (by rw [ea]; exact off_in ps.toList i q a2 a3 a4) (Option.some.inj e1) (JJ t _ a5 (SP_fs hS v2))
      · exact lv_lookup hx0 hb g1 g4 (by rw [ea]; exact off_at ps.toList a1) g3 (JJ _ _ a2 (SP_fs hS v2))
  case ldc idx =>
    obtain ⟨h1, h2⟩ := an2 hok
    obtain ⟨g1, g2⟩ := an2 h1
    obtain ⟨g2, g3⟩ := an2 g2
    have g1 := dec_e g1
    have g2 : len = 2 := beqE g2
    subst g2
    rcases iv_a g3 with ⟨a, rfl, g3⟩ | ⟨k, o, rfl, g3⟩
    · unfold sB at g3
      obtain ⟨g3, s4⟩ := an2 g3
      obtain ⟨g3, s3⟩ := an2 g3
      obtain ⟨s1, s2⟩ := an2 g3
      have s1 := ble_le s1
      have s2 := ble_le s2
      have s3 := dec_e s3
      have s4 := beqE s4
      have hZ := hEa.2.2.2.2.2.2.1 (a - 2000000) (by omega)
      rw [s3, s4, show 2000000 + (a - 2000000) = a by omega] at hZ
      exact r_ldcS hx0 hb g1 hS hcs (chk_e h).2 (KK _ h2) hown hZ (by omega)
    · obtain ⟨g3, g4⟩ := an2 g3
      exact r_ldcI hx0 hb g1 hS hcs h (KK _ h2) hown (hts _ (wB_in g3)) (rB_in g4)
  case ldc_w idx =>
    obtain ⟨h1, h2⟩ := an2 hok
    obtain ⟨g1, g2⟩ := an2 h1
    obtain ⟨g2, g3⟩ := an2 g2
    have g1 := dec_e g1
    have g2 : len = 3 := beqE g2
    subst g2
    rcases iv_a g3 with ⟨a, rfl, g3⟩ | ⟨k, o, rfl, g3⟩
    · unfold sB at g3
      obtain ⟨g3, s4⟩ := an2 g3
      obtain ⟨g3, s3⟩ := an2 g3
      obtain ⟨s1, s2⟩ := an2 g3
      have s1 := ble_le s1
      have s2 := ble_le s2
      have s3 := dec_e s3
      have s4 := beqE s4
      have hZ := hEa.2.2.2.2.2.2.1 (a - 2000000) (by omega)
      rw [s3, s4, show 2000000 + (a - 2000000) = a by omega] at hZ
      exact r_ldcwS hx0 hb g1 hS hcs (chk_e h).2 (KK _ h2) hown hZ (by omega)
    · obtain ⟨g3, g4⟩ := an2 g3
      exact r_ldcwI hx0 hb g1 hS hcs h (KK _ h2) hown (hts _ (wB_in g3)) (rB_in g4)
  case ldc2_w idx =>
    obtain ⟨h1, h2⟩ := an2 hok
    obtain ⟨g1, g2⟩ := an2 h1
    obtain ⟨g2, g3⟩ := an2 g2
    have g1 := dec_e g1
    have g2 : len = 3 := beqE g2
    subst g2
    obtain ⟨k, o, rfl, g3⟩ := iv_c g3
    exact r_ldc2 hx0 hb g1 hS hcs h (KK _ h2) hown (hts _ (wB_in g3))
  case getfield idx =>
    obtain ⟨h1, h2⟩ := an2 hok
    obtain ⟨g1, g2⟩ := an2 h1
    obtain ⟨g2, g3⟩ := an2 g2
    have g1 := dec_e g1
    have g2 : len = 3 := beqE g2
    subst g2
    obtain ⟨ci, i, t, z, k, o, rfl, g3⟩ := iv_d g3
    · unfold fB at g3
      obtain ⟨g3, f4⟩ := an2 g3
      obtain ⟨g3, f3⟩ := an2 g3
      obtain ⟨f1, f2⟩ := an2 g3
      exact r_get hx0 hb g1 hS hcs rfl h (KK _ h2) hts (hT.2.2.1 _ (ble_le f1)) (ble_le f2) (beqE f3) hown hK (hts _ (wB_in f4))
  case putfield idx =>
    obtain ⟨h1, h2⟩ := an2 hok
    obtain ⟨g1, g2⟩ := an2 h1
    obtain ⟨g2, g3⟩ := an2 g2
    have g1 := dec_e g1
    have g2 : len = 3 := beqE g2
    subst g2
    obtain ⟨ci, i, t, z, k, o, rfl, g3⟩ := iv_d (P := fun ci i t k o => fB j idx ci i t k o && finB j ci i) g3
    · obtain ⟨g3, g4⟩ := an2 g3
      unfold fB at g3
      obtain ⟨g3, f4⟩ := an2 g3
      obtain ⟨g3, f3⟩ := an2 g3
      obtain ⟨f1, f2⟩ := an2 g3
      have f3 := beqE f3
      have ht9 := (hT.2.2.2.1 _ _ (ble_le f1) (ble_le f2)).2
      rw [f3] at ht9
      refine r_put hx0 hb g1 hS hcs rfl h (KK _ h2) hts (hT.2.2.1 _ (ble_le f1)) (ble_le f2) f3 ht9 hown hK (hts _ (wB_in f4)) ?_
      unfold finB at g4
      rw [Bool.or_eq_true] at g4
      rcases g4 with g4 | g4
      · exact Or.inl (not_e g4)
      · obtain ⟨g4, g5⟩ := an2 g4
        by_cases hf : (clF ci i).2.2.2 = true
        · exact Or.inr ⟨hf, hinit (dec_e g4), dec_e g5⟩
        · exact Or.inl (by simpa using hf)
  case iaload =>
    obtain ⟨h1, h2⟩ := an2 hok
    obtain ⟨g1, g2⟩ := an2 h1
    obtain ⟨g2, g3⟩ := an2 g2
    have g1 := dec_e g1
    have g2 : len = 1 := beqE g2
    subst g2
    rcases iv_e g3 with rfl | rfl
    · exact r_sld hx0 hb g1 hS hcs h (KK _ h2) hEa.2.2.1 (Nat.lt_of_lt_of_le hEa.2.2.2.1 hEa.2.2.2.2.1) hEa.2.2.2.1
    · exact r_iald hx0 hb g1 hS hcs h (KK _ h2) hK
  case aastore =>
    obtain ⟨h1, h2⟩ := an2 hok
    obtain ⟨g1, g2⟩ := an2 h1
    obtain ⟨g2, g3⟩ := an2 g2
    have g1 := dec_e g1
    have g2 : len = 1 := beqE g2
    subst g2
    exact r_aast (beqE g3) hx0 hb g1 hS hcs h (KK _ h2) hK
  case arraylength =>
    obtain ⟨h1, h2⟩ := an2 hok
    obtain ⟨g1, g2⟩ := an2 h1
    obtain ⟨g2, g3⟩ := an2 g2
    have g1 := dec_e g1
    have g2 : len = 1 := beqE g2
    subst g2
    rcases iv_f g3 with rfl | rfl | rfl
    · exact r_slen hx0 hb g1 hS hcs h (KK _ h2) hEa.2.2.1 (Nat.lt_of_lt_of_le hEa.2.2.2.1 hEa.2.2.2.2.1) hEa.2.2.2.1 hEa.2.2.2.2.2.1
    · exact r_alen hx0 hb g1 hS hcs (Or.inl rfl) h (KK _ h2) hK
    · exact r_alen hx0 hb g1 hS hcs (Or.inr rfl) h (KK _ h2) hK
  case newarray a =>
    obtain ⟨h1, h2⟩ := an2 hok
    obtain ⟨g1, g2⟩ := an2 h1
    obtain ⟨g2, g3⟩ := an2 g2
    have g1 := dec_e g1
    have g2 : len = 2 := beqE g2
    subst g2
    rcases iv_g g3 with ⟨rfl, rfl⟩ | ⟨rfl, rfl⟩ | ⟨rfl, rfl⟩
    · exact r_newI hx0 hb g1 hS h (KK _ h2) ⟨hRc, hRs⟩ hEa.2.2.2.2.1 hK (hts _ hT.2.2.2.2.2.2.2.2.2.2.2.1)
    · exact r_newJ hx0 hb g1 hS h (KK _ h2) ⟨hRc, hRs⟩ hEa.2.2.2.2.1 hK (hts _ hT.2.2.2.2.2.2.2.2.2.2.2.2.1)
    · exact r_newZ hx0 hb g1 hS h (KK _ h2) ⟨hRc, hRs⟩ hEa.2.2.2.2.1 hK (hts _ hT.2.2.2.2.2.2.2.2.2.2.2.2.2.1)
  case anewarray idx =>
    obtain ⟨h1, h2⟩ := an2 hok
    obtain ⟨g1, g2⟩ := an2 h1
    obtain ⟨g2, g3⟩ := an2 g2
    have g1 := dec_e g1
    have g2 : len = 3 := beqE g2
    subst g2
    obtain ⟨k, o, rfl, g3⟩ := iv_h g3
    exact r_newP hx0 hb g1 hS h (KK _ h2) ⟨hRc, hRs⟩ hEa.2.2.2.2.1 hK hown (hts _ (wB_in g3)) hEa.2.2.2.2.2.2.2.2.1
  case new idx =>
    by_cases h9 : ∃ z, aux = 9 :: z
    · obtain ⟨z, rfl⟩ := h9
      have hok : okT j pc (.new idx, len, 9 :: z, cst) = true := hok
      cases z with
      | nil => unfold okT at hok; simp at hok
      | cons x z => 
        have h : chk (lq (cs.1 + 1) (mcOf j).1 (cs.2 + 6) (mcOf j).2) (chk (Nat.beq st.length 0) (Q' (.inr x) M)) := h
        obtain ⟨h1, h⟩ := chk_e h
        obtain ⟨h3, h⟩ := chk_e h
        have hst : st = [] := List.length_eq_zero_iff.mp (beqE h3)
        subst hst
        exact (hF pc ad ls M cs LS H locs hx hcs).2.2.2.1 (.new idx, len, 9 :: x :: z, cst) x z rfl hok hS (chk_of h1 h)
    · have hok : (okB j pc (.new idx, len, aux, cst) && okL j (pc + len) ops) = true := by
        have e : okL j pc ((.new idx, len, aux, cst) :: ops) = (okB j pc (.new idx, len, aux, cst) && okL j (pc + len) ops) := by
          match aux, h9 with
          | [], _ => rfl
          | 0 :: _, _ => rfl
          | 1 :: _, _ => rfl
          | 2 :: _, _ => rfl
          | 3 :: _, _ => rfl
          | 4 :: _, _ => rfl
          | 5 :: _, _ => rfl
          | 6 :: _, _ => rfl
          | 7 :: _, _ => rfl
          | 8 :: _, _ => rfl
          | 9 :: z, h9 => exact absurd ⟨z, rfl⟩ h9
          | (k + 10) :: _, _ => rfl
        rw [← e]; exact hok
      obtain ⟨h1, h2⟩ := an2 hok
      obtain ⟨g1, g3⟩ := an2 h1
      have g1 := dec_e g1
      obtain ⟨ci, n9, k, o, rfl, g3⟩ := iv_i (P := fun ci n k o => Nat.beq len 3 && Nat.ble (ci + 1) 12 && Nat.beq n (clN ci) && wB k o (.classLink (yn j).cls idx (clC ci))) g3
      · obtain ⟨g3, n4⟩ := an2 g3
        obtain ⟨g3, n3⟩ := an2 g3
        obtain ⟨n1, n2⟩ := an2 g3
        have n1 : len = 3 := beqE n1
        subst n1
        have n3 := beqE n3
        subst n3
        have hci := ble_le n2
        exact r_new hx0 hb g1 hS h (KK _ h2) ⟨hRc, hRs⟩ hEa.2.2.2.2.1 hK hts (hT.2.2.1 _ hci) hown hci (hts _ (wB_in n4)) (hts _ (hT.2.2.2.2.1 _ hci).1) (hts _ (hT.2.2.2.2.1 _ hci).2) (fun i hi => (hT.2.2.2.1 _ i hci hi).2) (fun i hi => (hT.2.2.2.1 _ i hci hi).1)
  case invokevirtual idx =>
    obtain ⟨h1, h2⟩ := an2 hok
    obtain ⟨g1, g2⟩ := an2 h1
    obtain ⟨g2, g3⟩ := an2 g2
    have g1 := dec_e g1
    have g2 : len = 3 := beqE g2
    subst g2
    rcases iv_j (P := fun y n ci k o => Nat.ble 1 n && cB j y (n - 1) && !stY y && decide ((yn y).cls = clC ci) && Nat.ble (ci + 1) 12 && wB k o (.methodLink (yn j).cls idx (yn y)) && selB y) (P5 := fun k o => wB k o (.methodLink (yn j).cls idx yJ0_length_8abf5)) (P6 := fun k o => wB k o (.methodLink (yn j).cls idx yJ0_charAt_5068e)) g3 with ⟨y, k, ci, tk, to, rfl, g3⟩ | ⟨tk, to, rfl, g3⟩ | ⟨tk, to, rfl, g3⟩
    · exact b_virt hT hB hI hC hF h2 g1 hx hS g3 h
    · exact b_s5 hT h5 hC g1 hx hS hcs g3 (KK _ h2) h
    · exact b_s6 hT h6 hC g1 hx hS hcs g3 (KK _ h2) h
  case invokestatic idx =>
    obtain ⟨h1, h2⟩ := an2 hok
    obtain ⟨g1, g2⟩ := an2 h1
    obtain ⟨g2, g3⟩ := an2 g2
    have g1 := dec_e g1
    have g2 : len = 3 := beqE g2
    subst g2
    rcases iv_k (P := fun y n k o => cB j y n && stY y && wB k o (.methodLink (yn j).cls idx (yn y))) (P7 := fun t k o => (Nat.beq t 1 || Nat.beq t 2) && wB k o (.methodLink (yn j).cls idx arraycopyName)) (P8 := fun k o => wB k o (.methodLink (yn j).cls idx Lib.Math.max.name)) (P9 := fun k o => wB k o (.methodLink (yn j).cls idx Lib.Math.min.name)) g3 with ⟨y, k, z, tk, to, rfl, g3⟩ | ⟨tk, to, rfl, g3⟩ | ⟨tk, to, rfl, g3⟩ | ⟨t, tk, to, rfl, g3⟩
    · exact b_stat hT hB hI hC hF h2 g1 hx hS g3 h
    · exact r_max (kn := fun ls st M cs => wp f d j (pc + 3) ops ls st M cs Q') hx0 hb hml g1 hS hcs h (KK _ h2) hown (hts _ (wB_in g3)) (hts _ mx_1) (hts _ mx_3) (hts _ mx_2) ⟨by omega, Nat.le_trans (by decide) hRl9⟩ ⟨by omega, by omega⟩
    · exact r_min (kn := fun ls st M cs => wp f d j (pc + 3) ops ls st M cs Q') hx0 hb hml g1 hS hcs h (KK _ h2) hown (hts _ (wB_in g3)) (hts _ mn_1) (hts _ mx_3) (hts _ mn_2) ⟨by omega, Nat.le_trans (by decide) hRl9⟩ ⟨by omega, by omega⟩
    · obtain ⟨g3, g4⟩ := an2 g3
      rw [Bool.or_eq_true] at g3
      have hn : 8 + (nativeFrameWords "java/lang/System" "arraycopy" 5 + 11) ≤ R.locals := Nat.le_trans (by decide +kernel) hRl9
      exact r_copy (kn := fun ls st M cs => wp f d j (pc + 3) ops ls st M cs Q') hx0 hb hml g1 hS hcs (g3.elim (fun q => Or.inl (beqE q)) (fun q => Or.inr (beqE q))) h (KK _ h2) hown hK (hts _ (wB_in g4)) (hts _ hT.2.2.2.2.2.2.2.2.1) (hts _ hT.2.2.2.2.2.2.2.2.2.1) (hts _ hT.2.2.2.2.2.2.2.2.2.2.1) ⟨by omega, hn⟩
  case invokespecial idx =>
    obtain ⟨h1, h2⟩ := an2 hok
    obtain ⟨g1, g2⟩ := an2 h1
    obtain ⟨g2, g3⟩ := an2 g2
    have g1 := dec_e g1
    have g2 : len = 3 := beqE g2
    subst g2
    rcases iv_l (P := fun y n ci k o => Nat.ble 1 n && cB j y (n - 1) && !stY y && decide (rtt y = none) && decide ((yn y).name = "<init>") && Nat.ble (ci + 1) 12 && wB k o (.methodLink (yn j).cls idx (yn y)) && decide (hht y = [])) (P3 := fun y n ci k o => Nat.ble 1 n && cB j y (n - 1) && !stY y && decide (rtt y = none) && decide ((yn y).name = "<init>") && Nat.ble (ci + 1) 12 && wB k o (.methodLinkNest (yn j).cls idx (yn y) "GlassLeaders") && decide (hht y = [])) (P4 := fun k o => wB k o (.methodLink (yn j).cls idx Lib.objectInit)) g3 with ⟨y, k, ci, tk, to, rfl, g3⟩ | ⟨y, k, ci, tk, to, rfl, g3⟩ | ⟨tk, to, rfl, g3⟩
    · obtain ⟨g3, g4⟩ := an2 g3
      exact b_spec false hT hB hI hC hF h2 g1 hx hS g3 (dec_e g4) h
    · obtain ⟨g3, g4⟩ := an2 g3
      exact b_spec true hT hB hI hC hF h2 g1 hx hS g3 (dec_e g4) h
    · exact r_obj (kn := fun ls st M cs => wp f d j (pc + 3) ops ls st M cs Q') hx0 hb hml g1 hS hcs h (KK _ h2) hown (hts _ (wB_in g3)) (hts _ hT.2.2.2.2.2.2.1) (hts _ hT.2.2.2.2.2.2.2.1) ⟨by omega, Nat.le_trans (by decide) hRl9⟩
  case ireturn =>
    obtain ⟨h1, h2⟩ := an2 hok
    obtain ⟨g1, g2⟩ := an2 h1
    obtain ⟨g2, g3⟩ := an2 g2
    have g1 := dec_e g1
    have g2 : len = 1 := beqE g2
    subst g2
    rcases iv_m g3 with ⟨rfl, g3⟩ | ⟨rfl, g3⟩
    · obtain ⟨v, rfl, h⟩ := st_i (P := fun v => Q' (.inl (some (.inl v))) M) h
      exact (hF pc ad ls M cs LS H locs hx hcs).1 v hS h g1 (Or.inl (dec_e g3))
    · obtain ⟨v, rfl, h⟩ := st_i (P := fun v => chk (zb v) (Q' (.inl (some (.inl v))) M)) h
      obtain ⟨hz, h⟩ := chk_e h
      exact (hF pc ad ls M cs LS H locs hx hcs).1 v hS h g1 (Or.inr ⟨dec_e g3, hz⟩)
  case lreturn =>
    obtain ⟨h1, h2⟩ := an2 hok
    obtain ⟨g1, g2⟩ := an2 h1
    obtain ⟨g2, g3⟩ := an2 g2
    have g1 := dec_e g1
    have g2 : len = 1 := beqE g2
    subst g2
    obtain ⟨v, rfl, h⟩ := st_l (P := fun v => Q' (.inl (some (.inr (.inl v)))) M) h
    exact (hF pc ad ls M cs LS H locs hx hcs).2.1 v hS h g1 (dec_e g3)
  case return_ =>
    obtain ⟨h1, h2⟩ := an2 hok
    obtain ⟨g1, g2⟩ := an2 h1
    obtain ⟨g2, g3⟩ := an2 g2
    have g1 := dec_e g1
    have g2 : len = 1 := beqE g2
    subst g2
    obtain ⟨rfl, h⟩ := st_v (P := Q' (.inl none) M) h
    exact (hF pc ad ls M cs LS H locs hx hcs).2.2.1 hS h g1 (dec_e g3)
  case nop =>
    have e1 : aux.headD 0 = pc := beqE hok
    have h : wp f d j (aux.headD 0) (cod j (aux.headD 0)).2 (mk (cod j (aux.headD 0)).1 ls) st M cs Q' := h
    have := JJ _ _ h hS
    rw [e1] at this
    exact this
  all_goals exact h.elim

end RZ
