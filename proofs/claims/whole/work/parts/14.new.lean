/-! ===== one step: new cells, arraycopy ===== -/
def adn (ad : Nat → Nat) (M : Mm) (q : Nat) : Nat → Nat := fun r => if r = gN M + 1 then q else ad r
theorem adn_le {ad : Nat → Nat} {M : Mm} {q a : Nat} (h : a ≤ gN M) : adn ad M q a = ad a := by
  unfold adn
  rw [if_neg (by omega)]
theorem rf_adn {ad : Nat → Nat} {M : Mm} {q a : Nat} (h : a ≤ gN M) : rf (adn ad M q) a = rf ad a := by
  cases a with
  | zero => rfl
  | succ a =>
    show some (adn ad M q (a + 1)) = some (ad (a + 1))
    rw [adn_le h]
theorem nw_ne {M : Mm} {kd : Nat × Nat} {a : Nat} (h : a ≠ gN M + 1) : (nw M kd).1 a = M.1 a ∧ (nw M kd).2.1 a = M.2.1 a ∧ (nw M kd).2.2.1 a = M.2.2.1 a ∧ gI (nw M kd) a = gI M a ∧ gJ (nw M kd) a = gJ M a := by
  refine ⟨?_, ?_, ?_, ?_, ?_⟩
  · show (if a = gN M + 1 then kd else M.1 a) = _
    rw [if_neg h]
  · funext i
    show (if a = gN M + 1 then 0 else M.2.1 a i) = _
    rw [if_neg h]
  · funext i
    show (if a = gN M + 1 then 0 else M.2.2.1 a i) = _
    rw [if_neg h]
  · funext i
    show (if a = gN M + 1 then 0 else gI M a i) = _
    rw [if_neg h]
  · funext i
    show (if a = gN M + 1 then 0 else gJ M a i) = _
    rw [if_neg h]
theorem nw_eq {M : Mm} {kd : Nat × Nat} : (nw M kd).1 (gN M + 1) = kd ∧ (∀ i, (nw M kd).2.1 (gN M + 1) i = 0) ∧ (∀ i, (nw M kd).2.2.1 (gN M + 1) i = 0) ∧ (∀ i, gI (nw M kd) (gN M + 1) i = 0) ∧ (∀ i, gJ (nw M kd) (gN M + 1) i = 0) := by
  refine ⟨?_, fun i => ?_, fun i => ?_, fun i => ?_, fun i => ?_⟩
  · show (if gN M + 1 = gN M + 1 then kd else M.1 (gN M + 1)) = _
    rw [if_pos rfl]
  · show (if gN M + 1 = gN M + 1 then 0 else M.2.1 (gN M + 1) i) = _
    rw [if_pos rfl]
  · show (if gN M + 1 = gN M + 1 then 0 else M.2.2.1 (gN M + 1) i) = _
    rw [if_pos rfl]
  · show (if gN M + 1 = gN M + 1 then 0 else gI M (gN M + 1) i) = _
    rw [if_pos rfl]
  · show (if gN M + 1 = gN M + 1 then 0 else gJ M (gN M + 1) i) = _
    rw [if_pos rfl]
theorem en_nw {L : Nat} {xs : Nat → Int32} {T : T4} {ad : Nat → Nat} {M : Mm} {kd : Nat × Nat} {q a : Nat} (hM : MI L xs M) (h : a ≤ gN M) : en T (adn ad M q) (nw M kd) a = en T ad M a := by
  obtain ⟨e1, e2, e3, e4, e5⟩ := nw_ne (M := M) (kd := kd) (a := a) (by omega)
  have hr := fun i => hM.2.2.2.2.2.1 a i h
  have ef : ∀ i t, fv (adn ad M q) (nw M kd) a i t = fv ad M a i t := by
    intro i t
    have r1 := rf_adn (ad := ad) (q := q) (hr i).1
    have r2 := rf_adn (ad := ad) (q := q) (hr i).2
    unfold fv
    rw [e2, e3, e4, e5, r1, r2]
  have efl : ∀ ci, fl (adn ad M q) (nw M kd) a ci = fl ad M a ci := by
    intro ci
    unfold fl
    exact List.map_congr_left fun i _ => ef i _
  have er : (fun i => rf (adn ad M q) (M.2.1 a i)) = fun i => rf ad (M.2.1 a i) := funext fun i => rf_adn (hr i).1
  unfold en
  rw [e1, e2, e4, e5, efl, er]
theorem MI_nw {L : Nat} {xs : Nat → Int32} {M : Mm} {kd : Nat × Nat} (hM : MI L xs M) (h : gN M ≤ 99999) (h4 : kd.1 ≤ 4) (h0 : kd.1 = 0 → kd.2 < 12) (h2 : kd.2 < 2147483648) : MI L xs (nw M kd) := by
  have hN : gN (nw M kd) = gN M + 1 := rfl
  obtain ⟨h1, h2', h3, h4', h5, h6, h7, h8, h9, h10, h11, h12⟩ := hM
  obtain ⟨n1, n2, n3, n4, n5⟩ := nw_eq (M := M) (kd := kd)
  have ne : ∀ a, a ≠ gN M + 1 → _ := fun a => nw_ne (M := M) (kd := kd) (a := a)
  refine ⟨fun a i => ?_, fun a i => ?_, fun a ha => ?_, fun a ha => ?_, fun a => ?_, fun a i ha => ?_, by omega, ?_, fun i hi => ?_, fun a ha => ?_, fun a ha => ?_, fun t i ht hi => ?_⟩
  · by_cases e : a = gN M + 1
    · subst e; rw [n4]; exact ⟨by omega, by omega⟩
    · rw [(ne a e).2.2.2.1]; exact h1 a i
  · by_cases e : a = gN M + 1
    · subst e; rw [n5]; exact ⟨by omega, by omega⟩
    · rw [(ne a e).2.2.2.2]; exact h2' a i
  · by_cases e : a = gN M + 1
    · omega
    · rw [(ne a e).1] at ha
      have := h3 a ha
      omega
  · by_cases e : a = gN M + 1
    · subst e; rw [n1] at ha ⊢; exact h0 ha
    · rw [(ne a e).1] at ha ⊢; exact h4' a ha
  · by_cases e : a = gN M + 1
    · subst e; rw [n1]; exact h2
    · rw [(ne a e).1]; exact h5 a
  · by_cases e : a = gN M + 1
    · subst e; rw [n2, n3]; exact ⟨Nat.zero_le _, Nat.zero_le _⟩
    · rw [(ne a e).2.1, (ne a e).2.2.1]
      have := h6 a i (by omega)
      omega
  · rw [(ne _ (by omega)).2.2.1]; exact h8
  · rw [(ne _ (by omega)).2.2.2.1]; exact h9 i hi
  · by_cases e : a = gN M + 1
    · subst e; rw [n1] at ha; omega
    · rw [(ne a e).1] at ha; exact h10 a ha
  · by_cases e : a = gN M + 1
    · subst e; rw [n1] at ha; omega
    · rw [(ne a e).1] at ha ⊢; exact h11 a ha
  · rw [(ne _ (by omega)).2.2.2.1]; exact h12 t i ht hi
section RN
variable {p : Program} {l : Launch} {e : Env} {R : Room} {s : State} {m : MethodId} {args : Array Value} {below : List Frame} {meth : Method} {c : Code} {H : Heap} {locs : List Loc} {Q : State → Prop}
variable {D : va_G} {T : T4} {b0 L n : Nat} {xs : Nat → Int32} {ad : Nat → Nat} {ls st : List Vl} {M : Mm} {LS : Array Slot} {pc : Nat} {cs bd : Nat × Nat} {cc : ByteArray} {kn : List Vl → List Vl → Mm → Nat × Nat → Prop} {kj : Nat → List Vl → Prop}
variable {Ts : List Cond} {ci i t idx N : Nat} {C own : String} {F : u_T} {ty : Nat → FieldType}
theorem EX_nw {q : Nat} {kd : Nat × Nat} (h : gN M ≤ 99999) : EX ad M (adn ad M q) (nw M kd) := by
  refine ⟨Nat.le_succ _, fun a ha => adn_le ha, fun a ha => ?_⟩
  unfold adn
  rw [if_neg (by omega)]
/-- a new cell -/
theorem KN_new {pc' q n' : Nat} {kd : Nat × Nat} {e' : va_E} {H1 : Heap} {locs1 : List Loc} (K : KN p l e R s m args below meth c Q D T b0 L xs n ad M pc' bd kn) (hS : SP D T b0 L xs n s ad ls st M LS H locs) {r : List Vl} (hk : kn ls (.inr (.inr (.inl (gN M + 1))) :: r) (nw M kd) (cs.1 + 1, cs.2 + n'))
    (hs : ∀ v ∈ r, rgv M v) (hN : gN M ≤ 99999) (h4 : kd.1 ≤ 4) (h0 : kd.1 = 0 → kd.2 < 12) (h2 : kd.2 < 2147483648) (hcs : cs.1 + 1 ≤ bd.1 ∧ cs.2 + n' ≤ bd.2) (he : en T (adn ad M q) (nw M kd) (gN M + 1) = e')
    (hP : va_P D vwCl (wl' T ad M ++ [(q, e')]) H1) (hD : va_D (AA b0) (wl' T ad M ++ [(q, e')])) (hS1 : va_S (AA b0) s.heap H1 locs1) :
    W p l e R s m args below meth c H1 locs1 (cs.1 + 1) (cs.2 + n') Q (F0 m pc' LS (.ref q :: r.map (cf ad))) := by
  have ex : EX ad M (adn ad M q) (nw M kd) := EX_nw hN
  have eq : q = adn ad M q (gN M + 1) := by unfold adn; rw [if_pos rfl]
  have hw : wl' T ad M ++ [(q, e')] = wl' T (adn ad M q) (nw M kd) := by
    have h := wl_push (T := T) (ad := ad) (ad' := adn ad M q) (M := M) (M' := nw M kd) (e := e') rfl (fun a ha => adn_le ha) (fun a _ ha => en_nw hS.2.2.2.1 ha) he
    rw [← eq] at h
    exact h
  rw [hw] at hP hD
  have hr : ∀ {v : Vl}, rgv M v → rgv (nw M kd) v := fun {v} h => EX_rg ex h
  have hl : lv_has LS n (lvl (adn ad M q) ls) := by
    refine lv_mem hS.1 fun z hz => ?_
    obtain ⟨v, h1, h2, h3⟩ := lvl_mem.mp hz
    exact lvl_mem.mpr ⟨v, h1, h2, by rw [h3, EX_cf ex (hS.2.1 v (List.mem_of_getElem? h1))]⟩
  have h := K (adn ad M q) ls (.inr (.inr (.inl (gN M + 1))) :: r) (nw M kd) (cs.1 + 1, cs.2 + n') LS H1 locs1 ex hk
    ⟨hl, fun v hv => hr (hS.2.1 v hv), fa2 (Or.inl (Nat.le_refl _)) fun v hv => hr (hs v hv), MI_nw hS.2.2.2.1 hN h4 h0 h2, hP, hD, hS1⟩ hcs
  rw [List.map_cons, EX_map ex hs] at h
  have e9 : cf (adn ad M q) (.inr (.inr (.inl (gN M + 1)))) = .ref q := by
    show va_rf (some (adn ad M q (gN M + 1))) = .ref q
    rw [← eq]
    rfl
  rw [e9] at h
  exact h
theorem K_cls {cA : ClassId} {ty' : FieldType} (hK : va_K D vwCl (tyl T ++ [(cA, ty')]) s) {k : Nat} {cT : ClassId} (hk : (tyl T)[k]? = some (cT, ty')) : cA = cT := by
  have h1 := (hK.2 4 (cA, ty') rfl).2
  have hl := (List.getElem?_eq_some_iff.mp hk).1
  have h2 := (hK.2 k (cT, ty') (by rw [List.getElem?_append_left hl]; exact hk)).2
  cases ty' with
  | object C9 =>
    obtain ⟨-, -, -, -, -, h1⟩ := h1
    obtain ⟨-, -, -, -, -, h2⟩ := h2
    exact Option.some.inj (h1.symm.trans h2)
  | _ => exact Option.some.inj (h1.symm.trans h2)
theorem z_nneg {a : Int} (ha : inR a) (h : 0 ≤ a) : ¬ Int32.ofInt a < 0 := by
  intro q
  rw [show (0 : Int32) = Int32.ofInt 0 from rfl] at q
  have := (z_lt ha (b := 0) ⟨by omega, by omega⟩).mp q
  omega
theorem r_newI (hx : p.tables.exec = Jvm.exec) (hb : c.code = cc) (hd : decode cc pc = .ok (.newarray .int, 2)) (hS : SP D T b0 L xs n s ad ls st M LS H locs)
    (h : p1I st (fun k r => chk (nn k) (chk (lq (cs.1 + 1) bd.1 (cs.2 + k.toNat) bd.2 && Nat.ble (gN M) 99999 && Nat.ble k.toNat 100000) (kn ls (.inr (.inr (.inl (gN M + 1))) :: r) (nw M (1, k.toNat)) (cs.1 + 1, cs.2 + k.toNat))))) (K : KN p l e R s m args below meth c Q D T b0 L xs n ad M (pc + 2) bd kn)
    (hR : R.cells = bd.1 ∧ R.slots = bd.2) (hA : b0 ≤ s.heap.size) (hK : va_K D vwCl (tyl T) s) (hac : (Cond.arrayClass .int).before args s = true) : W p l e R s m args below meth c H locs cs.1 cs.2 Q (F0 m pc LS (st.map (cf ad))) := by
  unfold p1I at h
  split at h
  · rename_i k r
    obtain ⟨h1, h⟩ := chk_e h
    obtain ⟨h2, h⟩ := chk_e h
    obtain ⟨h3, h4⟩ := fa1 hS.2.2.1
    unfold lq nn at *
    simp only [Bool.and_eq_true, decide_eq_true_eq, Nat.ble_eq] at h1 h2
    refine va_newa (atype := .int) (a0 := (k.toNat, .inl (fun _ => 0))) hx hb hac rfl hK hS.2.2.2.2.1 hS.2.2.2.2.2.1 hS.2.2.2.2.2.2 (fun q hq => Nat.le_trans hA hq) (fun cA => rfl) (z_nneg h3 h1) (z_idx h3) (by show k.toNat * 4 ≤ _; omega) (by omega) (by omega) hd fun q cA H1 hK1 hP hD hS1 => ?_
    have := K_cls hK1 (k := 0) rfl
    subst this
    refine KN_new K hS h h4 (by omega) (show (1 : Nat) ≤ 4 by omega) (fun q => by have q : (1 : Nat) = 0 := q; omega) (by show k.toNat < _; omega) (by omega) ?_ hP hD hS1
    obtain ⟨n1, n2, n3, n4, n5⟩ := nw_eq (M := M) (kd := (1, k.toNat))
    rw [en_1 (by rw [n1]), n1]
    have e9 : (fun i => Int32.ofInt (gI (nw M (1, k.toNat)) (gN M + 1) i)) = fun _ => 0 := funext fun i => by rw [n4]; rfl
    rw [e9]
  · exact h.elim
theorem r_newJ (hx : p.tables.exec = Jvm.exec) (hb : c.code = cc) (hd : decode cc pc = .ok (.newarray .long, 2)) (hS : SP D T b0 L xs n s ad ls st M LS H locs)
    (h : p1I st (fun k r => chk (nn k) (chk (lq (cs.1 + 1) bd.1 (cs.2 + k.toNat) bd.2 && Nat.ble (gN M) 99999 && Nat.ble k.toNat 100000) (kn ls (.inr (.inr (.inl (gN M + 1))) :: r) (nw M (2, k.toNat)) (cs.1 + 1, cs.2 + k.toNat))))) (K : KN p l e R s m args below meth c Q D T b0 L xs n ad M (pc + 2) bd kn)
    (hR : R.cells = bd.1 ∧ R.slots = bd.2) (hA : b0 ≤ s.heap.size) (hK : va_K D vwCl (tyl T) s) (hac : (Cond.arrayClass .long).before args s = true) : W p l e R s m args below meth c H locs cs.1 cs.2 Q (F0 m pc LS (st.map (cf ad))) := by
  unfold p1I at h
  split at h
  · rename_i k r
    obtain ⟨h1, h⟩ := chk_e h
    obtain ⟨h2, h⟩ := chk_e h
    obtain ⟨h3, h4⟩ := fa1 hS.2.2.1
    unfold lq nn at *
    simp only [Bool.and_eq_true, decide_eq_true_eq, Nat.ble_eq] at h1 h2
    refine va_newa (atype := .long) (a0 := (k.toNat, .inr (.inl (fun _ => 0)))) hx hb hac rfl hK hS.2.2.2.2.1 hS.2.2.2.2.2.1 hS.2.2.2.2.2.2 (fun q hq => Nat.le_trans hA hq) (fun cA => rfl) (z_nneg h3 h1) (z_idx h3) (by show k.toNat * 8 ≤ _; omega) (by omega) (by omega) hd fun q cA H1 hK1 hP hD hS1 => ?_
    have := K_cls hK1 (k := 1) rfl
    subst this
    refine KN_new K hS h h4 (by omega) (show (2 : Nat) ≤ 4 by omega) (fun q => by have q : (2 : Nat) = 0 := q; omega) (by show k.toNat < _; omega) (by omega) ?_ hP hD hS1
    obtain ⟨n1, n2, n3, n4, n5⟩ := nw_eq (M := M) (kd := (2, k.toNat))
    rw [en_2 (by rw [n1]), n1]
    have e9 : (fun i => Int64.ofInt (gJ (nw M (2, k.toNat)) (gN M + 1) i)) = fun _ => 0 := funext fun i => by rw [n5]; rfl
    rw [e9]
  · exact h.elim
theorem r_newZ (hx : p.tables.exec = Jvm.exec) (hb : c.code = cc) (hd : decode cc pc = .ok (.newarray .boolean, 2)) (hS : SP D T b0 L xs n s ad ls st M LS H locs)
    (h : p1I st (fun k r => chk (nn k) (chk (lq (cs.1 + 1) bd.1 (cs.2 + k.toNat) bd.2 && Nat.ble (gN M) 99999 && Nat.ble k.toNat 100000) (kn ls (.inr (.inr (.inl (gN M + 1))) :: r) (nw M (3, k.toNat)) (cs.1 + 1, cs.2 + k.toNat))))) (K : KN p l e R s m args below meth c Q D T b0 L xs n ad M (pc + 2) bd kn)
    (hR : R.cells = bd.1 ∧ R.slots = bd.2) (hA : b0 ≤ s.heap.size) (hK : va_K D vwCl (tyl T) s) (hac : (Cond.arrayClass .boolean).before args s = true) : W p l e R s m args below meth c H locs cs.1 cs.2 Q (F0 m pc LS (st.map (cf ad))) := by
  unfold p1I at h
  split at h
  · rename_i k r
    obtain ⟨h1, h⟩ := chk_e h
    obtain ⟨h2, h⟩ := chk_e h
    obtain ⟨h3, h4⟩ := fa1 hS.2.2.1
    unfold lq nn at *
    simp only [Bool.and_eq_true, decide_eq_true_eq, Nat.ble_eq] at h1 h2
    refine va_newa (atype := .boolean) (a0 := (k.toNat, .inl (fun _ => 0))) hx hb hac rfl hK hS.2.2.2.2.1 hS.2.2.2.2.2.1 hS.2.2.2.2.2.2 (fun q hq => Nat.le_trans hA hq) (fun cA => rfl) (z_nneg h3 h1) (z_idx h3) (by show k.toNat * 1 ≤ _; omega) (by omega) (by omega) hd fun q cA H1 hK1 hP hD hS1 => ?_
    have := K_cls hK1 (k := 2) rfl
    subst this
    refine KN_new K hS h h4 (by omega) (show (3 : Nat) ≤ 4 by omega) (fun q => by have q : (3 : Nat) = 0 := q; omega) (by show k.toNat < _; omega) (by omega) ?_ hP hD hS1
    obtain ⟨n1, n2, n3, n4, n5⟩ := nw_eq (M := M) (kd := (3, k.toNat))
    rw [en_3 (by rw [n1]), n1]
    have e9 : (fun i => Int32.ofInt (gI (nw M (3, k.toNat)) (gN M + 1) i)) = fun _ => 0 := funext fun i => by rw [n4]; rfl
    rw [e9]
  · exact h.elim
theorem r_newP (hx : p.tables.exec = Jvm.exec) (hb : c.code = cc) (hd : decode cc pc = .ok (.anewarray idx, 3)) (hS : SP D T b0 L xs n s ad ls st M LS H locs)
    (h : p1I st (fun k r => chk (nn k) (chk (lq (cs.1 + 1) bd.1 (cs.2 + k.toNat) bd.2 && Nat.ble (gN M) 99999 && Nat.ble k.toNat 100000) (kn ls (.inr (.inr (.inl (gN M + 1))) :: r) (nw M (4, k.toNat)) (cs.1 + 1, cs.2 + k.toNat))))) (K : KN p l e R s m args below meth c Q D T b0 L xs n ad M (pc + 3) bd kn)
    (hR : R.cells = bd.1 ∧ R.slots = bd.2) (hA : b0 ≤ s.heap.size) (hK : va_K D vwCl (tyl T) s) (hown : s.vm.findClass own = some m.cls) (hcl : (Cond.classLink own idx "GlassLeaders$Party").before args s = true) (hao : va_AO "GlassLeaders$Party" s) : W p l e R s m args below meth c H locs cs.1 cs.2 Q (F0 m pc LS (st.map (cf ad))) := by
  unfold p1I at h
  split at h
  · rename_i k r
    obtain ⟨h1, h⟩ := chk_e h
    obtain ⟨h2, h⟩ := chk_e h
    obtain ⟨h3, h4⟩ := fa1 hS.2.2.1
    unfold lq nn at *
    simp only [Bool.and_eq_true, decide_eq_true_eq, Nat.ble_eq] at h1 h2
    refine va_newq hx hb hown hcl hao hK hS.2.2.2.2.1 hS.2.2.2.2.2.1 hS.2.2.2.2.2.2 (fun q hq => Nat.le_trans hA hq) (z_nneg h3 h1) (z_idx h3) (by omega) (by omega) (by omega) hd fun q cA H1 hK1 hP hD hS1 => ?_
    have := K_cls hK1 (k := 3) rfl
    subst this
    refine KN_new K hS h h4 (by omega) (show (4 : Nat) ≤ 4 by omega) (fun q => by have q : (4 : Nat) = 0 := q; omega) (by show k.toNat < _; omega) (by omega) ?_ hP hD hS1
    obtain ⟨n1, n2, n3, n4, n5⟩ := nw_eq (M := M) (kd := (4, k.toNat))
    rw [en_4 (by rw [n1]), n1]
    have e9 : (fun i => rf (adn ad M q) ((nw M (4, k.toNat)).2.1 (gN M + 1) i)) = fun _ => none := funext fun i => by rw [n2]; rfl
    rw [e9]
  · exact h.elim
theorem dv_fv {ad : Nat → Nat} {M : Mm} {k i t : Nat} {y : FieldType} (h1 : gI M k i = 0) (h2 : gJ M k i = 0) (h3 : M.2.1 k i = 0) (h4 : M.2.2.1 k i = 0) (hty : tyg y = t ∨ (t = 4 ∧ tyg y = 2)) (h5 : tyg y ≠ 9) : defaultValue y = fv ad M k i t := by
  unfold fv
  rw [h1, h2, h3, h4]
  rcases hty with hty | ⟨hty, h9⟩
  · subst hty
    cases y <;> first | rfl | exact absurd rfl h5
  · subst hty
    cases y <;> first | rfl | exact absurd rfl h5 | exact absurd h9 (by decide)
theorem r_new (hx : p.tables.exec = Jvm.exec) (hb : c.code = cc) (hd : decode cc pc = .ok (.new idx, 3)) (hS : SP D T b0 L xs n s ad ls st M LS H locs)
    (h : chk (lq (cs.1 + 1) bd.1 (cs.2 + N) bd.2 && Nat.ble (gN M) 99999) (kn ls (.inr (.inr (.inl (gN M + 1))) :: st) (nw M (0, ci)) (cs.1 + 1, cs.2 + N))) (K : KN p l e R s m args below meth c Q D T b0 L xs n ad M (pc + 3) bd kn)
    (hR : R.cells = bd.1 ∧ R.slots = bd.2) (hA : b0 ≤ s.heap.size) (hK : va_K D vwCl (tyl T) s) (hts : ∀ w ∈ Ts, w.before args s = true) (hC : CL Ts ci C F N ty) (hown : s.vm.findClass own = some m.cls) (hci : ci < 12)
    (hcl : (Cond.classLink own idx C).before args s = true) (hin : (Cond.instantiable C N).before args s = true) (hini : (Cond.initialized C).before args s = true) (hty : ∀ i, i < N → tyg (ty i) = (ft ci).getD i 0 ∨ ((ft ci).getD i 0 = 4 ∧ tyg (ty i) = 2)) (hty9 : ∀ i, i < N → tyg (ty i) ≠ 9) : W p l e R s m args below meth c H locs cs.1 cs.2 Q (F0 m pc LS (st.map (cf ad))) := by
  obtain ⟨c1, c2, c3, c4, c5⟩ := hC
  obtain ⟨h2, h⟩ := chk_e h
  unfold lq at h2
  simp only [Bool.and_eq_true, Nat.ble_eq] at h2
  obtain ⟨n1, n2, n3, n4, n5⟩ := nw_eq (M := M) (kd := (0, ci))
  refine va_new (fs := fl (adn ad M 0) (nw M (0, ci)) (gN M + 1) ci) hx hb hts c2 ty c3 hown hcl hin hini hK hS.2.2.2.2.1 hS.2.2.2.2.2.1 hS.2.2.2.2.2.2 (fun q hq => Nat.le_trans hA hq) c1 (fun j hj => ?_) (by omega) (by omega) hd fun q H1 hP hD hS1 => ?_
  · unfold vp_V
    rw [List.getD_eq_getElem?_getD, fl_get (by omega)]
    exact dv_fv (n4 _) (n5 _) (n2 _) (n3 _) (hty j hj) (hty9 j hj)
  · refine KN_new K hS h hS.2.2.1 (by omega) (show (0 : Nat) ≤ 4 by omega) (fun _ => hci) (by show ci < _; omega) (by omega) ?_ hP hD hS1
    rw [(en_obj (T := T) (ad := adn ad M q) (M := nw M (0, ci)) (k := gN M + 1) (ci := ci) (by rw [n1]; unfold kq; simp)).1]
    congr 2
    unfold fl
    apply List.map_congr_left
    intro i hi
    unfold fv
    rw [n4, n5, n2, n3, show rf (adn ad M q) 0 = rf (adn ad M 0) 0 from rfl]
end RN
