/-! ===== one step: arrays, constants, switches, new cells ===== -/
theorem en_1 {T : T4} {ad : Nat → Nat} {M : Mm} {k : Nat} (h : (M.1 k).1 = 1) : en T ad M k = .inl (T.1, (M.1 k).2, .inl (fun i => Int32.ofInt (gI M k i))) := by
  unfold en
  rw [h]
  rfl
theorem en_2 {T : T4} {ad : Nat → Nat} {M : Mm} {k : Nat} (h : (M.1 k).1 = 2) : en T ad M k = .inl (T.2.1, (M.1 k).2, .inr (.inl (fun i => Int64.ofInt (gJ M k i)))) := by
  unfold en
  rw [h]
  rfl
theorem en_3 {T : T4} {ad : Nat → Nat} {M : Mm} {k : Nat} (h : (M.1 k).1 = 3) : en T ad M k = .inl (T.2.2.1, (M.1 k).2, .inl (fun i => Int32.ofInt (gI M k i))) := by
  unfold en
  rw [h]
  rfl
theorem en_4 {T : T4} {ad : Nat → Nat} {M : Mm} {k : Nat} (h : (M.1 k).1 = 4) : en T ad M k = .inl (T.2.2.2, (M.1 k).2, .inr (.inr (.inr (.inr (fun i => rf ad (M.2.1 k i)))))) := by
  unfold en
  rw [h]
  rfl
section RA
variable {p : Program} {l : Launch} {e : Env} {R : Room} {s : State} {m : MethodId} {args : Array Value} {below : List Frame} {meth : Method} {c : Code} {H : Heap} {locs : List Loc} {Q : State → Prop}
variable {D : va_G} {T : T4} {b0 L n : Nat} {xs : Nat → Int32} {ad : Nat → Nat} {ls st : List Vl} {M : Mm} {LS : Array Slot} {pc : Nat} {cs bd : Nat × Nat} {cc : ByteArray} {kn : List Vl → List Vl → Mm → Nat × Nat → Prop} {kj : Nat → List Vl → Prop}
variable {Ts : List Cond} {ci i t idx N : Nat} {C own : String} {F : u_T} {ty : Nat → FieldType}
theorem r_iald (hx : p.tables.exec = Jvm.exec) (hb : c.code = cc) (hd : decode cc pc = .ok (.iaload, 1)) (hS : SP D T b0 L xs n s ad ls st M LS H locs) (hcs : cs.1 ≤ bd.1 ∧ cs.2 ≤ bd.2)
    (h : pIR st (fun a i r => chk (Nat.beq (M.1 a).1 1) (chk (ib i (M.1 a).2) (kn ls (.inl (gI M a i.toNat) :: r) M cs)))) (K : KN p l e R s m args below meth c Q D T b0 L xs n ad M (pc + 1) bd kn) (hK : va_K D vwCl (tyl T) s) :
    W p l e R s m args below meth c H locs cs.1 cs.2 Q (F0 m pc LS (st.map (cf ad))) := by
  unfold pIR at h
  split at h
  · rename_i i a r
    obtain ⟨h1, h⟩ := chk_e h
    obtain ⟨h2, h⟩ := chk_e h
    obtain ⟨h3, h4, h5⟩ := beq_1 hS.2.2.2.1 h1 (by omega)
    obtain ⟨h6, h7⟩ := fa1 hS.2.2.1
    obtain ⟨-, h7⟩ := fa1 h7
    have hw := wl_get (T := T) (ad := ad) h4 h5
    rw [en_1 h3] at hw
    show W p l e R s m args below meth c H locs cs.1 cs.2 Q (F0 m pc LS (.int (Int32.ofInt i) :: va_rf (rf ad a) :: r.map (cf ad)))
    rw [rf_1 h4]
    refine va_iald hx hb hK hS.2.2.2.2.1 (a - 1) 0 hw rfl (z_in h6 h2) hd ?_
    rw [z_idx h6]
    exact KN_t K hS hcs h (fa2 (hS.2.2.2.1.1 _ _) h7)
  · exact h.elim
theorem r_zald (hx : p.tables.exec = Jvm.exec) (hb : c.code = cc) (hd : decode cc pc = .ok (.baload, 1)) (hS : SP D T b0 L xs n s ad ls st M LS H locs) (hcs : cs.1 ≤ bd.1 ∧ cs.2 ≤ bd.2)
    (h : pIR st (fun a i r => chk (Nat.beq (M.1 a).1 3) (chk (ib i (M.1 a).2) (kn ls (.inl (gI M a i.toNat) :: r) M cs)))) (K : KN p l e R s m args below meth c Q D T b0 L xs n ad M (pc + 1) bd kn) (hK : va_K D vwCl (tyl T) s) :
    W p l e R s m args below meth c H locs cs.1 cs.2 Q (F0 m pc LS (st.map (cf ad))) := by
  unfold pIR at h
  split at h
  · rename_i i a r
    obtain ⟨h1, h⟩ := chk_e h
    obtain ⟨h2, h⟩ := chk_e h
    obtain ⟨h3, h4, h5⟩ := beq_1 hS.2.2.2.1 h1 (by omega)
    obtain ⟨h6, h7⟩ := fa1 hS.2.2.1
    obtain ⟨-, h7⟩ := fa1 h7
    have hw := wl_get (T := T) (ad := ad) h4 h5
    rw [en_3 h3] at hw
    show W p l e R s m args below meth c H locs cs.1 cs.2 Q (F0 m pc LS (.int (Int32.ofInt i) :: va_rf (rf ad a) :: r.map (cf ad)))
    rw [rf_1 h4]
    refine va_zald hx hb hK hS.2.2.2.2.1 (a - 1) 2 hw rfl (z_in h6 h2) hd ?_
    rw [z_idx h6]
    exact KN_t K hS hcs h (fa2 (hS.2.2.2.1.1 _ _) h7)
  · exact h.elim
theorem r_lald (hx : p.tables.exec = Jvm.exec) (hb : c.code = cc) (hd : decode cc pc = .ok (.laload, 1)) (hS : SP D T b0 L xs n s ad ls st M LS H locs) (hcs : cs.1 ≤ bd.1 ∧ cs.2 ≤ bd.2)
    (h : pIR st (fun a i r => chk (Nat.beq (M.1 a).1 2) (chk (ib i (M.1 a).2) (kn ls (.inr (.inl (gJ M a i.toNat)) :: r) M cs)))) (K : KN p l e R s m args below meth c Q D T b0 L xs n ad M (pc + 1) bd kn) (hK : va_K D vwCl (tyl T) s) :
    W p l e R s m args below meth c H locs cs.1 cs.2 Q (F0 m pc LS (st.map (cf ad))) := by
  unfold pIR at h
  split at h
  · rename_i i a r
    obtain ⟨h1, h⟩ := chk_e h
    obtain ⟨h2, h⟩ := chk_e h
    obtain ⟨h3, h4, h5⟩ := beq_1 hS.2.2.2.1 h1 (by omega)
    obtain ⟨h6, h7⟩ := fa1 hS.2.2.1
    obtain ⟨-, h7⟩ := fa1 h7
    have hw := wl_get (T := T) (ad := ad) h4 h5
    rw [en_2 h3] at hw
    show W p l e R s m args below meth c H locs cs.1 cs.2 Q (F0 m pc LS (.int (Int32.ofInt i) :: va_rf (rf ad a) :: r.map (cf ad)))
    rw [rf_1 h4]
    refine va_lald hx hb hK hS.2.2.2.2.1 (a - 1) 1 hw rfl (z_in h6 h2) hd ?_
    rw [z_idx h6]
    exact KN_t K hS hcs h (fa2 (hS.2.2.2.1.2.1 _ _) h7)
  · exact h.elim
theorem r_aald (hx : p.tables.exec = Jvm.exec) (hb : c.code = cc) (hd : decode cc pc = .ok (.aaload, 1)) (hS : SP D T b0 L xs n s ad ls st M LS H locs) (hcs : cs.1 ≤ bd.1 ∧ cs.2 ≤ bd.2)
    (h : pIR st (fun a i r => chk (Nat.beq (M.1 a).1 4) (chk (ib i (M.1 a).2) (kn ls (.inr (.inr (.inl (M.2.1 a i.toNat))) :: r) M cs)))) (K : KN p l e R s m args below meth c Q D T b0 L xs n ad M (pc + 1) bd kn) (hK : va_K D vwCl (tyl T) s) :
    W p l e R s m args below meth c H locs cs.1 cs.2 Q (F0 m pc LS (st.map (cf ad))) := by
  unfold pIR at h
  split at h
  · rename_i i a r
    obtain ⟨h1, h⟩ := chk_e h
    obtain ⟨h2, h⟩ := chk_e h
    obtain ⟨h3, h4, h5⟩ := beq_1 hS.2.2.2.1 h1 (by omega)
    obtain ⟨h6, h7⟩ := fa1 hS.2.2.1
    obtain ⟨-, h7⟩ := fa1 h7
    have hw := wl_get (T := T) (ad := ad) h4 h5
    rw [en_4 h3] at hw
    show W p l e R s m args below meth c H locs cs.1 cs.2 Q (F0 m pc LS (.int (Int32.ofInt i) :: va_rf (rf ad a) :: r.map (cf ad)))
    rw [rf_1 h4]
    refine va_aldq hx hb hK hS.2.2.2.2.1 (a - 1) 3 hw rfl (z_in h6 h2) hd ?_
    rw [z_idx h6]
    exact KN_t K hS hcs h (fa2 (Or.inl (hS.2.2.2.1.2.2.2.2.2.1 a _ h5).1) h7)
  · exact h.elim
theorem r_iast (hx : p.tables.exec = Jvm.exec) (hb : c.code = cc) (hd : decode cc pc = .ok (.iastore, 1)) (hS : SP D T b0 L xs n s ad ls st M LS H locs) (hcs : cs.1 ≤ bd.1 ∧ cs.2 ≤ bd.2)
    (h : (match (generalizing := false) st with | .inl x :: .inl i :: .inr (.inr (.inl a)) :: r => chk (Nat.beq (M.1 a).1 1) (chk (ib i (M.1 a).2) (kn ls r (wI M a i.toNat x) cs)) | _ => False)) (K : KN p l e R s m args below meth c Q D T b0 L xs n ad M (pc + 1) bd kn) (hK : va_K D vwCl (tyl T) s) :
    W p l e R s m args below meth c H locs cs.1 cs.2 Q (F0 m pc LS (st.map (cf ad))) := by
  split at h
  · rename_i x i a r
    obtain ⟨h1, h⟩ := chk_e h
    obtain ⟨h2, h⟩ := chk_e h
    obtain ⟨h3, h4, h5⟩ := beq_1 hS.2.2.2.1 h1 (by omega)
    obtain ⟨h8, h7⟩ := fa1 hS.2.2.1
    obtain ⟨h6, h7⟩ := fa1 h7
    obtain ⟨-, h7⟩ := fa1 h7
    have hw := wl_get (T := T) (ad := ad) h4 h5
    rw [en_1 h3] at hw
    show W p l e R s m args below meth c H locs cs.1 cs.2 Q (F0 m pc LS (.int (Int32.ofInt x) :: .int (Int32.ofInt i) :: va_rf (rf ad a) :: r.map (cf ad)))
    rw [rf_1 h4]
    refine va_iast hx hb hK hS.2.2.2.2.1 hS.2.2.2.2.2.1 hS.2.2.2.2.2.2 (a - 1) 0 hw rfl (z_in h6 h2) hd fun H1 locs1 hP hD hS1 => ?_
    rw [z_idx h6] at hP hD
    exact KN_m K hS hcs h h7 h4 h5 rfl (MI_wI hS.2.2.2.1 h5 h8) (fun a ha => en_wI ha) (by rw [z_up (f := gI M a) (g := gI (wI M a i.toNat x) a) (fun b => u2_at)]; exact en_1 h3) hP hD hS1
  · exact h.elim
theorem nar_z {a : Int} (h : zb a = true) : vp_nar .boolean (Int32.ofInt a) = Int32.ofInt a := by
  rcases zb_or h with h | h <;> subst h <;> decide
theorem r_zast (hx : p.tables.exec = Jvm.exec) (hb : c.code = cc) (hd : decode cc pc = .ok (.bastore, 1)) (hS : SP D T b0 L xs n s ad ls st M LS H locs) (hcs : cs.1 ≤ bd.1 ∧ cs.2 ≤ bd.2)
    (h : (match (generalizing := false) st with | .inl x :: .inl i :: .inr (.inr (.inl a)) :: r => chk (Nat.beq (M.1 a).1 3) (chk (ib i (M.1 a).2) (chk (zb x) (kn ls r (wI M a i.toNat x) cs))) | _ => False)) (K : KN p l e R s m args below meth c Q D T b0 L xs n ad M (pc + 1) bd kn) (hK : va_K D vwCl (tyl T) s) :
    W p l e R s m args below meth c H locs cs.1 cs.2 Q (F0 m pc LS (st.map (cf ad))) := by
  split at h
  · rename_i x i a r
    obtain ⟨h1, h⟩ := chk_e h
    obtain ⟨h2, h⟩ := chk_e h
    obtain ⟨h9, h⟩ := chk_e h
    obtain ⟨h3, h4, h5⟩ := beq_1 hS.2.2.2.1 h1 (by omega)
    obtain ⟨h8, h7⟩ := fa1 hS.2.2.1
    obtain ⟨h6, h7⟩ := fa1 h7
    obtain ⟨-, h7⟩ := fa1 h7
    have hw := wl_get (T := T) (ad := ad) h4 h5
    rw [en_3 h3] at hw
    show W p l e R s m args below meth c H locs cs.1 cs.2 Q (F0 m pc LS (.int (Int32.ofInt x) :: .int (Int32.ofInt i) :: va_rf (rf ad a) :: r.map (cf ad)))
    rw [rf_1 h4]
    refine va_zast hx hb hK hS.2.2.2.2.1 hS.2.2.2.2.2.1 hS.2.2.2.2.2.2 (a - 1) 2 hw rfl (z_in h6 h2) hd fun H1 locs1 hP hD hS1 => ?_
    rw [z_idx h6, nar_z h9] at hP hD
    exact KN_m K hS hcs h h7 h4 h5 rfl (MI_wI hS.2.2.2.1 h5 h8) (fun a ha => en_wI ha) (by rw [z_up (f := gI M a) (g := gI (wI M a i.toNat x) a) (fun b => u2_at)]; exact en_3 h3) hP hD hS1
  · exact h.elim
theorem r_last (hx : p.tables.exec = Jvm.exec) (hb : c.code = cc) (hd : decode cc pc = .ok (.lastore, 1)) (hS : SP D T b0 L xs n s ad ls st M LS H locs) (hcs : cs.1 ≤ bd.1 ∧ cs.2 ≤ bd.2)
    (h : (match (generalizing := false) st with | .inr (.inl x) :: .inl i :: .inr (.inr (.inl a)) :: r => chk (Nat.beq (M.1 a).1 2) (chk (ib i (M.1 a).2) (kn ls r (wJ M a i.toNat x) cs)) | _ => False)) (K : KN p l e R s m args below meth c Q D T b0 L xs n ad M (pc + 1) bd kn) (hK : va_K D vwCl (tyl T) s) :
    W p l e R s m args below meth c H locs cs.1 cs.2 Q (F0 m pc LS (st.map (cf ad))) := by
  split at h
  · rename_i x i a r
    obtain ⟨h1, h⟩ := chk_e h
    obtain ⟨h2, h⟩ := chk_e h
    obtain ⟨h3, h4, h5⟩ := beq_1 hS.2.2.2.1 h1 (by omega)
    obtain ⟨h8, h7⟩ := fa1 hS.2.2.1
    obtain ⟨h6, h7⟩ := fa1 h7
    obtain ⟨-, h7⟩ := fa1 h7
    have hw := wl_get (T := T) (ad := ad) h4 h5
    rw [en_2 h3] at hw
    show W p l e R s m args below meth c H locs cs.1 cs.2 Q (F0 m pc LS (.long (Int64.ofInt x) :: .int (Int32.ofInt i) :: va_rf (rf ad a) :: r.map (cf ad)))
    rw [rf_1 h4]
    refine va_last hx hb hK hS.2.2.2.2.1 hS.2.2.2.2.2.1 hS.2.2.2.2.2.2 (a - 1) 1 hw rfl (z_in h6 h2) hd fun H1 locs1 hP hD hS1 => ?_
    rw [z_idx h6] at hP hD
    exact KN_m K hS hcs h h7 h4 h5 rfl (MI_wJ hS.2.2.2.1 h5 h8) (fun a ha => en_wJ ha) (by rw [z_upL (f := gJ M a) (g := gJ (wJ M a i.toNat x) a) (fun b => u2_at)]; exact en_2 h3) hP hD hS1
  · exact h.elim
theorem r_aast {c4 : Nat} (h44 : c4 = 4) (hx : p.tables.exec = Jvm.exec) (hb : c.code = cc) (hd : decode cc pc = .ok (.aastore, 1)) (hS : SP D T b0 L xs n s ad ls st M LS H locs) (hcs : cs.1 ≤ bd.1 ∧ cs.2 ≤ bd.2)
    (h : (match (generalizing := false) st with | .inr (.inr (.inl x)) :: .inl i :: .inr (.inr (.inl a)) :: r => chk (Nat.beq (M.1 a).1 4) (chk (kq (M.1 x) 0 c4) (chk (ib i (M.1 a).2) (kn ls r (wR M a i.toNat x) cs))) | _ => False)) (K : KN p l e R s m args below meth c Q D T b0 L xs n ad M (pc + 1) bd kn) (hK : va_K D vwCl (tyl T) s) :
    W p l e R s m args below meth c H locs cs.1 cs.2 Q (F0 m pc LS (st.map (cf ad))) := by
  subst h44
  split at h
  · rename_i x i a r
    obtain ⟨h1, h⟩ := chk_e h
    obtain ⟨hx1, h⟩ := chk_e h
    obtain ⟨h2, h⟩ := chk_e h
    obtain ⟨h3, h4, h5⟩ := beq_1 hS.2.2.2.1 h1 (by omega)
    obtain ⟨-, -, x1, x2⟩ := kq_1 hS.2.2.2.1 hx1
    obtain ⟨h8, h7⟩ := fa1 hS.2.2.1
    obtain ⟨h6, h7⟩ := fa1 h7
    obtain ⟨-, h7⟩ := fa1 h7
    have hw := wl_get (T := T) (ad := ad) h4 h5
    rw [en_4 h3] at hw
    have hv := wl_get (T := T) (ad := ad) x1 x2
    rw [(en_obj (T := T) (ad := ad) hx1).1] at hv
    show W p l e R s m args below meth c H locs cs.1 cs.2 Q (F0 m pc LS (va_rf (rf ad x) :: .int (Int32.ofInt i) :: va_rf (rf ad a) :: r.map (cf ad)))
    rw [rf_1 h4, rf_1 x1]
    refine va_astq hx hb hK hS.2.2.2.2.1 hS.2.2.2.2.2.1 hS.2.2.2.2.2.2 (a - 1) 3 (x - 1) 4 hw rfl hv rfl (z_in h6 h2) hd fun H1 locs1 hP hD hS1 => ?_
    rw [z_idx h6] at hP hD
    refine KN_m K hS hcs h h7 h4 h5 rfl (MI_wR hS.2.2.2.1 h5 x2) (fun a ha => en_wR ha) ?_ hP hD hS1
    rw [en_4 (M := wR M a i.toNat x) h3]
    have e : (fun b => rf ad ((wR M a i.toNat x).2.1 a b)) = va_up (fun b => rf ad (M.2.1 a b)) i.toNat (some (ad x)) := by
      funext b
      show rf ad (u2 M.2.1 a i.toNat x a b) = _
      unfold va_up
      rw [u2_at]
      split
      · cases x with
        | zero => omega
        | succ x => rfl
      · rfl
    rw [e]
    rfl
  · exact h.elim
theorem r_alen (hx : p.tables.exec = Jvm.exec) (hb : c.code = cc) (hd : decode cc pc = .ok (.arraylength, 1)) (hS : SP D T b0 L xs n s ad ls st M LS H locs) (hcs : cs.1 ≤ bd.1 ∧ cs.2 ≤ bd.2) (ht : t = 1 ∨ t = 2)
    (h : p1R st (fun a r => chk (Nat.beq (M.1 a).1 t) (kn ls (.inl ((M.1 a).2 : Nat) :: r) M cs))) (K : KN p l e R s m args below meth c Q D T b0 L xs n ad M (pc + 1) bd kn) (hK : va_K D vwCl (tyl T) s) :
    W p l e R s m args below meth c H locs cs.1 cs.2 Q (F0 m pc LS (st.map (cf ad))) := by
  unfold p1R at h
  split at h
  · rename_i a r
    obtain ⟨h1, h⟩ := chk_e h
    obtain ⟨h3, h4, h5⟩ := beq_1 hS.2.2.2.1 h1 (by omega)
    obtain ⟨-, h7⟩ := fa1 hS.2.2.1
    have hw := wl_get (T := T) (ad := ad) h4 h5
    have hl := hS.2.2.2.1.2.2.2.2.1 a
    show W p l e R s m args below meth c H locs cs.1 cs.2 Q (F0 m pc LS (va_rf (rf ad a) :: r.map (cf ad)))
    rw [rf_1 h4]
    have hk := KN_t K hS hcs h (fa2 (show inR ((M.1 a).2 : Nat) from ⟨by omega, by omega⟩) h7)
    rcases ht with ht | ht
    · subst ht
      rw [en_1 h3] at hw
      exact va_alen hx hb hK hS.2.2.2.2.1 (a - 1) 0 hw (ty := .int) rfl (z_nat _) hd hk
    · subst ht
      rw [en_2 h3] at hw
      exact va_alen hx hb hK hS.2.2.2.2.1 (a - 1) 1 hw (ty := .long) rfl (z_nat _) hd hk
  · exact h.elim
/-- the script -/
theorem r_sld (hx : p.tables.exec = Jvm.exec) (hb : c.code = cc) (hd : decode cc pc = .ok (.iaload, 1)) (hS : SP D T b0 L xs n s ad ls st M LS H locs) (hcs : cs.1 ≤ bd.1 ∧ cs.2 ≤ bd.2)
    (h : pIR st (fun a i r => chk (Nat.beq (M.1 a).1 6) (chk (ib i (M.2.2.1 a 0)) (kn ls (.inl (gI M a i.toNat) :: r) M cs)))) (K : KN p l e R s m args below meth c Q D T b0 L xs n ad M (pc + 1) bd kn) (hX : va_X (ad 1000000) L xs s s.heap) (hbl : ad 1000000 < s.heap.size) (hb0 : ad 1000000 < b0) :
    W p l e R s m args below meth c H locs cs.1 cs.2 Q (F0 m pc LS (st.map (cf ad))) := by
  unfold pIR at h
  split at h
  · rename_i i a r
    obtain ⟨h1, h⟩ := chk_e h
    obtain ⟨h2, h⟩ := chk_e h
    obtain ⟨h6, h70⟩ := fa1 hS.2.2.1
    obtain ⟨-, h7⟩ := fa1 h70
    have ha := hS.2.2.2.1.2.2.2.2.2.2.2.2.2.1 a (Nat.eq_of_beq_eq_true h1)
    subst ha
    have h8 := hS.2.2.2.1.2.2.2.2.2.2.2.1
    have h9 := hS.2.2.2.1.2.2.2.2.2.2.2.2.1
    rw [h8] at h2
    show W p l e R s m args below meth c H locs cs.1 cs.2 Q (F0 m pc LS (.int (Int32.ofInt i) :: .ref (ad 1000000) :: r.map (cf ad)))
    refine va_sld hx hb hX hbl (fun q => by unfold AA at q; omega) hS.2.2.2.2.2.2 (z_in h6 h2) hd ?_
    rw [z_idx h6]
    have hi : i.toNat < L := by unfold ib at h2; simp only [Bool.and_eq_true, decide_eq_true_eq] at h2; omega
    have e : Value.int (xs i.toNat) = cf ad (.inl (gI M 1000000 i.toNat)) := by
      rw [h9 _ hi]
      show _ = Value.int (Int32.ofInt _)
      rw [ofInt_toInt]
    rw [e]
    exact KN_t K hS hcs h (fa2 (hS.2.2.2.1.1 _ _) h7)
  · exact h.elim
theorem r_slen (hx : p.tables.exec = Jvm.exec) (hb : c.code = cc) (hd : decode cc pc = .ok (.arraylength, 1)) (hS : SP D T b0 L xs n s ad ls st M LS H locs) (hcs : cs.1 ≤ bd.1 ∧ cs.2 ≤ bd.2)
    (h : p1R st (fun a r => chk (Nat.beq (M.1 a).1 6) (kn ls (.inl (M.2.2.1 a 0 : Nat) :: r) M cs))) (K : KN p l e R s m args below meth c Q D T b0 L xs n ad M (pc + 1) bd kn) (hX : va_X (ad 1000000) L xs s s.heap) (hbl : ad 1000000 < s.heap.size) (hb0 : ad 1000000 < b0) (hL : L ≤ 3072) :
    W p l e R s m args below meth c H locs cs.1 cs.2 Q (F0 m pc LS (st.map (cf ad))) := by
  unfold p1R at h
  split at h
  · rename_i a r
    obtain ⟨h1, h⟩ := chk_e h
    obtain ⟨-, h7⟩ := fa1 hS.2.2.1
    have ha := hS.2.2.2.1.2.2.2.2.2.2.2.2.2.1 a (Nat.eq_of_beq_eq_true h1)
    subst ha
    have h8 := hS.2.2.2.1.2.2.2.2.2.2.2.1
    rw [h8] at h
    show W p l e R s m args below meth c H locs cs.1 cs.2 Q (F0 m pc LS (.ref (ad 1000000) :: r.map (cf ad)))
    refine va_slen hx hb hX hbl (fun q => by unfold AA at q; omega) hS.2.2.2.2.2.2 hd ?_
    rw [z_nat]
    exact KN_t K hS hcs h (fa2 (show inR ((L : Nat) : Int) from ⟨by omega, by omega⟩) h7)
  · exact h.elim
/-- constants -/
theorem r_ldcI {v : Int} (hx : p.tables.exec = Jvm.exec) (hb : c.code = cc) (hd : decode cc pc = .ok (.ldc idx, 2)) (hS : SP D T b0 L xs n s ad ls st M LS H locs) (hcs : cs.1 ≤ bd.1 ∧ cs.2 ≤ bd.2) (h : kn ls (.inl v :: st) M cs) (K : KN p l e R s m args below meth c Q D T b0 L xs n ad M (pc + 2) bd kn)
    (hown : s.vm.findClass own = some m.cls) (hc : (Cond.constant own idx (Int32.ofInt v)).before args s = true) (hv : inR v) : W p l e R s m args below meth c H locs cs.1 cs.2 Q (F0 m pc LS (st.map (cf ad))) :=
  lv_ldc hx hb hown hc hd (KN_t K hS hcs h (fa2 hv hS.2.2.1))
theorem r_ldcwI {v : Int} (hx : p.tables.exec = Jvm.exec) (hb : c.code = cc) (hd : decode cc pc = .ok (.ldc_w idx, 3)) (hS : SP D T b0 L xs n s ad ls st M LS H locs) (hcs : cs.1 ≤ bd.1 ∧ cs.2 ≤ bd.2) (h : kn ls (.inl v :: st) M cs) (K : KN p l e R s m args below meth c Q D T b0 L xs n ad M (pc + 3) bd kn)
    (hown : s.vm.findClass own = some m.cls) (hc : (Cond.constant own idx (Int32.ofInt v)).before args s = true) (hv : inR v) : W p l e R s m args below meth c H locs cs.1 cs.2 Q (F0 m pc LS (st.map (cf ad))) :=
  lv_ldcw hx hb hown hc hd (KN_t K hS hcs h (fa2 hv hS.2.2.1))
theorem r_ldc2 (hx : p.tables.exec = Jvm.exec) (hb : c.code = cc) (hd : decode cc pc = .ok (.ldc2_w idx, 3)) (hS : SP D T b0 L xs n s ad ls st M LS H locs) (hcs : cs.1 ≤ bd.1 ∧ cs.2 ≤ bd.2) (h : kn ls (.inr (.inl 16) :: st) M cs) (K : KN p l e R s m args below meth c Q D T b0 L xs n ad M (pc + 3) bd kn)
    (hown : s.vm.findClass own = some m.cls) (hc : (Cond.constantLong own idx 16).before args s = true) : W p l e R s m args below meth c H locs cs.1 cs.2 Q (F0 m pc LS (st.map (cf ad))) :=
  lv_ldc2 hx hb hown hc hd (KN_t K hS hcs h (fa2 (show inL 16 from ⟨by omega, by omega⟩) hS.2.2.1))
theorem r_ldcS {a : Nat} {tx : String} (hx : p.tables.exec = Jvm.exec) (hb : c.code = cc) (hd : decode cc pc = .ok (.ldc idx, 2)) (hS : SP D T b0 L xs n s ad ls st M LS H locs) (hcs : cs.1 ≤ bd.1 ∧ cs.2 ≤ bd.2) (h : kn ls (.inr (.inr (.inl a)) :: st) M cs) (K : KN p l e R s m args below meth c Q D T b0 L xs n ad M (pc + 2) bd kn)
    (hown : s.vm.findClass own = some m.cls) (hZ : vk_R own idx tx (ad a) s) (ha : 1000000 ≤ a) : W p l e R s m args below meth c H locs cs.1 cs.2 Q (F0 m pc LS (st.map (cf ad))) := by
  refine va_ldcS hx hb hown hZ hd ?_
  rw [← rf_1 (ad := ad) (o := a) (by omega)]
  exact KN_t K hS hcs h (fa2 (Or.inr ha) hS.2.2.1)
/-- switches -/
theorem swT_at {x : Int} {k : Nat → Prop} {dflt : Nat} : ∀ (ts : List Nat) (lo : Int), swT x k dflt lo ts → (∃ (i t : Nat), ts[i]? = some t ∧ x = lo + (i : Int) ∧ k t) ∨ ((x < lo ∨ lo + (ts.length : Int) ≤ x) ∧ k dflt) := by
  intro ts
  induction ts with
  | nil =>
    intro lo h
    have h : k dflt := h
    right
    refine ⟨?_, h⟩
    simp only [List.length_nil]
    omega
  | cons t ts ih =>
    intro lo h
    by_cases hx : x = lo
    · left
      exact ⟨0, t, rfl, by omega, cnd_t h hx⟩
    · rcases ih (lo + 1) (cnd_f h hx) with ⟨i, t', h1, h2, h3⟩ | ⟨h1, h2⟩
      · left
        exact ⟨i + 1, t', h1, by omega, h3⟩
      · right
        refine ⟨?_, h2⟩
        simp only [List.length_cons]
        omega
theorem r_tsw {df lo hi : Int} {offs : Array Int} {len dt : Nat} {ts : List Nat} (hx : p.tables.exec = Jvm.exec) (hb : c.code = cc) (hd : decode cc pc = .ok (.tableswitch df lo hi offs, len)) (hS : SP D T b0 L xs n s ad ls st M LS H locs)
    (h : p1I st (fun a r => swT a (fun t => kj t r) dt lo ts)) (J : KJ p l e R s m args below meth c Q D T b0 L xs n ad ls M LS H locs cs kj)
    (hdt : (pc : Int) + df = (dt : Int)) (hhi : lo + (ts.length : Int) = hi + 1) (hts : ∀ (i t : Nat), ts[i]? = some t → ∃ o, offs[i]? = some o ∧ (pc : Int) + o = (t : Int)) :
    W p l e R s m args below meth c H locs cs.1 cs.2 Q (F0 m pc LS (st.map (cf ad))) := by
  unfold p1I at h
  split at h
  · rename_i a r
    obtain ⟨h1, h2⟩ := fa1 hS.2.2.1
    have ea : (Int32.ofInt a).toInt = a := toInt_ofInt h1
    rcases swT_at ts lo h with ⟨i, t, g1, g2, g3⟩ | ⟨g1, g2⟩
    · obtain ⟨o, o1, o2⟩ := hts i t g1
      have hl := (List.getElem?_eq_some_iff.mp g1).1
      exact lv_tableIn hx hb hd (by rw [ea]; omega) (by rw [ea]; omega) (off := o) (by rw [ea, show (a - lo).toNat = i by omega]; exact o1) o2 (J t _ g3 (SP_fs hS h2))
    · exact lv_tableOut hx hb hd (by rw [ea]; omega) hdt (J dt _ g2 (SP_fs hS h2))
  · exact h.elim
end RA
