/-! ===== the other calls ===== -/
section RY
variable {p : Program} {l : Launch} {e : Env} {R : Room} {s : State} {m : MethodId} {args : Array Value} {below : List Frame} {meth : Method} {c : Code} {Q : State → Prop}
variable {D : va_G} {T : T4} {b0 L : Nat} {xs : Nat → Int32} {adV : Nat → Nat}
theorem gd_cwX {y : Nat} {h0 : Nat × Nat × Nat × Nat} {ht : List (Nat × Nat × Nat × Nat)} (hh : hht y = h0 :: ht) : cw y = .codeWith (yn y) (byt y) (mxl y) (rtt y) (h0 :: ht) := by unfold cw; rw [hh]
theorem b_stat {f d j pc y k idx tk to : Nat} {ops : List Op} {M M0 : Mm} {cs : Nat × Nat} {ad ad0 : Nat → Nat} {ls st : List Vl} {LS : Array Slot} {H : Heap} {locs : List Loc} {Q' : Rs → Mm → Prop} (hT : TOK) (hB : BODY l D T b0 L xs adV f) (hI : ICT l D T b0 L xs adV f) (hC : CX p R s m args meth c D T b0 L xs adV d j ad0) (hF : KF p l e R s m args below meth c Q D T b0 L xs j ad0 M0 Q')
    (hok : okL j (pc + 3) ops = true) (hd : decode (byt j) pc = .ok (.invokestatic idx, 3)) (hx : EX ad0 M0 ad M) (hS : SP D T b0 L xs (mxl j) s ad ls st M LS H locs)
    (hck : (cB j y k && stY y && wB tk to (.methodLink (yn j).cls idx (yn y))) = true)
    (h : chk (catOK (st.drop k) && Nat.ble k st.length) (chk (lq (cs.1 + (mcOf y).1) (mcOf j).1 (cs.2 + (mcOf y).2) (mcOf j).2 && Nat.ble (spr (st.take k).reverse).length (mxl y)) (1 ≤ d ∧ wp f (d - 1) y 0 (cod y 0).2 (spr (st.take k).reverse) [] M (0, 0) (CONT f d j pc ops ls (st.drop k) cs y Q')))) :
    W p l e R s m args below meth c H locs cs.1 cs.2 Q (F0 m pc LS (st.map (cf ad))) := by
  obtain ⟨hx0, hb, hml, hown, hts, hE, hlock, hret, hinit, hexc, hRc, hRs, hRf, hRl, hj⟩ := id hC
  obtain ⟨hck, k6⟩ := an2 hck
  obtain ⟨k2, k3⟩ := an2 hck
  unfold cB at k2
  obtain ⟨k2, c3⟩ := an2 k2
  obtain ⟨c1, c2⟩ := an2 k2
  have hy1 : y < NMETH := ble_le c1
  have hy2 : y ≠ LAWM := fun q => by rw [q] at c2; simp at c2
  obtain ⟨m1, m2, m3, m4, m5, m6, m7, m8⟩ := m_ok hT hy1 hy2
  obtain ⟨q1, h⟩ := chk_e h
  obtain ⟨q1, q0⟩ := an2 q1
  obtain ⟨q3, h⟩ := chk_e h
  obtain ⟨hd1, hw⟩ := h
  have hlen : (st.take k).reverse.length = k := by
    rw [List.length_reverse, List.length_take]
    have := ble_le q0
    omega
  have hst : st = (st.take k).reverse.reverse ++ st.drop k := by rw [List.reverse_reverse, List.take_append_drop]
  obtain ⟨t1, t2⟩ := take_rg (k := k) hS.2.2.1
  obtain ⟨q3, q9⟩ := an2 q3
  unfold lq at q3
  obtain ⟨q3, q4⟩ := an2 q3
  have hct := hI (d - 1) y _ M _ hy1 hy2 (ble_le q9) hw
  have hlk := wB_in k6
  have hRa : d - 1 + 31 ≤ R.frames := by omega
  have hRb : 19 + mxl y + (40 * (d - 1) + 1200) ≤ R.locals := room_le hd1 hRl m8
  have hms := m2 k3
  cases hh : hht y with
  | nil =>
    rw [gd_cw hh] at m1
    have run := w_stat (e := e) (below := below) (meth := meth) (idx := idx) (own := (yn j).cls) (r := st.drop k) hx0 hb hml hd (EV_ad hE hx) hS hct hh hown hts t1 q1
      (gin fun w hw9 => by
        simp only [va_wsS, List.mem_append, List.mem_cons, List.not_mem_nil, or_false] at hw9
        rcases hw9 with (rfl | rfl | rfl) | rfl
        · exact ⟨hlk, TS_gw hlk⟩
        · exact ⟨hms, TS_gw hms⟩
        · exact ⟨m4, TS_gw m4⟩
        · exact ⟨m1, TS_gw m1⟩)
      ⟨m6, m7, by rw [hlen]; exact dec_e c3⟩ ⟨hRa, hRb⟩ ⟨by rw [hRc]; exact ble_le q3, by rw [hRs]; exact ble_le q4⟩
    have := b_after hT hB hC hF hok hx hS t2 ⟨ble_le q3, ble_le q4⟩ run
    rw [← List.map_append, ← hst] at this
    exact this
  | cons h0 ht =>
    rw [gd_cwX hh] at m1
    have run := w_statX (e := e) (below := below) (meth := meth) (idx := idx) (own := (yn j).cls) (r := st.drop k) hx0 hb hml hd (EV_ad hE hx) hS hct hh hown hts t1 q1
      (gin fun w hw9 => by
        simp only [va_wsS, List.mem_append, List.mem_cons, List.not_mem_nil, or_false] at hw9
        rcases hw9 with (rfl | rfl | rfl) | rfl
        · exact ⟨hlk, TS_gw hlk⟩
        · exact ⟨hms, TS_gw hms⟩
        · exact ⟨m4, TS_gw m4⟩
        · exact ⟨m1, TS_gw m1⟩)
      ⟨m6, m7, by rw [hlen]; exact dec_e c3⟩ ⟨hRa, hRb⟩ ⟨by rw [hRc]; exact ble_le q3, by rw [hRs]; exact ble_le q4⟩
    have := b_after hT hB hC hF hok hx hS t2 ⟨ble_le q3, ble_le q4⟩ run
    rw [← List.map_append, ← hst] at this
    exact this
theorem b_spec {f d j pc y k ci idx tk to : Nat} {ops : List Op} {M M0 : Mm} {cs : Nat × Nat} {ad ad0 : Nat → Nat} {ls st : List Vl} {LS : Array Slot} {H : Heap} {locs : List Loc} {Q' : Rs → Mm → Prop} (nest : Bool) (hT : TOK) (hB : BODY l D T b0 L xs adV f) (hI : ICT l D T b0 L xs adV f) (hC : CX p R s m args meth c D T b0 L xs adV d j ad0) (hF : KF p l e R s m args below meth c Q D T b0 L xs j ad0 M0 Q')
    (hok : okL j (pc + 3) ops = true) (hd : decode (byt j) pc = .ok (.invokespecial idx, 3)) (hx : EX ad0 M0 ad M) (hS : SP D T b0 L xs (mxl j) s ad ls st M LS H locs)
    (hck : (Nat.ble 1 k && cB j y (k - 1) && !stY y && decide (rtt y = none) && decide ((yn y).name = "<init>") && Nat.ble (ci + 1) 12 && wB tk to (match nest with | true => .methodLinkNest (yn j).cls idx (yn y) "GlassLeaders" | false => .methodLink (yn j).cls idx (yn y))) = true) (hhn : hht y = [])
    (h : exV y k ci st M (fun y as r => chk (lq (cs.1 + (mcOf y).1) (mcOf j).1 (cs.2 + (mcOf y).2) (mcOf j).2 && Nat.ble (spr as).length (mxl y)) (1 ≤ d ∧ wp f (d - 1) y 0 (cod y 0).2 (spr as) [] M (0, 0) (CONT f d j pc ops ls r cs y Q')))) :
    W p l e R s m args below meth c H locs cs.1 cs.2 Q (F0 m pc LS (st.map (cf ad))) := by
  obtain ⟨hx0, hb, hml, hown, hts, hE, hlock, hret, hinit, hexc, hRc, hRs, hRf, hRl, hj⟩ := id hC
  obtain ⟨hck, k6⟩ := an2 hck
  obtain ⟨hck, k5⟩ := an2 hck
  obtain ⟨hck, k4⟩ := an2 hck
  obtain ⟨hck, k8⟩ := an2 hck
  obtain ⟨hck, k3⟩ := an2 hck
  obtain ⟨k1, k2⟩ := an2 hck
  unfold cB at k2
  obtain ⟨k2, c3⟩ := an2 k2
  obtain ⟨c1, c2⟩ := an2 k2
  have hy1 : y < NMETH := ble_le c1
  have hy2 : y ≠ LAWM := fun q => by rw [q] at c2; simp at c2
  obtain ⟨m1, m2, m3, m4, m5, m6, m7, m8⟩ := m_ok hT hy1 hy2
  have k4 := dec_e k4
  have k8 := dec_e k8
  unfold exV at h
  split at h
  · rename_i o as hrev
    obtain ⟨q1, h⟩ := chk_e h
    obtain ⟨q1, q0⟩ := an2 q1
    obtain ⟨q2, h⟩ := chk_e h
    obtain ⟨q3, h⟩ := chk_e h
    obtain ⟨hd1, hw⟩ := h
    have hlen : as.length = k - 1 := by
      have e1 := congrArg List.length hrev
      simp only [List.length_reverse, List.length_take, List.length_cons] at e1
      have := ble_le q0
      omega
    have hst : st = as.reverse ++ .inr (.inr (.inl o)) :: st.drop k := by
      have e1 : st.take k = as.reverse ++ [.inr (.inr (.inl o))] := by
        rw [← List.reverse_reverse (st.take k), hrev, List.reverse_cons]
      calc st = st.take k ++ st.drop k := (List.take_append_drop k st).symm
        _ = _ := by rw [e1, List.append_assoc]; rfl
    obtain ⟨t1, t2⟩ := take_rg (k := k) hS.2.2.1
    rw [hrev] at t1
    obtain ⟨q3, q9⟩ := an2 q3
    unfold lq at q3
    obtain ⟨q3, q4⟩ := an2 q3
    have hct := hI (d - 1) y _ M _ hy1 hy2 (ble_le q9) hw
    rw [gd_cw hhn, k8] at m1
    have hlk := wB_in k6
    have hRa : d - 1 + 31 ≤ R.frames := by omega
    have hRb : 19 + mxl y + (40 * (d - 1) + 1200) ≤ R.locals := room_le hd1 hRl m8
    have hg : GoodIn TS [.code (yn y) (byt y) (mxl y) none] := gin fun w hw9 => by
      rw [List.mem_singleton] at hw9
      subst hw9
      exact ⟨m1, TS_gw m1⟩
    have run : vx_Run p l e R s m args below meth c H locs cs.1 cs.2 (mcOf y).1 (mcOf y).2 (F0 m pc LS (as.reverse.map (cf ad) ++ va_rf (rf ad o) :: (st.drop k).map (cf ad))) ((st.drop k).map (cf ad)) (QR D T b0 L xs ad M (CONT f d j pc ops ls (st.drop k) cs y Q') (Value.ref (ad o) :: as.map (cf ad)).toArray) (QX D T b0 L xs ad M (CONT f d j pc ops ls (st.drop k) cs y Q')) (AA b0) := by
      cases nest
      · exact w_spec (e := e) (below := below) (meth := meth) (idx := idx) (own := (yn j).cls) (r := st.drop k) hx0 hb hml hd (EV_ad hE hx) hS hct hhn hown hts t1 q1 q2 k8 hg m4 hlk (m3 (not_e k3)) k4 ⟨m6, m7, by rw [hlen]; exact dec_e c3⟩ ⟨hRa, hRb⟩ ⟨by rw [hRc]; exact ble_le q3, by rw [hRs]; exact ble_le q4⟩
      · exact w_specN (e := e) (below := below) (meth := meth) (idx := idx) (own := (yn j).cls) (r := st.drop k) hx0 hb hml hd (EV_ad hE hx) hS hct hhn hown hts t1 q1 q2 k8 hg m4 hlk (m3 (not_e k3)) k4 ⟨m6, m7, by rw [hlen]; exact dec_e c3⟩ ⟨hRa, hRb⟩ ⟨by rw [hRc]; exact ble_le q3, by rw [hRs]; exact ble_le q4⟩
    have := b_after hT hB hC hF hok hx hS t2 ⟨ble_le q3, ble_le q4⟩ run
    rw [hst, List.map_append, List.map_cons]
    exact this
  · exact h.elim
/-- String.length of a constant -/
theorem b_s5 {d j pc idx tk to : Nat} {M : Mm} {cs : Nat × Nat} {ad ad0 : Nat → Nat} {M0 : Mm} {ls st : List Vl} {LS : Array Slot} {H : Heap} {locs : List Loc} {kn : List Vl → List Vl → Mm → Nat × Nat → Prop} (hT : TOK) (h5 : S5 l D T b0 L xs adV) (hC : CX p R s m args meth c D T b0 L xs adV d j ad0)
    (hd : decode (byt j) pc = .ok (.invokevirtual idx, 3)) (hx : EX ad0 M0 ad M) (hS : SP D T b0 L xs (mxl j) s ad ls st M LS H locs) (hcs : cs.1 ≤ (mcOf j).1 ∧ cs.2 ≤ (mcOf j).2)
    (hck : wB tk to (.methodLink (yn j).cls idx yJ0_length_8abf5) = true) (K : KN p l e R s m args below meth c Q D T b0 L xs (mxl j) ad M (pc + 3) (mcOf j) kn)
    (h : p1R st (fun a r => chk (catOK r) (chk (Nat.beq (M.1 a).1 7) (kn ls (.inl ((M.1 a).2 : Nat) :: r) M cs)))) :
    W p l e R s m args below meth c H locs cs.1 cs.2 Q (F0 m pc LS (st.map (cf ad))) := by
  obtain ⟨hx0, hb, hml, hown, hts, hE, hlock, hret, hinit, hexc, hRc, hRs, hRf, hRl, hj⟩ := id hC
  have hEa := EV_ad hE hx
  have hlk := wB_in hck
  unfold p1R at h
  split at h
  · rename_i a r
    obtain ⟨q1, h⟩ := chk_e h
    obtain ⟨q2, h⟩ := chk_e h
    obtain ⟨-, t2⟩ := fa1 hS.2.2.1
    obtain ⟨t, t3, rfl, t4⟩ := hS.2.2.2.1.2.2.2.2.2.2.2.2.2.2.1 a (Nat.eq_of_beq_eq_true q2)
    rw [t4] at h
    obtain ⟨vs, -⟩ := hEa.2.2.2.2.2.2.2.1
    obtain ⟨vo, -⟩ := SE_1 vs t t3
    have hwd := hT.2.2.2.2.2.2.2.2.2.2.2.2.2.2.1
    have run : vx_Run p l e R s m args below meth c H locs cs.1 cs.2 0 0 (F0 m pc LS (([] : List Value).reverse ++ .ref (ad (2000000 + t)) :: r.map (cf ad))) (r.map (cf ad)) (QR D T b0 L xs ad M (fun o M' => o = .inl (some (.inl (strL t : Nat))) ∧ M' = M) (Value.ref (ad (2000000 + t)) :: []).toArray) (QX D T b0 L xs ad M (fun o M' => o = .inl (some (.inl (strL t : Nat))) ∧ M' = M)) (AA b0) :=
      vx_runV (As := []) (n := 0) (nL := mxl j) (own := (yn j).cls) (C := "java/lang/String") (Ts := TS) (bytes := cJ0_length_8abf5) (maxL := 1) (ret := some .int) (index := idx) (rest := r.map (cf ad)) ⟨hx0, hb, hml, hown, hts⟩ (h5 ad M t t3)
        (cwV 0 hts (gin fun w hw9 => by
          simp only [wsV, List.mem_append, List.mem_cons, List.not_mem_nil, or_false] at hw9
          rcases hw9 with (rfl | rfl | rfl | rfl) | rfl
          · exact ⟨hlk, TS_gw hlk⟩
          all_goals exact hwd _ (by simp)) rfl rfl rfl ⟨rfl, by decide +kernel, by decide +kernel, by decide +kernel⟩ ⟨by show 20 + 1 ≤ _; omega, by show 8 + (1 + 11) + 800 ≤ _; omega⟩)
        ⟨PS_blind, vk_recv (i := 0) (vs t t3) Nat.one_pos hS.2.2.2.2.2.2, fun U hU hW => ⟨rfl, SP_PS hEa hS hU hW⟩⟩ rfl rfl hS.1.1 rfl (by show 2 * 0 + _ ≤ 8; have := catsum (ad := ad) q1; omega) hd ⟨by omega, by omega⟩
    have e1 : va_rf (rf ad (2000000 + t)) = .ref (ad (2000000 + t)) := rf_1 (by omega)
    show W p l e R s m args below meth c H locs cs.1 cs.2 Q (F0 m pc LS (va_rf (rf ad (2000000 + t)) :: r.map (cf ad)))
    rw [e1]
    refine r_call (mc := 0) (ms := 0) (Q' := fun o M' => o = .inl (some (.inl (strL t : Nat))) ∧ M' = M) (rest := r) run hS t2 (fun v M' ad' H1 locs1 hq ex hs => ?_) (fun x M' ad' H1 locs1 ce q9 hq hx4 ex hs hce hcv hcl => absurd hq.1 (by simp))
    obtain ⟨hq1, rfl⟩ := hq
    injection hq1 with hq1
    subst hq1
    exact K ad' ls _ M' cs LS H1 locs1 ex h hs hcs
  · exact h.elim
theorem b_s6 {d j pc idx tk to : Nat} {M : Mm} {cs : Nat × Nat} {ad ad0 : Nat → Nat} {M0 : Mm} {ls st : List Vl} {LS : Array Slot} {H : Heap} {locs : List Loc} {kn : List Vl → List Vl → Mm → Nat × Nat → Prop} (hT : TOK) (h6 : S6 l D T b0 L xs adV) (hC : CX p R s m args meth c D T b0 L xs adV d j ad0)
    (hd : decode (byt j) pc = .ok (.invokevirtual idx, 3)) (hx : EX ad0 M0 ad M) (hS : SP D T b0 L xs (mxl j) s ad ls st M LS H locs) (hcs : cs.1 ≤ (mcOf j).1 ∧ cs.2 ≤ (mcOf j).2)
    (hck : wB tk to (.methodLink (yn j).cls idx yJ0_charAt_5068e) = true) (K : KN p l e R s m args below meth c Q D T b0 L xs (mxl j) ad M (pc + 3) (mcOf j) kn)
    (h : pIR st (fun a i r => chk (catOK r) (chk (Nat.beq (M.1 a).1 7) (chk (ib i (M.1 a).2) (kn ls (.inl (gI M a i.toNat) :: r) M cs))))) :
    W p l e R s m args below meth c H locs cs.1 cs.2 Q (F0 m pc LS (st.map (cf ad))) := by
  obtain ⟨hx0, hb, hml, hown, hts, hE, hlock, hret, hinit, hexc, hRc, hRs, hRf, hRl, hj⟩ := id hC
  have hEa := EV_ad hE hx
  have hlk := wB_in hck
  unfold pIR at h
  split at h
  · rename_i i a r
    obtain ⟨q1, h⟩ := chk_e h
    obtain ⟨q2, h⟩ := chk_e h
    obtain ⟨q3, h⟩ := chk_e h
    obtain ⟨t1, t20⟩ := fa1 hS.2.2.1
    obtain ⟨-, t2⟩ := fa1 t20
    obtain ⟨t, t3, rfl, t4⟩ := hS.2.2.2.1.2.2.2.2.2.2.2.2.2.2.1 a (Nat.eq_of_beq_eq_true q2)
    rw [t4] at q3
    unfold ib at q3
    obtain ⟨i1, i2⟩ := an2 q3
    have i1 := dec_e i1
    have i2 := dec_e i2
    obtain ⟨k, rfl⟩ : ∃ k : Nat, i = (k : Int) := ⟨i.toNat, by omega⟩
    have ik : k < strL t := by omega
    have ec : gI M (2000000 + t) ((k : Int)).toNat = strC t k := hS.2.2.2.1.2.2.2.2.2.2.2.2.2.2.2 t k t3 ik
    rw [ec] at h
    obtain ⟨vs, -⟩ := hEa.2.2.2.2.2.2.2.1
    have hwd := hT.2.2.2.2.2.2.2.2.2.2.2.2.2.2.2.1
    have run : vx_Run p l e R s m args below meth c H locs cs.1 cs.2 0 0 (F0 m pc LS (([.int (Int32.ofInt k)] : List Value).reverse ++ .ref (ad (2000000 + t)) :: r.map (cf ad))) (r.map (cf ad)) (QR D T b0 L xs ad M (fun o M' => o = .inl (some (.inl (strC t k))) ∧ M' = M) (Value.ref (ad (2000000 + t)) :: [.int (Int32.ofInt k)]).toArray) (QX D T b0 L xs ad M (fun o M' => o = .inl (some (.inl (strC t k))) ∧ M' = M)) (AA b0) :=
      vx_runV (As := [.int (Int32.ofInt k)]) (n := 1) (nL := mxl j) (own := (yn j).cls) (C := "java/lang/String") (Ts := TS) (bytes := cJ0_charAt_5068e) (maxL := 2) (ret := some .char) (index := idx) (rest := r.map (cf ad)) ⟨hx0, hb, hml, hown, hts⟩ (h6 ad M t k t3 ik)
        (cwV 1 hts (gin fun w hw9 => by
          simp only [wsV, List.mem_append, List.mem_cons, List.not_mem_nil, or_false] at hw9
          rcases hw9 with (rfl | rfl | rfl | rfl) | rfl
          · exact ⟨hlk, TS_gw hlk⟩
          all_goals exact hwd _ (by simp)) rfl rfl rfl ⟨rfl, by decide +kernel, by decide +kernel, by decide +kernel⟩ ⟨by show 20 + 1 ≤ _; omega, by show 8 + (2 + 11) + 800 ≤ _; omega⟩)
        ⟨PS_blind, vk_recv (i := 0) (vs t t3) Nat.one_pos hS.2.2.2.2.2.2, fun U hU hW => ⟨rfl, SP_PS hEa hS hU hW⟩⟩ rfl rfl hS.1.1 rfl (by show 2 * 0 + _ ≤ 8; have := catsum (ad := ad) q1; omega) hd ⟨by omega, by omega⟩
    have e1 : va_rf (rf ad (2000000 + t)) = .ref (ad (2000000 + t)) := rf_1 (by omega)
    show W p l e R s m args below meth c H locs cs.1 cs.2 Q (F0 m pc LS (.int (Int32.ofInt k) :: va_rf (rf ad (2000000 + t)) :: r.map (cf ad)))
    rw [e1]
    refine r_call (mc := 0) (ms := 0) (Q' := fun o M' => o = .inl (some (.inl (strC t k))) ∧ M' = M) (rest := r) run hS t2 (fun v M' ad' H1 locs1 hq ex hs => ?_) (fun x M' ad' H1 locs1 ce q9 hq hx4 ex hs hce hcv hcl => absurd hq.1 (by simp))
    obtain ⟨hq1, rfl⟩ := hq
    injection hq1 with hq1
    subst hq1
    exact K ad' ls _ M' cs LS H1 locs1 ex h hs hcs
  · exact h.elim
end RY
