/-! ===== String.length and String.charAt on the constants ===== -/
theorem sc_coder : Cond.code yJ0_coder_7d493 cJ0_coder_7d493 1 (some .byte) ∈ TS := (TS_in (k := 3) (o := 193) (by decide +kernel) (by decide +kernel))
theorem ss_coder : Cond.instanceMethod yJ0_coder_7d493 ∈ TS := (TS_in (k := 3) (o := 191) (by decide +kernel) (by decide +kernel))
theorem se_coder : Cond.selects "java/lang/String" yJ0_coder_7d493 yJ0_coder_7d493 ∈ TS := (TS_in (k := 3) (o := 192) (by decide +kernel) (by decide +kernel))
theorem sc_length : Cond.code yJ0_length_8abf5 cJ0_length_8abf5 1 (some .int) ∈ TS := (TS_in (k := 3) (o := 189) (by decide +kernel) (by decide +kernel))
theorem ss_length : Cond.instanceMethod yJ0_length_8abf5 ∈ TS := (TS_in (k := 3) (o := 187) (by decide +kernel) (by decide +kernel))
theorem se_length : Cond.selects "java/lang/String" yJ0_length_8abf5 yJ0_length_8abf5 ∈ TS := (TS_in (k := 3) (o := 188) (by decide +kernel) (by decide +kernel))
theorem sc_isLatin1 : Cond.code yJ0_isLatin1_aae02 cJ0_isLatin1_aae02 1 (some .boolean) ∈ TS := (TS_in (k := 3) (o := 203) (by decide +kernel) (by decide +kernel))
theorem ss_isLatin1 : Cond.instanceMethod yJ0_isLatin1_aae02 ∈ TS := (TS_in (k := 3) (o := 201) (by decide +kernel) (by decide +kernel))
theorem se_isLatin1 : Cond.selects "java/lang/String" yJ0_isLatin1_aae02 yJ0_isLatin1_aae02 ∈ TS := (TS_in (k := 3) (o := 202) (by decide +kernel) (by decide +kernel))
theorem sc_pcheck : Cond.code yJ3_checkIndex_8e157 cJ3_checkIndex_8e157 3 (some .int) ∈ TS := (TS_in (k := 3) (o := 214) (by decide +kernel) (by decide +kernel))
theorem ss_pcheck : Cond.static yJ3_checkIndex_8e157 ∈ TS := (TS_in (k := 3) (o := 213) (by decide +kernel) (by decide +kernel))
theorem sc_scheck : Cond.code yJ0_checkIndex_df160 cJ0_checkIndex_df160 2 (none) ∈ TS := (TS_in (k := 3) (o := 209) (by decide +kernel) (by decide +kernel))
theorem ss_scheck : Cond.static yJ0_checkIndex_df160 ∈ TS := (TS_in (k := 3) (o := 208) (by decide +kernel) (by decide +kernel))
theorem sc_l1char : Cond.code yJ1_charAt_3b067 cJ1_charAt_3b067 2 (some .char) ∈ TS := (TS_in (k := 3) (o := 206) (by decide +kernel) (by decide +kernel))
theorem ss_l1char : Cond.static yJ1_charAt_3b067 ∈ TS := (TS_in (k := 3) (o := 205) (by decide +kernel) (by decide +kernel))
theorem sc_char : Cond.code yJ0_charAt_5068e cJ0_charAt_5068e 2 (some .char) ∈ TS := (TS_in (k := 3) (o := 199) (by decide +kernel) (by decide +kernel))
theorem ss_char : Cond.instanceMethod yJ0_charAt_5068e ∈ TS := (TS_in (k := 3) (o := 197) (by decide +kernel) (by decide +kernel))
theorem se_char : Cond.selects "java/lang/String" yJ0_charAt_5068e yJ0_charAt_5068e ∈ TS := (TS_in (k := 3) (o := 198) (by decide +kernel) (by decide +kernel))
theorem si_S : Cond.initialized "java/lang/String" ∈ TS := (TS_in (k := 1) (o := 19) (by decide +kernel) (by decide +kernel))
theorem si_L : Cond.initialized "java/lang/StringLatin1" ∈ TS := (TS_in (k := 1) (o := 20) (by decide +kernel) (by decide +kernel))
theorem si_P : Cond.initialized "jdk/internal/util/Preconditions" ∈ TS := (TS_in (k := 1) (o := 21) (by decide +kernel) (by decide +kernel))
theorem sf_comp : Cond.fieldLink "java/lang/String" 38 "java/lang/String" "COMPACT_STRINGS" "Z" ∈ TS := (TS_in (k := 3) (o := 194) (by decide +kernel) (by decide +kernel))
theorem sf_coder : Cond.fieldLink "java/lang/String" 15 "java/lang/String" "coder" "B" ∈ TS := (TS_in (k := 10) (o := 69) (by decide +kernel) (by decide +kernel))
theorem sf_value : Cond.fieldLink "java/lang/String" 9 "java/lang/String" "value" "[B" ∈ TS := (TS_in (k := 10) (o := 68) (by decide +kernel) (by decide +kernel))
theorem sf_form : Cond.fieldLink "java/lang/String" 1053 "jdk/internal/util/Preconditions" "SIOOBE_FORMATTER" "Ljava/util/function/BiFunction;" ∈ TS := (TS_in (k := 3) (o := 210) (by decide +kernel) (by decide +kernel))
theorem sl_coder : Cond.methodLink "java/lang/String" 335 yJ0_coder_7d493 ∈ TS := (TS_in (k := 3) (o := 190) (by decide +kernel) (by decide +kernel))
theorem sl_isLatin1 : Cond.methodLink "java/lang/String" 492 yJ0_isLatin1_aae02 ∈ TS := (TS_in (k := 3) (o := 200) (by decide +kernel) (by decide +kernel))
theorem sl_l1char : Cond.methodLink "java/lang/String" 495 yJ1_charAt_3b067 ∈ TS := (TS_in (k := 3) (o := 204) (by decide +kernel) (by decide +kernel))
theorem sl_pcheck : Cond.methodLink "java/lang/String" 1059 yJ3_checkIndex_8e157 ∈ TS := (TS_in (k := 3) (o := 212) (by decide +kernel) (by decide +kernel))
theorem sl_scheck : Cond.methodLink "java/lang/StringLatin1" 9 yJ0_checkIndex_df160 ∈ TS := (TS_in (k := 3) (o := 207) (by decide +kernel) (by decide +kernel))
section RS
variable {l : Launch} {D : va_G} {T : T4} {b0 L : Nat} {xs : Nat → Int32} {adV : Nat → Nat}
def J1 (X : Int) (M : Mm) : Rs → Mm → Prop := fun o M' => o = .inl (some (.inl X)) ∧ M' = M
def J0 (M : Mm) : Rs → Mm → Prop := fun o M' => o = .inl none ∧ M' = M
theorem qj {s : State} {ad : Nat → Nat} {M : Mm} {a : Array Value} {v : Option Vl} {Q' : Rs → Mm → Prop} {n : Nat} {ls st : List Vl} {LS : Array Slot} {H : Heap} {locs : List Loc} {ad0 : Nat → Nat} {M0 : Mm} (hS : SP D T b0 L xs n s ad ls st M LS H locs) (hx : EX ad0 M0 ad M) (hq : Q' (.inl v) M) (hv : ∀ w, v = some w → rgv M w) {t0 : State} (ht : t0.heap = H) : QR D T b0 L xs ad0 M0 Q' a s (.returned (v.map (cf ad))) t0 := ret_q hS hx hq hv ht
/-- coder: 0 -/
theorem s_coder (ad : Nat → Nat) (M : Mm) (t : Nat) (ht : t < NSTR) : vx_Met l yJ0_coder_7d493 [.code yJ0_coder_7d493 cJ0_coder_7d493 1 (some .byte)] { frames := 0, cells := 0, slots := 0, locals := 0 } (va_Pc [.ref (ad (2000000 + t))] (PS D T b0 L xs adV ad M)) (QR D T b0 L xs ad M (J1 0 M)) (QX D T b0 L xs ad M (J1 0 M)) 0 0 (AA b0) := by
  refine vx_ofW (cc := cJ0_coder_7d493) (maxL := 1) (ret := some .byte) (by decide +kernel) rfl fun p e s m args below meth c s₁ B hml hno hP => ?_
  obtain ⟨rfl, hE, hM, hP, hD⟩ := hP
  have hx := B.exec
  have hb := B.bytes
  have hown : s.vm.findClass "java/lang/String" = some m.cls := findClass_of_methodNamed B.named
  have hts := TS_args (A' := ([Value.ref (ad (2000000 + t))] : List Value).toArray) rfl hE.1
  obtain ⟨vs, hz, -⟩ := hE.2.2.2.2.2.2.2.1
  obtain ⟨v0, v1, v2, v3⟩ := SE_1 vs t ht
  have hl := lv_entry ([.ref (ad (2000000 + t))]) (n := 1) (Nat.le_of_ble_eq_true rfl)
  rw [lg_entry_eq]
  generalize (lg_sl ([.ref (ad (2000000 + t))]) ++ List.replicate (1 - (lg_sl ([.ref (ad (2000000 + t))])).length) Slot.unset).toArray = LS at hl ⊢
  have hS : SP D T b0 L xs 1 s ad [] [] M LS s.heap [] := ⟨lv_mem hl (fun q hq => by simp [lvl] at hq), (fun v hv => nomatch hv), (fun v hv => nomatch hv), hM, hP, hD, va_S.rf⟩
  refine va_gets hx hb hz va_S.rf hown (hts _ sf_comp) (fun _ h => h) (by decide +kernel : decode cJ0_coder_7d493 0 = .ok (.getstatic 38, 3)) ?_
  refine lv_if_eq (tgt := 13) hx hb (by decide +kernel : decode cJ0_coder_7d493 3 = .ok (.ifCond .eq 10, 3)) (by decide) (fun h => absurd h (by decide)) (fun _ => ?_)
  refine lv_aload_n (i := 0) hx hb (by decide +kernel : decode cJ0_coder_7d493 6 = .ok (.aload_n 0, 1)) rfl (lv_at hl 0 rfl) ?_
  refine vk_getf hx hb v1 va_S.rf hown (hts _ sf_coder) (fun _ h => h) (by decide +kernel : decode cJ0_coder_7d493 7 = .ok (.getfield 15, 3)) ?_
  refine lv_goto (tgt := 14) hx hb (by decide +kernel : decode cJ0_coder_7d493 10 = .ok (.goto 4, 3)) (by decide) ?_
  exact vx_ret (W.zret hx hb B.returns (by decide) (fun t0 h0 _ => qj (v := some (.inl 0)) hS EX_rf ⟨rfl, rfl⟩ (fun w hw => by cases hw; exact ⟨by omega, by omega⟩) h0) (fun q hq => nomatch hq) (by decide +kernel : decode cJ0_coder_7d493 14 = .ok (.ireturn, 1)) B.notSynchronized)
/-- isLatin1: 1 -/
theorem s_isLatin1 (ad : Nat → Nat) (M : Mm) (t : Nat) (ht : t < NSTR) : vx_Met l yJ0_isLatin1_aae02 [.code yJ0_isLatin1_aae02 cJ0_isLatin1_aae02 1 (some .boolean)] { frames := 0, cells := 0, slots := 0, locals := 0 } (va_Pc [.ref (ad (2000000 + t))] (PS D T b0 L xs adV ad M)) (QR D T b0 L xs ad M (J1 1 M)) (QX D T b0 L xs ad M (J1 1 M)) 0 0 (AA b0) := by
  refine vx_ofW (cc := cJ0_isLatin1_aae02) (maxL := 1) (ret := some .boolean) (by decide +kernel) rfl fun p e s m args below meth c s₁ B hml hno hP => ?_
  obtain ⟨rfl, hE, hM, hP, hD⟩ := hP
  have hx := B.exec
  have hb := B.bytes
  have hown : s.vm.findClass "java/lang/String" = some m.cls := findClass_of_methodNamed B.named
  have hts := TS_args (A' := ([Value.ref (ad (2000000 + t))] : List Value).toArray) rfl hE.1
  obtain ⟨vs, hz, -⟩ := hE.2.2.2.2.2.2.2.1
  obtain ⟨v0, v1, v2, v3⟩ := SE_1 vs t ht
  have hl := lv_entry ([.ref (ad (2000000 + t))]) (n := 1) (Nat.le_of_ble_eq_true rfl)
  rw [lg_entry_eq]
  generalize (lg_sl ([.ref (ad (2000000 + t))]) ++ List.replicate (1 - (lg_sl ([.ref (ad (2000000 + t))])).length) Slot.unset).toArray = LS at hl ⊢
  have hS : SP D T b0 L xs 1 s ad [] [] M LS s.heap [] := ⟨lv_mem hl (fun q hq => by simp [lvl] at hq), (fun v hv => nomatch hv), (fun v hv => nomatch hv), hM, hP, hD, va_S.rf⟩
  refine va_gets hx hb hz va_S.rf hown (hts _ sf_comp) (fun _ h => h) (by decide +kernel : decode cJ0_isLatin1_aae02 0 = .ok (.getstatic 38, 3)) ?_
  refine lv_if_eq (tgt := 17) hx hb (by decide +kernel : decode cJ0_isLatin1_aae02 3 = .ok (.ifCond .eq 14, 3)) (by decide) (fun h => absurd h (by decide)) (fun _ => ?_)
  refine lv_aload_n (i := 0) hx hb (by decide +kernel : decode cJ0_isLatin1_aae02 6 = .ok (.aload_n 0, 1)) rfl (lv_at hl 0 rfl) ?_
  refine vk_getf hx hb v1 va_S.rf hown (hts _ sf_coder) (fun _ h => h) (by decide +kernel : decode cJ0_isLatin1_aae02 7 = .ok (.getfield 15, 3)) ?_
  refine lv_if_ne (tgt := 17) hx hb (by decide +kernel : decode cJ0_isLatin1_aae02 10 = .ok (.ifCond .ne 7, 3)) (by decide) (fun h => absurd rfl h) (fun _ => ?_)
  refine lv_iconst (v := 1) hx hb (by decide +kernel : decode cJ0_isLatin1_aae02 13 = .ok (.iconst 1, 1)) (by decide) ?_
  refine lv_goto (tgt := 18) hx hb (by decide +kernel : decode cJ0_isLatin1_aae02 14 = .ok (.goto 4, 3)) (by decide) ?_
  exact vx_ret (W.zret hx hb B.returns (by decide) (fun t0 h0 _ => qj (v := some (.inl 1)) hS EX_rf ⟨rfl, rfl⟩ (fun w hw => by cases hw; exact ⟨by omega, by omega⟩) h0) (fun q hq => nomatch hq) (by decide +kernel : decode cJ0_isLatin1_aae02 18 = .ok (.ireturn, 1)) B.notSynchronized)
/-- Preconditions.checkIndex of an index that fits -/
theorem s_pcheck (ad : Nat → Nat) (M : Mm) (i k : Nat) (hik : i < k) (hk : k < 1000) (v9 : Value) (h9 : v9.category = 1) : vx_Met l yJ3_checkIndex_8e157 [.code yJ3_checkIndex_8e157 cJ3_checkIndex_8e157 3 (some .int)] { frames := 0, cells := 0, slots := 0, locals := 0 } (va_Pc [.int (Int32.ofInt i), .int (Int32.ofInt k), v9] (PS D T b0 L xs adV ad M)) (QR D T b0 L xs ad M (J1 i M)) (QX D T b0 L xs ad M (J1 i M)) 0 0 (AA b0) := by
  refine vx_ofW (cc := cJ3_checkIndex_8e157) (maxL := 3) (ret := some .int) (by decide +kernel) rfl fun p e s m args below meth c s₁ B hml hno hP => ?_
  obtain ⟨rfl, hE, hM, hP, hD⟩ := hP
  have hx := B.exec
  have hb := B.bytes
  have e1 : lg_sl [Value.int (Int32.ofInt i), .int (Int32.ofInt k), v9] = [Slot.val (.int (Int32.ofInt i)), .val (.int (Int32.ofInt k)), .val v9] := by
    unfold lg_sl
    show [Slot.val (Value.int (Int32.ofInt ↑i))] ++ ([Slot.val (Value.int (Int32.ofInt ↑k))] ++ ((if v9.category = 2 then _ else _) ++ [])) = _
    simp [h9]
  have hl := lv_entry [Value.int (Int32.ofInt i), .int (Int32.ofInt k), v9] (n := 3) (by rw [e1]; exact Nat.le_of_ble_eq_true rfl)
  rw [lg_entry_eq]
  generalize (lg_sl [Value.int (Int32.ofInt i), .int (Int32.ofInt k), v9] ++ List.replicate (3 - (lg_sl [Value.int (Int32.ofInt i), .int (Int32.ofInt k), v9]).length) Slot.unset).toArray = LS at hl ⊢
  have hS : SP D T b0 L xs 3 s ad [] [] M LS s.heap [] := ⟨lv_mem hl (fun q hq => by simp [lvl] at hq), (fun v hv => nomatch hv), (fun v hv => nomatch hv), hM, hP, hD, va_S.rf⟩
  have ri : inR (i : Int) := ⟨by omega, by omega⟩
  have rk : inR (k : Int) := ⟨by omega, by omega⟩
  refine lv_iload_n (i := 0) hx hb (by decide +kernel : decode cJ3_checkIndex_8e157 0 = .ok (.iload_n 0, 1)) rfl (lv_at hl 0 rfl) ?_
  refine lv_if_lt (tgt := 9) hx hb (by decide +kernel : decode cJ3_checkIndex_8e157 1 = .ok (.ifCond .lt 8, 3)) (by decide) (fun h => absurd h (z_nneg ri (by omega))) (fun _ => ?_)
  refine lv_iload_n (i := 0) hx hb (by decide +kernel : decode cJ3_checkIndex_8e157 4 = .ok (.iload_n 0, 1)) rfl (lv_at hl 0 rfl) ?_
  refine lv_iload_n (i := 1) hx hb (by decide +kernel : decode cJ3_checkIndex_8e157 5 = .ok (.iload_n 1, 1)) rfl (lv_at hl 1 rfl) ?_
  refine lv_icmp_lt (tgt := 16) hx hb (by decide +kernel : decode cJ3_checkIndex_8e157 6 = .ok (.if_icmp .lt 10, 3)) (by decide) (fun _ => ?_) (fun h => absurd ((z_lt ri rk).mpr (by omega)) h)
  refine lv_iload_n (i := 0) hx hb (by decide +kernel : decode cJ3_checkIndex_8e157 16 = .ok (.iload_n 0, 1)) rfl (lv_at hl 0 rfl) ?_
  exact vx_ret (W.iret hx hb B.returns (fun t0 h0 _ => qj (v := some (.inl i)) hS EX_rf ⟨rfl, rfl⟩ (fun w hw => by cases hw; exact ri) h0) (fun q hq => nomatch hq) (by decide +kernel : decode cJ3_checkIndex_8e157 17 = .ok (.ireturn, 1)) B.notSynchronized)
theorem s_scheck (ad : Nat → Nat) (M : Mm) (i k : Nat) (hik : i < k) (hk : k < 1000) : vx_Met l yJ0_checkIndex_df160 [.code yJ0_checkIndex_df160 cJ0_checkIndex_df160 2 none] { frames := 1, cells := 0, slots := 0, locals := 22 } (va_Pc [.int (Int32.ofInt i), .int (Int32.ofInt k)] (PS D T b0 L xs adV ad M)) (QR D T b0 L xs ad M (J0 M)) (QX D T b0 L xs ad M (J0 M)) 0 0 (AA b0) := by
  refine vx_ofW (cc := cJ0_checkIndex_df160) (maxL := 2) (ret := none) (by decide +kernel) rfl fun p e s m args below meth c s₁ B hml hno hP => ?_
  obtain ⟨rfl, hE, hM, hP, hD⟩ := hP
  have hx := B.exec
  have hb := B.bytes
  have hown : s.vm.findClass "java/lang/String" = some m.cls := findClass_of_methodNamed B.named
  have hts := TS_args (A' := ([Value.int (Int32.ofInt i), .int (Int32.ofInt k)] : List Value).toArray) rfl hE.1
  have hl := lv_entry [Value.int (Int32.ofInt i), .int (Int32.ofInt k)] (n := 2) (Nat.le_of_ble_eq_true rfl)
  rw [lg_entry_eq]
  generalize (lg_sl [Value.int (Int32.ofInt i), .int (Int32.ofInt k)] ++ List.replicate (2 - (lg_sl [Value.int (Int32.ofInt i), .int (Int32.ofInt k)]).length) Slot.unset).toArray = LS at hl ⊢
  have hS : SP D T b0 L xs 2 s ad [] [] M LS s.heap [] := ⟨lv_mem hl (fun q hq => by simp [lvl] at hq), (fun v hv => nomatch hv), (fun v hv => nomatch hv), hM, hP, hD, va_S.rf⟩
  obtain ⟨-, -, ⟨hz, -⟩, -⟩ := hE.2.2.2.2.2.2.2.1
  obtain ⟨v9, h9, hz9⟩ : ∃ v9 : Value, v9.category = 1 ∧ va_Z "jdk/internal/util/Preconditions" "SIOOBE_FORMATTER" "Ljava/util/function/BiFunction;" v9 (AA b0) s s.heap := by
    rcases hz with hz | ⟨t, hz⟩
    · exact ⟨_, rfl, hz⟩
    · exact ⟨_, rfl, hz⟩
  refine lv_iload_n (i := 0) hx hb (by decide +kernel : decode cJ0_checkIndex_df160 0 = .ok (.iload_n 0, 1)) rfl (lv_at hl 0 rfl) ?_
  refine lv_iload_n (i := 1) hx hb (by decide +kernel : decode cJ0_checkIndex_df160 1 = .ok (.iload_n 1, 1)) rfl (lv_at hl 1 rfl) ?_
  refine va_gets hx hb hz9 va_S.rf hown (hts _ sf_form) (fun _ h => h) (by decide +kernel : decode cJ0_checkIndex_df160 2 = .ok (.getstatic 1053, 3)) ?_
  have run : vx_Run p l e { frames := 1, cells := 0, slots := 0, locals := 22 } s m ([Value.int (Int32.ofInt i), .int (Int32.ofInt k)] : List Value).toArray below meth c s.heap [] 0 0 0 0 (F0 m 5 LS (([.int (Int32.ofInt i), .int (Int32.ofInt k), v9] : List Value).reverse ++ [])) [] (QR D T b0 L xs ad M (J1 i M) ([.int (Int32.ofInt i), .int (Int32.ofInt k), v9] : List Value).toArray) (QX D T b0 L xs ad M (J1 i M)) (AA b0) :=
    vx_runS (As := [.int (Int32.ofInt i), .int (Int32.ofInt k), v9]) (n := 3) (nL := 2) (own := "java/lang/String") (Ts := TS) (bytes := cJ3_checkIndex_8e157) (maxL := 3) (ret := some .int) (index := 1059) (rest := []) ⟨hx, hb, hml, hown, hts⟩ (s_pcheck ad M i k hik hk v9 h9)
      (va_cwS 3 hts (gin fun w hw9 => by
        simp only [va_wsS, List.mem_append, List.mem_cons, List.not_mem_nil, or_false] at hw9
        rcases hw9 with (rfl | rfl | rfl) | rfl
        · exact ⟨sl_pcheck, rfl⟩
        · exact ⟨ss_pcheck, rfl⟩
        · exact ⟨si_P, rfl⟩
        · exact ⟨sc_pcheck, rfl⟩) rfl rfl rfl ⟨by decide +kernel, by decide +kernel, by decide +kernel⟩ ⟨by decide, by decide⟩)
      ⟨PS_blind, fun U hU hW => ⟨rfl, SP_PS hE hS hU hW⟩⟩ rfl rfl hS.1.1 rfl (Nat.le_of_ble_eq_true rfl) (show decode cJ0_checkIndex_df160 5 = .ok (.invokestatic 1059, 3) by decide +kernel) ⟨by decide, by decide⟩
  refine r_call (mc := 0) (ms := 0) (cs := (0, 0)) (Q' := J1 i M) (rest := []) run hS (fun v hv => nomatch hv) (fun v M' ad' H1 locs1 hq ex hs => ?_) (fun x M' ad' H1 locs1 ce q9 hq hx4 ex hs hce hcv hcl => absurd hq.1 (by simp))
  obtain ⟨hq1, rfl⟩ := hq
  injection hq1 with hq1
  subst hq1
  refine lv_pop hx hb (by decide +kernel : decode cJ0_checkIndex_df160 8 = .ok (.pop, 1)) rfl ?_
  exact vx_ret (W.vret hx hb B.returns (fun t0 h0 _ => qj (v := none) hs ex ⟨rfl, rfl⟩ (fun w hw => by cases hw) h0) hs.2.2.2.2.2.2.2.2 (by decide +kernel : decode cJ0_checkIndex_df160 9 = .ok (.return_, 1)) B.notSynchronized)
theorem str_ok : ((List.range NSTR).all (fun t => decide (strLens.getD t 0 = strL t) && Nat.ble (strL t) 900 && (List.range (strL t)).all (fun i => decide (0 ≤ strC t i) && decide (strC t i < 128) && decide ((strBs.getD t []).getD i 0 = Int32.ofInt (strC t i))))) = true := by decide +kernel
theorem str_at {t : Nat} (ht : t < NSTR) : strLens.getD t 0 = strL t ∧ strL t ≤ 900 ∧ ∀ i, i < strL t → 0 ≤ strC t i ∧ strC t i < 128 ∧ (strBs.getD t []).getD i 0 = Int32.ofInt (strC t i) := by
  have h := List.all_eq_true.mp str_ok t (List.mem_range.mpr ht)
  obtain ⟨h, h3⟩ := an2 h
  obtain ⟨h1, h2⟩ := an2 h
  refine ⟨dec_e h1, ble_le h2, fun i hi => ?_⟩
  have h4 := List.all_eq_true.mp h3 i (List.mem_range.mpr hi)
  obtain ⟨h4, h6⟩ := an2 h4
  obtain ⟨h4, h5⟩ := an2 h4
  exact ⟨dec_e h4, dec_e h5, dec_e h6⟩
theorem c255 : ∀ c : Nat, c < 128 → ((Int32.ofInt c &&& 255).toUInt32 % 65536).toInt32 = Int32.ofInt c := by decide +kernel
theorem s_l1char (ad : Nat → Nat) (M : Mm) (t i : Nat) (ht : t < NSTR) (hi : i < strL t) : vx_Met l yJ1_charAt_3b067 [.code yJ1_charAt_3b067 cJ1_charAt_3b067 2 (some .char)] { frames := 2, cells := 0, slots := 0, locals := 50 } (va_Pc [.ref (adV t), .int (Int32.ofInt i)] (PS D T b0 L xs adV ad M)) (QR D T b0 L xs ad M (J1 (strC t i) M)) (QX D T b0 L xs ad M (J1 (strC t i) M)) 0 0 (AA b0) := by
  refine vx_ofW (cc := cJ1_charAt_3b067) (maxL := 2) (ret := some .char) (by decide +kernel) rfl fun p e s m args below meth c s₁ B hml hno hP => ?_
  obtain ⟨rfl, hE, hM, hP, hD⟩ := hP
  have hx := B.exec
  have hb := B.bytes
  have hown : s.vm.findClass "java/lang/StringLatin1" = some m.cls := findClass_of_methodNamed B.named
  have hts := TS_args (A' := ([Value.ref (adV t), .int (Int32.ofInt i)] : List Value).toArray) rfl hE.1
  have hl := lv_entry [Value.ref (adV t), .int (Int32.ofInt i)] (n := 2) (Nat.le_of_ble_eq_true rfl)
  rw [lg_entry_eq]
  generalize (lg_sl [Value.ref (adV t), .int (Int32.ofInt i)] ++ List.replicate (2 - (lg_sl [Value.ref (adV t), .int (Int32.ofInt i)]).length) Slot.unset).toArray = LS at hl ⊢
  have hS : SP D T b0 L xs 2 s ad [] [] M LS s.heap [] := ⟨lv_mem hl (fun q hq => by simp [lvl] at hq), (fun v hv => nomatch hv), (fun v hv => nomatch hv), hM, hP, hD, va_S.rf⟩
  obtain ⟨vs, -⟩ := hE.2.2.2.2.2.2.2.1
  obtain ⟨-, -, -, v3⟩ := SE_1 vs t ht
  obtain ⟨z1, z2, z3⟩ := str_at ht
  obtain ⟨z3, z4, z5⟩ := z3 i hi
  rw [z1] at v3
  have ri : inR (i : Int) := ⟨by omega, by omega⟩
  refine lv_iload_n (i := 1) hx hb (by decide +kernel : decode cJ1_charAt_3b067 0 = .ok (.iload_n 1, 1)) rfl (lv_at hl 1 rfl) ?_
  refine lv_aload_n (i := 0) hx hb (by decide +kernel : decode cJ1_charAt_3b067 1 = .ok (.aload_n 0, 1)) rfl (lv_at hl 0 rfl) ?_
  refine va_tlen hx hb v3 va_S.rf (z_nat _) (by decide +kernel : decode cJ1_charAt_3b067 2 = .ok (.arraylength, 1)) ?_
  have run : vx_Run p l e { frames := 2, cells := 0, slots := 0, locals := 50 } s m ([Value.ref (adV t), .int (Int32.ofInt i)] : List Value).toArray below meth c s.heap [] 0 0 0 0 (F0 m 3 LS (([.int (Int32.ofInt i), .int (Int32.ofInt (strL t : Nat))] : List Value).reverse ++ [])) [] (QR D T b0 L xs ad M (J0 M) ([.int (Int32.ofInt i), .int (Int32.ofInt (strL t : Nat))] : List Value).toArray) (QX D T b0 L xs ad M (J0 M)) (AA b0) :=
    vx_runS (As := [.int (Int32.ofInt i), .int (Int32.ofInt (strL t : Nat))]) (n := 2) (nL := 2) (own := "java/lang/StringLatin1") (Ts := TS) (bytes := cJ0_checkIndex_df160) (maxL := 2) (ret := none) (index := 9) (rest := []) ⟨hx, hb, hml, hown, hts⟩ (s_scheck ad M i (strL t) hi (by omega))
      (va_cwS 2 hts (gin fun w hw9 => by
        simp only [va_wsS, List.mem_append, List.mem_cons, List.not_mem_nil, or_false] at hw9
        rcases hw9 with (rfl | rfl | rfl) | rfl
        · exact ⟨sl_scheck, rfl⟩
        · exact ⟨ss_scheck, rfl⟩
        · exact ⟨si_S, rfl⟩
        · exact ⟨sc_scheck, rfl⟩) rfl rfl rfl ⟨by decide +kernel, by decide +kernel, by decide +kernel⟩ ⟨by decide, by decide⟩)
      ⟨PS_blind, fun U hU hW => ⟨rfl, SP_PS hE hS hU hW⟩⟩ rfl rfl hS.1.1 rfl (Nat.le_of_ble_eq_true rfl) (show decode cJ1_charAt_3b067 3 = .ok (.invokestatic 9, 3) by decide +kernel) ⟨by decide, by decide⟩
  refine r_call (mc := 0) (ms := 0) (cs := (0, 0)) (Q' := J0 M) (rest := []) run hS (fun v hv => nomatch hv) (fun v M' ad' H1 locs1 hq ex hs => ?_) (fun x M' ad' H1 locs1 ce q9 hq hx4 ex hs hce hcv hcl => absurd hq.1 (by simp))
  obtain ⟨hq1, rfl⟩ := hq
  injection hq1 with hq1
  subst hq1
  refine lv_aload_n (i := 0) hx hb (by decide +kernel : decode cJ1_charAt_3b067 6 = .ok (.aload_n 0, 1)) rfl (lv_at hl 0 rfl) ?_
  refine lv_iload_n (i := 1) hx hb (by decide +kernel : decode cJ1_charAt_3b067 7 = .ok (.iload_n 1, 1)) rfl (lv_at hl 1 rfl) ?_
  refine va_tb hx hb v3 hs.2.2.2.2.2.2 (v := .int (Int32.ofInt (strC t i))) (by unfold vp_in; rw [z_idx ri]; intro q; rcases q with q | q <;> first | exact z_nneg ri (by omega) q | omega) (by rw [z_idx ri, Int.toNat_natCast, z5]) (by decide +kernel : decode cJ1_charAt_3b067 8 = .ok (.baload, 1)) ?_
  refine lv_sipush (v := 255) hx hb (by decide +kernel : decode cJ1_charAt_3b067 9 = .ok (.sipush 255, 3)) (by decide) ?_
  refine lv_iand hx hb (by decide +kernel : decode cJ1_charAt_3b067 12 = .ok (.iand, 1)) ?_
  refine lv_i2c hx hb (by decide +kernel : decode cJ1_charAt_3b067 13 = .ok (.i2c, 1)) (v := Int32.ofInt (strC t i)) ?_ ?_
  · obtain ⟨k, hk⟩ : ∃ k : Nat, strC t i = (k : Int) := ⟨(strC t i).toNat, by omega⟩
    rw [hk]
    exact c255 k (by omega)
  have hn : narrow .char (.int (Int32.ofInt (strC t i))) = .int (Int32.ofInt (strC t i)) := by
    obtain ⟨k, hk⟩ : ∃ k : Nat, strC t i = (k : Int) := ⟨(strC t i).toNat, by omega⟩
    rw [hk]
    have : ∀ c : Nat, c < 128 → (Int32.ofInt c).toUInt32.toUInt16.toUInt32.toInt32 = Int32.ofInt c := by decide +kernel
    exact congrArg Value.int (this k (by omega))
  exact vx_ret (W.zret hx hb B.returns hn (fun t0 h0 _ => qj (v := some (.inl (strC t i))) hs ex ⟨rfl, rfl⟩ (fun w hw => by cases hw; exact ⟨by omega, by omega⟩) h0) hs.2.2.2.2.2.2.2.2 (by decide +kernel : decode cJ1_charAt_3b067 14 = .ok (.ireturn, 1)) B.notSynchronized)
theorem s_char : S6 l D T b0 L xs adV := by
  intro ad M t i ht hi
  refine vx_ofW (cc := cJ0_charAt_5068e) (maxL := 2) (ret := some .char) (by decide +kernel) rfl fun p e s m args below meth c s₁ B hml hno hP => ?_
  obtain ⟨rfl, hE, hM, hP, hD⟩ := hP
  have hx := B.exec
  have hb := B.bytes
  have hown : s.vm.findClass "java/lang/String" = some m.cls := findClass_of_methodNamed B.named
  have hts := TS_args (A' := ([Value.ref (ad (2000000 + t)), .int (Int32.ofInt i)] : List Value).toArray) rfl hE.1
  have hl := lv_entry [Value.ref (ad (2000000 + t)), .int (Int32.ofInt i)] (n := 2) (Nat.le_of_ble_eq_true rfl)
  rw [lg_entry_eq]
  generalize (lg_sl [Value.ref (ad (2000000 + t)), .int (Int32.ofInt i)] ++ List.replicate (2 - (lg_sl [Value.ref (ad (2000000 + t)), .int (Int32.ofInt i)]).length) Slot.unset).toArray = LS at hl ⊢
  have hS : SP D T b0 L xs 2 s ad [] [] M LS s.heap [] := ⟨lv_mem hl (fun q hq => by simp [lvl] at hq), (fun v hv => nomatch hv), (fun v hv => nomatch hv), hM, hP, hD, va_S.rf⟩
  obtain ⟨vs, -⟩ := hE.2.2.2.2.2.2.2.1
  obtain ⟨-, v1, v2, v3⟩ := SE_1 vs t ht
  obtain ⟨z1, z2, z3⟩ := str_at ht
  obtain ⟨z3, z4, z5⟩ := z3 i hi
  refine lv_aload_n (i := 0) hx hb (by decide +kernel : decode cJ0_charAt_5068e 0 = .ok (.aload_n 0, 1)) rfl (lv_at hl 0 rfl) ?_
  have run : vx_Run p l e { frames := 20, cells := 0, slots := 0, locals := 800 } s m ([Value.ref (ad (2000000 + t)), .int (Int32.ofInt i)] : List Value).toArray below meth c s.heap [] 0 0 0 0 (F0 m 1 LS (([] : List Value).reverse ++ .ref (ad (2000000 + t)) :: [])) [] (QR D T b0 L xs ad M (J1 1 M) (Value.ref (ad (2000000 + t)) :: []).toArray) (QX D T b0 L xs ad M (J1 1 M)) (AA b0) :=
    vx_runV (As := []) (n := 0) (nL := 2) (own := "java/lang/String") (C := "java/lang/String") (Ts := TS) (bytes := cJ0_isLatin1_aae02) (maxL := 1) (ret := some .boolean) (index := 492) (rest := []) ⟨hx, hb, hml, hown, hts⟩ (s_isLatin1 ad M t ht)
      (cwV 0 hts (gin fun w hw9 => by
        simp only [wsV, List.mem_append, List.mem_cons, List.not_mem_nil, or_false] at hw9
        rcases hw9 with (rfl | rfl | rfl | rfl) | rfl
        · exact ⟨sl_isLatin1, rfl⟩
        · exact ⟨ss_isLatin1, rfl⟩
        · exact ⟨se_isLatin1, rfl⟩
        · exact ⟨si_S, rfl⟩
        · exact ⟨sc_isLatin1, rfl⟩) rfl rfl rfl ⟨rfl, by decide +kernel, by decide +kernel, by decide +kernel⟩ ⟨by decide, by decide⟩)
      ⟨PS_blind, vk_recv (i := 0) (vs t ht) Nat.one_pos va_S.rf, fun U hU hW => ⟨rfl, SP_PS hE hS hU hW⟩⟩ rfl rfl hS.1.1 rfl (Nat.le_of_ble_eq_true rfl) (show decode cJ0_charAt_5068e 1 = .ok (.invokevirtual 492, 3) by decide +kernel) ⟨by decide, by decide⟩
  refine r_call (mc := 0) (ms := 0) (cs := (0, 0)) (Q' := J1 1 M) (rest := []) run hS (fun v hv => nomatch hv) (fun v M' ad' H1 locs1 hq ex hs => ?_) (fun x M' ad' H1 locs1 ce q9 hq hx4 ex hs hce hcv hcl => absurd hq.1 (by simp))
  obtain ⟨hq1, rfl⟩ := hq
  injection hq1 with hq1
  subst hq1
  refine lv_if_eq (tgt := 16) hx hb (by decide +kernel : decode cJ0_charAt_5068e 4 = .ok (.ifCond .eq 12, 3)) (by decide) (fun h => absurd h (by decide)) (fun _ => ?_)
  refine lv_aload_n (i := 0) hx hb (by decide +kernel : decode cJ0_charAt_5068e 7 = .ok (.aload_n 0, 1)) rfl (lv_at hl 0 rfl) ?_
  refine vk_getf hx hb v2 hs.2.2.2.2.2.2 hown (hts _ sf_value) (fun _ h => h) (by decide +kernel : decode cJ0_charAt_5068e 8 = .ok (.getfield 9, 3)) ?_
  refine lv_iload_n (i := 1) hx hb (by decide +kernel : decode cJ0_charAt_5068e 11 = .ok (.iload_n 1, 1)) rfl (lv_at hl 1 rfl) ?_
  have hEb := EV_ad hE ex
  have run2 : vx_Run p l e { frames := 20, cells := 0, slots := 0, locals := 800 } s m ([Value.ref (ad (2000000 + t)), .int (Int32.ofInt i)] : List Value).toArray below meth c H1 locs1 0 0 0 0 (F0 m 12 LS (([.ref (adV t), .int (Int32.ofInt i)] : List Value).reverse ++ [])) [] (QR D T b0 L xs ad' M' (J1 (strC t i) M') ([.ref (adV t), .int (Int32.ofInt i)] : List Value).toArray) (QX D T b0 L xs ad' M' (J1 (strC t i) M')) (AA b0) :=
    vx_runS (As := [.ref (adV t), .int (Int32.ofInt i)]) (n := 2) (nL := 2) (own := "java/lang/String") (Ts := TS) (bytes := cJ1_charAt_3b067) (maxL := 2) (ret := some .char) (index := 495) (rest := []) ⟨hx, hb, hml, hown, hts⟩ (s_l1char ad' M' t i ht hi)
      (va_cwS 2 hts (gin fun w hw9 => by
        simp only [va_wsS, List.mem_append, List.mem_cons, List.not_mem_nil, or_false] at hw9
        rcases hw9 with (rfl | rfl | rfl) | rfl
        · exact ⟨sl_l1char, rfl⟩
        · exact ⟨ss_l1char, rfl⟩
        · exact ⟨si_L, rfl⟩
        · exact ⟨sc_l1char, rfl⟩) rfl rfl rfl ⟨by decide +kernel, by decide +kernel, by decide +kernel⟩ ⟨by decide, by decide⟩)
      ⟨PS_blind, fun U hU hW => ⟨rfl, SP_PS hEb hs hU hW⟩⟩ rfl rfl hs.1.1 rfl (Nat.le_of_ble_eq_true rfl) (show decode cJ0_charAt_5068e 12 = .ok (.invokestatic 495, 3) by decide +kernel) ⟨by decide, by decide⟩
  refine r_call (mc := 0) (ms := 0) (cs := (0, 0)) (Q' := J1 (strC t i) M') (rest := []) run2 (SP_fs (st' := []) hs (fun v hv => nomatch hv)) (fun v hv => nomatch hv) (fun v M2 ad2 H2 locs2 hq ex2 hs2 => ?_) (fun x M2 ad2 H2 locs2 ce q9 hq hx4 ex2 hs2 hce hcv hcl => absurd hq.1 (by simp))
  obtain ⟨hq1, rfl⟩ := hq
  injection hq1 with hq1
  subst hq1
  have hn : narrow .char (.int (Int32.ofInt (strC t i))) = .int (Int32.ofInt (strC t i)) := by
    obtain ⟨k, hk⟩ : ∃ k : Nat, strC t i = (k : Int) := ⟨(strC t i).toNat, by omega⟩
    rw [hk]
    have : ∀ c : Nat, c < 128 → (Int32.ofInt c).toUInt32.toUInt16.toUInt32.toInt32 = Int32.ofInt c := by decide +kernel
    exact congrArg Value.int (this k (by omega))
  exact vx_ret (W.zret hx hb B.returns hn (fun t0 h0 _ => qj (v := some (.inl (strC t i))) hs2 (EX_tr ex ex2) ⟨rfl, rfl⟩ (fun w hw => by cases hw; exact ⟨by omega, by omega⟩) h0) hs2.2.2.2.2.2.2.2.2 (by decide +kernel : decode cJ0_charAt_5068e 15 = .ok (.ireturn, 1)) B.notSynchronized)
theorem s_length : S5 l D T b0 L xs adV := by
  intro ad M t ht
  refine vx_ofW (cc := cJ0_length_8abf5) (maxL := 1) (ret := some .int) (by decide +kernel) rfl fun p e s m args below meth c s₁ B hml hno hP => ?_
  obtain ⟨rfl, hE, hM, hP, hD⟩ := hP
  have hx := B.exec
  have hb := B.bytes
  have hown : s.vm.findClass "java/lang/String" = some m.cls := findClass_of_methodNamed B.named
  have hts := TS_args (A' := ([Value.ref (ad (2000000 + t))] : List Value).toArray) rfl hE.1
  have hl := lv_entry [Value.ref (ad (2000000 + t))] (n := 1) (Nat.le_of_ble_eq_true rfl)
  rw [lg_entry_eq]
  generalize (lg_sl [Value.ref (ad (2000000 + t))] ++ List.replicate (1 - (lg_sl [Value.ref (ad (2000000 + t))]).length) Slot.unset).toArray = LS at hl ⊢
  have hS : SP D T b0 L xs 1 s ad [] [] M LS s.heap [] := ⟨lv_mem hl (fun q hq => by simp [lvl] at hq), (fun v hv => nomatch hv), (fun v hv => nomatch hv), hM, hP, hD, va_S.rf⟩
  obtain ⟨vs, -⟩ := hE.2.2.2.2.2.2.2.1
  obtain ⟨-, v1, v2, v3⟩ := SE_1 vs t ht
  obtain ⟨z1, z2, z3⟩ := str_at ht
  rw [z1] at v3
  have rl : inR ((strL t : Nat) : Int) := ⟨by omega, by omega⟩
  refine lv_aload_n (i := 0) hx hb (by decide +kernel : decode cJ0_length_8abf5 0 = .ok (.aload_n 0, 1)) rfl (lv_at hl 0 rfl) ?_
  refine vk_getf hx hb v2 va_S.rf hown (hts _ sf_value) (fun _ h => h) (by decide +kernel : decode cJ0_length_8abf5 1 = .ok (.getfield 9, 3)) ?_
  refine va_tlen hx hb v3 va_S.rf (z_nat _) (by decide +kernel : decode cJ0_length_8abf5 4 = .ok (.arraylength, 1)) ?_
  refine lv_aload_n (i := 0) hx hb (by decide +kernel : decode cJ0_length_8abf5 5 = .ok (.aload_n 0, 1)) rfl (lv_at hl 0 rfl) ?_
  have hr9 : ∀ v ∈ ([.inl (strL t : Nat)] : List Vl), rgv M v := fun v hv => by
    rw [List.mem_singleton] at hv
    rw [hv]
    exact rl
  have run : vx_Run p l e { frames := 20, cells := 0, slots := 0, locals := 800 } s m ([Value.ref (ad (2000000 + t))] : List Value).toArray below meth c s.heap [] 0 0 0 0 (F0 m 6 LS (([] : List Value).reverse ++ .ref (ad (2000000 + t)) :: ([.inl (strL t : Nat)] : List Vl).map (cf ad))) (([.inl (strL t : Nat)] : List Vl).map (cf ad)) (QR D T b0 L xs ad M (J1 0 M) (Value.ref (ad (2000000 + t)) :: []).toArray) (QX D T b0 L xs ad M (J1 0 M)) (AA b0) :=
    vx_runV (As := []) (n := 0) (nL := 1) (own := "java/lang/String") (C := "java/lang/String") (Ts := TS) (bytes := cJ0_coder_7d493) (maxL := 1) (ret := some .byte) (index := 335) (rest := ([.inl (strL t : Nat)] : List Vl).map (cf ad)) ⟨hx, hb, hml, hown, hts⟩ (s_coder ad M t ht)
      (cwV 0 hts (gin fun w hw9 => by
        simp only [wsV, List.mem_append, List.mem_cons, List.not_mem_nil, or_false] at hw9
        rcases hw9 with (rfl | rfl | rfl | rfl) | rfl
        · exact ⟨sl_coder, rfl⟩
        · exact ⟨ss_coder, rfl⟩
        · exact ⟨se_coder, rfl⟩
        · exact ⟨si_S, rfl⟩
        · exact ⟨sc_coder, rfl⟩) rfl rfl rfl ⟨rfl, by decide +kernel, by decide +kernel, by decide +kernel⟩ ⟨by decide, by decide⟩)
      ⟨PS_blind, vk_recv (i := 0) (vs t ht) Nat.one_pos va_S.rf, fun U hU hW => ⟨rfl, SP_PS hE hS hU hW⟩⟩ rfl rfl hS.1.1 rfl (Nat.le_of_ble_eq_true rfl) (show decode cJ0_length_8abf5 6 = .ok (.invokevirtual 335, 3) by decide +kernel) ⟨by decide, by decide⟩
  refine r_call (mc := 0) (ms := 0) (cs := (0, 0)) (Q' := J1 0 M) (rest := [.inl (strL t : Nat)]) run hS hr9 (fun v M' ad' H1 locs1 hq ex hs => ?_) (fun x M' ad' H1 locs1 ce q9 hq hx4 ex hs hce hcv hcl => absurd hq.1 (by simp))
  obtain ⟨hq1, rfl⟩ := hq
  injection hq1 with hq1
  subst hq1
  refine lv_ishr hx hb (by decide +kernel : decode cJ0_length_8abf5 9 = .ok (.ishr, 1)) ?_
  rw [z_sar, show sar (strL t : Nat) 0 = (strL t : Nat) from by unfold sar; simp [toInt_ofInt rl]]
  exact vx_ret (W.iret hx hb B.returns (fun t0 h0 _ => qj (v := some (.inl (strL t : Nat))) hs ex ⟨rfl, rfl⟩ (fun w hw => by cases hw; exact rl) h0) hs.2.2.2.2.2.2.2.2 (by decide +kernel : decode cJ0_length_8abf5 10 = .ok (.ireturn, 1)) B.notSynchronized)
end RS
