/-! ===== the induction, closed ===== -/
section RW
variable {l : Launch} {D : va_G} {T : T4} {b0 L : Nat} {xs : Nat → Int32} {adV : Nat → Nat}
theorem spr_len : ∀ (as : List Vl) (ad : Nat → Nat), (lg_sl (as.map (cf ad))).length = (spr as).length := by
  intro as ad
  induction as with
  | nil => rfl
  | cons v r ih =>
    have e : lg_sl ((v :: r).map (cf ad)) = (if (cf ad v).category = 2 then [Slot.val (cf ad v), .second] else [Slot.val (cf ad v)]) ++ lg_sl (r.map (cf ad)) := by
      unfold lg_sl
      rw [List.map_cons, List.flatMap_cons]
    rw [e, List.length_append, ih, cat_cf]
    rcases v with a | a | q | u
    · show _ = (Sum.inl a :: spr r).length
      simp [ctg]
      omega
    · show _ = (Sum.inr (Sum.inl a) :: jk :: spr r).length
      simp [ctg]
      omega
    · show _ = (Sum.inr (Sum.inr (Sum.inl q)) :: spr r).length
      simp [ctg]
      omega
    · show _ = (Sum.inr (Sum.inr (Sum.inr u)) :: spr r).length
      simp [ctg]
      omega
theorem spr_args (ad : Nat → Nat) : ∀ (as : List Vl) (k i : Nat) (w : Vl), (spr as)[i]? = some w → w ≠ jk → (k + i, cf ad w) ∈ lv_args k (as.map (cf ad)) := by
  intro as
  induction as with
  | nil => intro k i w h; simp [spr] at h
  | cons v r ih =>
    intro k i w h hw
    rcases v with a | a | q | u
    · have h : (Sum.inl a :: spr r)[i]? = some w := h
      cases i with
      | zero =>
        simp at h
        subst h
        exact List.mem_cons_self
      | succ i =>
        simp at h
        have := ih (k + 1) i w h hw
        rw [show k + (i + 1) = k + 1 + i by omega]
        exact List.mem_cons_of_mem _ this
    · have h : (Sum.inr (Sum.inl a) :: jk :: spr r)[i]? = some w := h
      cases i with
      | zero =>
        simp at h
        subst h
        exact List.mem_cons_self
      | succ i =>
        cases i with
        | zero =>
          simp at h
          exact absurd h.symm hw
        | succ i =>
          simp at h
          have := ih (k + 2) i w h hw
          rw [show k + (i + 1 + 1) = k + 2 + i by omega]
          exact List.mem_cons_of_mem _ this
    · have h : (Sum.inr (Sum.inr (Sum.inl q)) :: spr r)[i]? = some w := h
      cases i with
      | zero =>
        simp at h
        subst h
        exact List.mem_cons_self
      | succ i =>
        simp at h
        have := ih (k + 1) i w h hw
        rw [show k + (i + 1) = k + 1 + i by omega]
        have e : (cf ad (Sum.inr (Sum.inr (Sum.inl q)))).category = 1 := cat_cf ad _
        rw [List.map_cons]
        unfold lv_args
        rw [if_neg (by rw [e]; omega)]
        exact List.mem_cons_of_mem _ this
    · have h : (Sum.inr (Sum.inr (Sum.inr u)) :: spr r)[i]? = some w := h
      cases i with
      | zero =>
        simp at h
        exact absurd h.symm hw
      | succ i =>
        simp at h
        have := ih (k + 1) i w h hw
        rw [show k + (i + 1) = k + 1 + i by omega]
        exact List.mem_cons_of_mem _ this
theorem spr_mem : ∀ (as : List Vl) (w : Vl), w ∈ spr as → w = jk ∨ w ∈ as := by
  intro as
  induction as with
  | nil => intro w h; simp [spr] at h
  | cons v r ih =>
    intro w h
    rcases v with a | a | q | u
    · have h : w ∈ Sum.inl a :: spr r := h
      rcases List.mem_cons.mp h with h | h
      · exact Or.inr (by rw [h]; exact List.mem_cons_self)
      · exact (ih w h).imp id (List.mem_cons_of_mem _)
    · have h : w ∈ Sum.inr (Sum.inl a) :: jk :: spr r := h
      rcases List.mem_cons.mp h with h | h
      · exact Or.inr (by rw [h]; exact List.mem_cons_self)
      · rcases List.mem_cons.mp h with h | h
        · exact Or.inl h
        · exact (ih w h).imp id (List.mem_cons_of_mem _)
    · have h : w ∈ Sum.inr (Sum.inr (Sum.inl q)) :: spr r := h
      rcases List.mem_cons.mp h with h | h
      · exact Or.inr (by rw [h]; exact List.mem_cons_self)
      · exact (ih w h).imp id (List.mem_cons_of_mem _)
    · have h : w ∈ Sum.inr (Sum.inr (Sum.inr u)) :: spr r := h
      rcases List.mem_cons.mp h with h | h
      · exact Or.inl h
      · exact (ih w h).imp id (List.mem_cons_of_mem _)
/-- a method's body, from its entry -/
theorem entry_W {p : Program} {e : Env} {R : Room} {s : State} {m : MethodId} {below : List Frame} {meth : Method} {c : Code} {Q : State → Prop} {f d j : Nat} {ad : Nat → Nat} {M : Mm} {Q' : Rs → Mm → Prop} {as : List Vl} (hT : TOK) (hB : BODY l D T b0 L xs adV f)
    (hC : CX p R s m (as.map (cf ad)).toArray meth c D T b0 L xs adV d j ad) (hF : KF p l e R s m (as.map (cf ad)).toArray below meth c Q D T b0 L xs j ad M Q') (h : wp f d j 0 (cod j 0).2 (spr as) [] M (0, 0) Q') (hl : (spr as).length ≤ mxl j) (hrg : ∀ v ∈ as, rgv M v)
    (hM : MI L xs M) (hP : va_P D vwCl (wl' T ad M) s.heap) (hD : va_D (AA b0) (wl' T ad M)) : W p l e R s m (as.map (cf ad)).toArray below meth c s.heap [] 0 0 Q (entryFrame m (as.map (cf ad)).toArray (mxl j)) := by
  have hle := lv_entry (as.map (cf ad)) (n := mxl j) (by rw [spr_len]; exact hl)
  rw [lg_entry_eq]
  exact hB p e R s m (as.map (cf ad)).toArray below meth c Q d j ad M Q' hC hF 0 (cod j 0).2 (spr as) [] M (0, 0) ad _ s.heap [] h (hT.1 j 0 hC.2.2.2.2.2.2.2.2.2.2.2.2.2.2) EX_rf ⟨Nat.zero_le _, Nat.zero_le _⟩
    ⟨lv_mem hle fun q hq => by
      obtain ⟨w, h1, h2, h3⟩ := lvl_mem.mp hq
      have := spr_args ad as 0 q.1 w h1 h2
      rw [Nat.zero_add, ← h3] at this
      exact this, fun v hv => by
      rcases spr_mem as v hv with h | h
      · rw [h]; trivial
      · exact hrg v h, (fun v hv => nomatch hv), hM, hP, hD, va_S.rf⟩
theorem KF_of {p : Program} {e : Env} {s : State} {m : MethodId} {args : Array Value} {below : List Frame} {meth : Method} {c : Code} {d j : Nat} {ad : Nat → Nat} {M : Mm} {Q' : Rs → Mm → Prop} (hT : TOK) (hst : l.stackTraces = false) (hC : CX p (rm d j) s m args meth c D T b0 L xs adV d j ad) :
    KF p l e (rm d j) s m args below meth c (vx_MQ below (QR D T b0 L xs ad M Q') (QX D T b0 L xs ad M Q') args s (mcOf j).1 (mcOf j).2 (AA b0)) D T b0 L xs j ad M Q' := by
  obtain ⟨hx0, hb, hml, hown, hts, hE, hlock, hret, hinit, hexc, hRc, hRs, hRf, hRl, hj⟩ := id hC
  intro pc ad' ls M' cs LS H locs hx hcs
  refine ⟨fun v hS hq hd hr => ?_, fun v hS hq hd hr => ?_, fun hS hq hd hr => ?_, fun op x z hz hok hS h => ?_, fun x ce q9 rest hx4 hS hce hcv hcl hn hs => ?_⟩
  · rcases hr with hr | ⟨hr, hz⟩
    · exact e_iret (st := [.inl v]) hx0 hb hd hS hx hcs hq (hret.trans hr) hlock
    · exact e_zret (st := [.inl v]) hx0 hb hd hS hx hcs (chk_of hz hq) (hret.trans hr) hlock
  · exact e_lret (st := [.inr (.inl v)]) hx0 hb hd hS hx hcs hq (hret.trans hr) hlock
  · exact e_vret (st := []) hx0 hb hd hS hx hcs hq (hret.trans hr) hlock
  · obtain ⟨ins, len, aux, cst⟩ := op
    dsimp only at hz
    subst hz
    unfold okT at hok
    split at hok
    · rename_i idx e9 six t iix k o he1 he2
      injection he2 with _ he2
      injection he2 with he2 _
      subst he2
      obtain ⟨hok, t12⟩ := an2 hok
      obtain ⟨hok, t11⟩ := an2 hok
      obtain ⟨hok, t10⟩ := an2 hok
      obtain ⟨hok, t9⟩ := an2 hok
      obtain ⟨hok, t8⟩ := an2 hok
      obtain ⟨hok, t7⟩ := an2 hok
      obtain ⟨hok, t5⟩ := an2 hok
      obtain ⟨hok, t4⟩ := an2 hok
      obtain ⟨hok, t3⟩ := an2 hok
      obtain ⟨t1, t2⟩ := an2 hok
      have hx4 : x < 4 := ble_le t7
      obtain ⟨u1, u2, u3, u4⟩ := hT.2.2.2.2.2.1 x hx4
      have t11 := dec_e t11
      have t12 := beqE t12
      subst t12
      unfold sB at t8
      obtain ⟨t8, v4⟩ := an2 t8
      obtain ⟨t8, v3⟩ := an2 t8
      obtain ⟨v1, v2⟩ := an2 t8
      have v1 := ble_le v1
      have v2 := ble_le v2
      have v3 := dec_e v3
      have v4 := beqE v4
      have hZ := (EV_ad hE hx).2.2.2.2.2.2.1 (2000000 + t - 2000000) (by omega)
      rw [v3, v4] at hZ
      have hk := wB_in t9
      have hno : ∀ z ∈ c.exceptionTable.toList, False := by
        rw [hexc, dec_e t10]
        intro z hz
        simp [tableOf] at hz
      have hat : ∀ w ∈ x_at (yn j).cls (iix9 x) (exn x) (xIx x) (xRx x) xnames, w ∈ TS ∧ vx_ot w = true := by rw [t11]; exact u4
      refine e_throw (st := []) hx0 hb hst hml hown (EV_ad hE hx) u1 hx4 (hts _ hk) (hts _ u2) hZ (fun w hw => hts _ (hat w hw).1) (fun w hw => ?_) (dec_e t1) (dec_e t2) (dec_e t3) (dec_e t4) (dec_e t5) hno ⟨by show 6 ≤ d + 30; omega, by show 90 ≤ 40 * d + 1200; exact Nat.le_trans (by decide) (Nat.le_add_left _ _), rfl, rfl⟩ hlock hS hx h rfl
      rcases List.mem_cons.mp hw with rfl | hw
      · exact rfl
      · rcases List.mem_cons.mp hw with rfl | hw
        · exact rfl
        · exact (hat w hw).2
    · cases hok
  · have hEa := EV_ad hE hx
    refine e_catch (args := args) hown hEa.2.2.2.2.2.2.2.2.2 (fun a ha => hts _ (hT.2.2.2.2.2.1 a ha).2.2.1) hlock hS hx hx4 hcs hce hcv hcl (hht j) [] (by rw [List.nil_append]; exact hexc) (fun r hr => ?_) (fun r hr => nomatch hr) hn hs
    rw [List.nil_append] at hr
    have := hT.2.2.2.2.2.2.2.2.2.2.2.2.2.2.2.2.2 j hj r hr
    exact ⟨this.1, hts _ this.2⟩
theorem ict_of (hT : TOK) (hst : l.stackTraces = false) {f : Nat} (hB : BODY l D T b0 L xs adV f) : ICT l D T b0 L xs adV f := by
  intro d y as M Q' hy1 hy2 hlen h ad hrg
  obtain ⟨m1, m2, m3, m4, m5, m6, m7, m8⟩ := m_ok hT hy1 hy2
  cases hh : hht y with
  | nil =>
    have hcw := gd_cw hh
    rw [hcw]
    refine vx_ofW (cc := byt y) (maxL := mxl y) (ret := rtt y) m5 rfl fun p e s m args below meth c s₁ B hml hno hP => ?_
    obtain ⟨rfl, hE, hM, hP, hD⟩ := hP
    have hC : CX p (rm d y) s m (as.map (cf ad)).toArray meth c D T b0 L xs adV d y ad := by
      refine ⟨B.exec, B.bytes, hml, findClass_of_methodNamed B.named, TS_args rfl hE.1, hE, B.notSynchronized, B.returns, fun hi => ((name_of_methodNamed B.named B.method).1).trans hi, ?_, rfl, rfl, Nat.le_refl _, Nat.le_refl _, hy1⟩
      rw [hh]
      exact List.eq_nil_iff_forall_not_mem.mpr fun z hz => hno z hz
    exact entry_W hT hB hC (KF_of hT hst hC) h hlen hrg hM hP hD
  | cons h0 ht =>
    have hcw := gd_cwX hh
    rw [hcw]
    refine vx_ofWH (cc := byt y) (maxL := mxl y) (ret := rtt y) m5 rfl fun p e s m args below meth c s₁ B hml hP => ?_
    obtain ⟨rfl, hE, hM, hP, hD⟩ := hP
    have hC : CX p (rm d y) s m (as.map (cf ad)).toArray meth c D T b0 L xs adV d y ad := by
      refine ⟨B.exec, B.bytes, hml, findClass_of_methodNamed B.named, TS_args rfl hE.1, hE, B.notSynchronized, B.returns, fun hi => ((name_of_methodNamed B.named B.method).1).trans hi, ?_, rfl, rfl, Nat.le_refl _, Nat.le_refl _, hy1⟩
      rw [hh]
      rw [hcw] at m1
      exact vx_table (x := yn y) B (TS_args rfl hE.1 _ m1)
    exact entry_W hT hB hC (KF_of hT hst hC) h hlen hrg hM hP hD
theorem real (hT : TOK) (hst : l.stackTraces = false) (h5 : S5 l D T b0 L xs adV) (h6 : S6 l D T b0 L xs adV) : ∀ f, BODY l D T b0 L xs adV f := by
  intro f
  induction f with
  | zero =>
    intro p e R s m args below meth c Q d j ad0 M0 Q' hC hF pc ops ls st M cs ad LS H locs h
    exact h.elim
  | succ f ih => exact body_s hT h5 h6 ih (ict_of hT hst ih)
end RW
