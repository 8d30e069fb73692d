/-! ===== one step: what reads and writes the heap ===== -/
def tyg (ty : FieldType) : Nat := match ty with
  | .int => 0
  | .long => 1
  | .boolean => 3
  | .object _ => 2
  | .array _ => 2
  | _ => 9
/-- what the tables say of a class -/
def CL (Ts : List Cond) (ci : Nat) (C : String) (F : u_T) (N : Nat) (ty : Nat → FieldType) : Prop :=
  vwCl[ci]? = some (C, F, N) ∧ (∀ w ∈ u_ws C F N, w ∈ Ts) ∧ (∀ k, k < N → parseFieldDescriptor (F k).2.2.1 = some (ty k)) ∧ (∀ a, a < N → ∀ b, b < N → a ≠ b → (F a).2.1 ≠ (F b).2.1) ∧ (ft ci).length = N
def tyl (T : T4) : List (ClassId × FieldType) := [(T.1, .int), (T.2.1, .long), (T.2.2.1, .boolean), (T.2.2.2, .object "GlassLeaders$Party")]
/-- a field's value -/
def vv (M : Mm) (o i t : Nat) : Vl := match t with
  | 0 => .inl (gI M o i)
  | 1 => .inr (.inl (gJ M o i))
  | 2 => .inr (.inr (.inl (M.2.1 o i)))
  | 3 => .inl (gI M o i)
  | _ => .inr (.inr (.inl (M.2.2.1 o i)))
theorem cf_vv (ad : Nat → Nat) (M : Mm) (o i t : Nat) : cf ad (vv M o i t) = fv ad M o i t := by
  rcases t with _ | _ | _ | _ | t <;> rfl
theorem rg_vv {L : Nat} {xs : Nat → Int32} {M : Mm} (hM : MI L xs M) {o : Nat} (ho : o ≤ gN M) (i t : Nat) : rgv M (vv M o i t) := by
  obtain ⟨h1, h2, h3, h4, h5, h6, -⟩ := hM
  unfold vv
  split
  · exact h1 o i
  · exact h2 o i
  · exact Or.inl (h6 o i ho).1
  · exact h1 o i
  · exact Or.inl (h6 o i ho).2
theorem exFld_vv {aux : List Nat} {o : Nat} {M : Mm} {k : Vl → Prop} {ci i t : Nat} {z : List Nat} (ha : aux = ci :: i :: t :: z) (h : exFld aux o M k) : kq (M.1 o) 0 ci = true ∧ k (vv M o i t) := by
  subst ha
  unfold exFld at h
  split at h
  all_goals first
    | exact h.elim
    | (rename_i e
       injection e with e1 e
       injection e with e2 e
       injection e with e3 e
       subst e1; subst e2; subst e3
       exact chk_e h)
/-- a memory that differs in one cell's contents -/
theorem MI_w {L : Nat} {xs : Nat → Int32} {M M' : Mm} {k : Nat} (hM : MI L xs M) (hk : k ≤ gN M) (e1 : M'.1 = M.1) (eN : gN M' = gN M) (eI : ∀ a, a ≠ k → ∀ i, gI M' a i = gI M a i) (eS : ∀ a, a ≠ k → ∀ i, M'.2.2.1 a i = M.2.2.1 a i)
    (rI : ∀ i, inR (gI M' k i)) (rJ : ∀ a i, inL (gJ M' a i)) (rR : ∀ a, a ≤ gN M → ∀ i, M'.2.1 a i ≤ gN M) (rS : ∀ i, M'.2.2.1 k i ≤ gN M) : MI L xs M' := by
  obtain ⟨h1, h2, h3, h4, h5, h6, h7, h8, h9, h10, h11, h12⟩ := hM
  have hk1 : k < 1000000 := by omega
  refine ⟨fun a i => ?_, rJ, fun a => by rw [e1, eN]; exact h3 a, fun a => by rw [e1]; exact h4 a, fun a => by rw [e1]; exact h5 a, fun a i ha => ?_, by rw [eN]; exact h7, ?_, fun i hi => ?_, fun a => by rw [e1]; exact h10 a, fun a => by rw [e1]; exact h11 a, fun t i ht hi => ?_⟩
  · by_cases e : a = k
    · subst e; exact rI i
    · rw [eI a e]; exact h1 a i
  · rw [eN] at ha ⊢
    refine ⟨rR a ha i, ?_⟩
    by_cases e : a = k
    · subst e; exact rS i
    · rw [eS a e]; exact (h6 a i ha).2
  · rw [eS _ (by omega)]; exact h8
  · rw [eI _ (by omega)]; exact h9 i hi
  · rw [eI _ (by omega)]; exact h12 t i ht hi
theorem kq_1 {L : Nat} {xs : Nat → Int32} {M : Mm} (hM : MI L xs M) {o ci : Nat} (h : kq (M.1 o) 0 ci = true) : (M.1 o).1 = 0 ∧ (M.1 o).2 = ci ∧ 1 ≤ o ∧ o ≤ gN M := by
  obtain ⟨-, h1, h2⟩ := en_obj (T := (0, 0, 0, 0)) (ad := id) h
  have h3 := hM.2.2.1 o (by omega)
  exact ⟨h1, h2, h3.1, h3.2⟩
theorem beq_1 {L : Nat} {xs : Nat → Int32} {M : Mm} (hM : MI L xs M) {o t : Nat} (h : Nat.beq (M.1 o).1 t = true) (ht : t ≤ 4) : (M.1 o).1 = t ∧ 1 ≤ o ∧ o ≤ gN M := by
  have h1 : (M.1 o).1 = t := Nat.eq_of_beq_eq_true h
  have h3 := hM.2.2.1 o (by omega)
  exact ⟨h1, h3.1, h3.2⟩
theorem rf_1 {ad : Nat → Nat} {o : Nat} (h : 1 ≤ o) : va_rf (rf ad o) = .ref (ad o) := by
  cases o with
  | zero => omega
  | succ o => rfl
theorem z_up {f g : Nat → Int} {i : Nat} {x : Int} (h : ∀ b, g b = if b = i then x else f b) : upd (fun a => Int32.ofInt (f a)) i (Int32.ofInt x) = fun a => Int32.ofInt (g a) := by
  funext b
  unfold upd
  rw [h b]
  split <;> rfl
theorem z_upL {f g : Nat → Int} {i : Nat} {x : Int} (h : ∀ b, g b = if b = i then x else f b) : vp_updL (fun a => Int64.ofInt (f a)) i (Int64.ofInt x) = fun a => Int64.ofInt (g a) := by
  funext b
  unfold vp_updL
  rw [h b]
  split <;> rfl
theorem zb_or {a : Int} (h : zb a = true) : a = 0 ∨ a = 1 := by
  unfold zb at h
  simpa using h
section RH
variable {p : Program} {l : Launch} {e : Env} {R : Room} {s : State} {m : MethodId} {args : Array Value} {below : List Frame} {meth : Method} {c : Code} {H : Heap} {locs : List Loc} {Q : State → Prop}
variable {D : va_G} {T : T4} {b0 L n : Nat} {xs : Nat → Int32} {ad : Nat → Nat} {ls st : List Vl} {M : Mm} {LS : Array Slot} {pc : Nat} {cs bd : Nat × Nat} {cc : ByteArray} {kn : List Vl → List Vl → Mm → Nat × Nat → Prop} {kj : Nat → List Vl → Prop}
variable {Ts : List Cond} {ci i t idx N : Nat} {C own : String} {F : u_T} {ty : Nat → FieldType}
/-- the memory changes in one cell -/
theorem KN_m {pc' : Nat} {M' : Mm} {k : Nat} {en' : va_E} {H1 : Heap} {locs1 : List Loc} (K : KN p l e R s m args below meth c Q D T b0 L xs n ad M pc' bd kn) (hS : SP D T b0 L xs n s ad ls st M LS H locs) (hcs : cs.1 ≤ bd.1 ∧ cs.2 ≤ bd.2) {st' : List Vl} (hk : kn ls st' M' cs) (hs : ∀ v ∈ st', rgv M v)
    (k1 : 1 ≤ k) (k2 : k ≤ gN M) (eN : gN M' = gN M) (hM : MI L xs M') (ho : ∀ a, a ≠ k → en T ad M' a = en T ad M a) (he : en T ad M' k = en')
    (hP : va_P D vwCl ((wl' T ad M).set (k - 1) (ad k, en')) H1) (hD : va_D (AA b0) ((wl' T ad M).set (k - 1) (ad k, en'))) (hS1 : va_S (AA b0) s.heap H1 locs1) :
    W p l e R s m args below meth c H1 locs1 cs.1 cs.2 Q (F0 m pc' LS (st'.map (cf ad))) := by
  rw [wl_set k1 k2 eN ho he] at hP hD
  have hr : ∀ {v : Vl}, rgv M v → rgv M' v := fun {v} h => EX_rg (ad := ad) (ad' := ad) ⟨by omega, fun _ _ => rfl, fun _ _ => rfl⟩ h
  exact K ad ls st' M' cs LS H1 locs1 ⟨by omega, fun _ _ => rfl, fun _ _ => rfl⟩ hk ⟨hS.1, fun v hv => hr (hS.2.1 v hv), fun v hv => hr (hs v hv), hM, hP, hD, hS1⟩ hcs
theorem r_get (hx : p.tables.exec = Jvm.exec) (hb : c.code = cc) (hd : decode cc pc = .ok (.getfield idx, 3)) (hS : SP D T b0 L xs n s ad ls st M LS H locs) (hcs : cs.1 ≤ bd.1 ∧ cs.2 ≤ bd.2) {aux z : List Nat} (ha : aux = ci :: i :: t :: z)
    (h : p1R st (fun o r => exFld aux o M (fun v => kn ls (v :: r) M cs))) (K : KN p l e R s m args below meth c Q D T b0 L xs n ad M (pc + 3) bd kn)
    (hts : ∀ w ∈ Ts, w.before args s = true) (hC : CL Ts ci C F N ty) (hi : i < N) (ht : (ft ci).getD i 0 = t) (hown : s.vm.findClass own = some m.cls) (hK : va_K D vwCl (tyl T) s) (hlink : (Cond.fieldLink own idx (F i).1 (F i).2.1 (F i).2.2.1).before args s = true) : W p l e R s m args below meth c H locs cs.1 cs.2 Q (F0 m pc LS (st.map (cf ad))) := by
  obtain ⟨c1, c2, c3, c4, c5⟩ := hC
  unfold p1R at h
  split at h
  · rename_i o r
    obtain ⟨hk, h⟩ := exFld_vv ha h
    obtain ⟨h1, h2, h3, h4⟩ := kq_1 hS.2.2.2.1 hk
    obtain ⟨e1, -⟩ := en_obj (T := T) (ad := ad) hk
    obtain ⟨-, h5⟩ := fa1 hS.2.2.1
    have hw := wl_get (T := T) (ad := ad) h3 h4
    rw [e1] at hw
    have hg := KN_t K hS hcs h (fa2 (rg_vv hS.2.2.2.1 h4 i t) h5)
    rw [List.map_cons, cf_vv] at hg
    show W p l e R s m args below meth c H locs cs.1 cs.2 Q (F0 m pc LS (va_rf (rf ad o) :: r.map (cf ad)))
    rw [rf_1 h3]
    exact va_get hx hb hts c2 hown hK hS.2.2.2.2.1 (o - 1) hw c1 i hi hlink (fun _ q => q) (by rw [fl_get (by omega), ht]) hd hg
  · exact h.elim
theorem fit_of {v : Vl} {ty : FieldType} (h : match v with | .inl a => ty = .int ∨ (ty = .boolean ∧ (a = 0 ∨ a = 1)) | .inr (.inl _) => ty = .long | .inr (.inr (.inl _)) => tyg ty = 2 | .inr (.inr (.inr ())) => False) : narrow ty (cf ad v) = cf ad v ∧ fits ty (cf ad v) = true := by
  rcases v with a | a | r | u
  · rcases h with h | ⟨h, h2⟩
    · subst h; exact ⟨rfl, rfl⟩
    · subst h
      rcases h2 with h2 | h2 <;> subst h2
      · exact ⟨show narrow .boolean (.int (Int32.ofInt 0)) = .int (Int32.ofInt 0) by decide, show fits .boolean (.int (Int32.ofInt 0)) = true by decide⟩
      · exact ⟨show narrow .boolean (.int (Int32.ofInt 1)) = .int (Int32.ofInt 1) by decide, show fits .boolean (.int (Int32.ofInt 1)) = true by decide⟩
  · have h : ty = .long := h
    subst h; exact ⟨rfl, rfl⟩
  · have h : tyg ty = 2 := h
    unfold tyg at h
    split at h
    · omega
    · omega
    · omega
    · cases r <;> exact ⟨rfl, rfl⟩
    · cases r <;> exact ⟨rfl, rfl⟩
    · omega
  · exact h.elim
/-- a field is written: whichever kind of it -/
theorem r_putG {o : Nat} {v : Vl} {r : List Vl} {M' : Mm} (hx : p.tables.exec = Jvm.exec) (hb : c.code = cc) (hd : decode cc pc = .ok (.putfield idx, 3)) (hS : SP D T b0 L xs n s ad ls (v :: .inr (.inr (.inl o)) :: r) M LS H locs) (hcs : cs.1 ≤ bd.1 ∧ cs.2 ≤ bd.2)
    (h : kn ls r M' cs) (hk : kq (M.1 o) 0 ci = true) (K : KN p l e R s m args below meth c Q D T b0 L xs n ad M (pc + 3) bd kn)
    (eN : gN M' = gN M) (e1 : M'.1 = M.1) (hM : MI L xs M') (ho : ∀ a, a ≠ o → en T ad M' a = en T ad M a) (hfo : ∀ a t, a ≠ i → fv ad M' o a t = fv ad M o a t) (hfe : fv ad M' o i ((ft ci).getD i 0) = cf ad v)
    (hts : ∀ w ∈ Ts, w.before args s = true) (hC : CL Ts ci C F N ty) (hi : i < N) (hown : s.vm.findClass own = some m.cls) (hK : va_K D vwCl (tyl T) s) (hlink : (Cond.fieldLink own idx (F i).1 (F i).2.1 (F i).2.2.1).before args s = true)
    (hfin : (F i).2.2.2 = false ∨ ((F i).2.2.2 = true ∧ meth.name = "<init>" ∧ (F i).1 = own)) (hfit : narrow (ty i) (cf ad v) = cf ad v ∧ fits (ty i) (cf ad v) = true) : W p l e R s m args below meth c H locs cs.1 cs.2 Q (F0 m pc LS ((v :: .inr (.inr (.inl o)) :: r).map (cf ad))) := by
  obtain ⟨c1, c2, c3, c4, c5⟩ := hC
  obtain ⟨h1, h2, h3, h4⟩ := kq_1 hS.2.2.2.1 hk
  obtain ⟨f1, -⟩ := en_obj (T := T) (ad := ad) hk
  obtain ⟨-, h5⟩ := fa1 hS.2.2.1
  obtain ⟨-, h5⟩ := fa1 h5
  have hw := wl_get (T := T) (ad := ad) h3 h4
  rw [f1] at hw
  have hfl : (fl ad M o ci).set i (cf ad v) = fl ad M' o ci := fl_set (by omega) hfo hfe
  have hen : en T ad M' o = .inr (ci, (fl ad M o ci).set i (cf ad v)) := by
    rw [hfl]
    exact (en_obj (T := T) (ad := ad) (M := M') (k := o) (by rw [e1]; exact hk)).1
  show W p l e R s m args below meth c H locs cs.1 cs.2 Q (F0 m pc LS (cf ad v :: va_rf (rf ad o) :: r.map (cf ad)))
  rw [rf_1 h3]
  rcases hfin with hfin | ⟨hfin, hf2, hf3⟩
  · exact va_put hx hb hts c2 ty c3 c4 hown hK hS.2.2.2.2.1 hS.2.2.2.2.2.1 hS.2.2.2.2.2.2 (o - 1) hw c1 i hi hlink (fun _ q => q) hfin (c3 i hi) hfit.1 hfit.2 (by rw [fl_len]; omega) hd fun H1 locs1 hP hD hS1 => KN_m K hS hcs h h5 h3 h4 eN hM ho hen hP hD hS1
  · exact va_putF hx hb hts c2 ty c3 c4 hown hK hS.2.2.2.2.1 hS.2.2.2.2.2.1 hS.2.2.2.2.2.2 (o - 1) hw c1 i hi hlink (fun _ q => q) hfin hf2 hf3 (c3 i hi) hfit.1 hfit.2 (by rw [fl_len]; omega) hd fun H1 locs1 hP hD hS1 => KN_m K hS hcs h h5 h3 h4 eN hM ho hen hP hD hS1
theorem MI_wI {k i : Nat} {v : Int} (hM : MI L xs M) (hk : k ≤ gN M) (hv : inR v) : MI L xs (wI M k i v) := by
  refine MI_w hM hk rfl rfl (fun a ha i => u2_ne ha i) (fun a ha i => rfl) (fun b => ?_) hM.2.1 (fun a ha i => (hM.2.2.2.2.2.1 a i ha).1) (fun i => (hM.2.2.2.2.2.1 k i hk).2)
  show inR (u2 M.2.2.2.1 k i v k b)
  rw [u2_at]
  split
  · exact hv
  · exact hM.1 k b
theorem MI_wJ {k i : Nat} {v : Int} (hM : MI L xs M) (hk : k ≤ gN M) (hv : inL v) : MI L xs (wJ M k i v) := by
  refine MI_w hM hk rfl rfl (fun a ha i => rfl) (fun a ha i => rfl) (fun b => hM.1 k b) (fun a b => ?_) (fun a ha i => (hM.2.2.2.2.2.1 a i ha).1) (fun i => (hM.2.2.2.2.2.1 k i hk).2)
  show inL (u2 M.2.2.2.2.1 k i v a b)
  unfold u2
  split
  · exact hv
  · exact hM.2.1 a b
theorem MI_wR {k i : Nat} {v : Nat} (hM : MI L xs M) (hk : k ≤ gN M) (hv : v ≤ gN M) : MI L xs (wR M k i v) := by
  refine MI_w hM hk rfl rfl (fun a ha i => rfl) (fun a ha i => rfl) (fun b => hM.1 k b) hM.2.1 (fun a ha b => ?_) (fun i => (hM.2.2.2.2.2.1 k i hk).2)
  show u2 M.2.1 k i v a b ≤ gN M
  unfold u2
  split
  · exact hv
  · exact (hM.2.2.2.2.2.1 a b ha).1
theorem MI_wS {k i : Nat} {v : Nat} (hM : MI L xs M) (hk : k ≤ gN M) (hv : v ≤ gN M) : MI L xs (wS M k i v) := by
  refine MI_w hM hk rfl rfl (fun a ha i => rfl) (fun a ha i => u2_ne ha i) (fun b => hM.1 k b) hM.2.1 (fun a ha i => (hM.2.2.2.2.2.1 a i ha).1) (fun b => ?_)
  show u2 M.2.2.1 k i v k b ≤ gN M
  rw [u2_at]
  split
  · exact hv
  · exact (hM.2.2.2.2.2.1 k b hk).2
theorem fv_wI {k i : Nat} {v : Int} {a t : Nat} (h : a ≠ i) : fv ad (wI M k i v) k a t = fv ad M k a t := by
  unfold fv wI gI gJ
  simp only [u2_nei h]
theorem fv_wJ {k i : Nat} {v : Int} {a t : Nat} (h : a ≠ i) : fv ad (wJ M k i v) k a t = fv ad M k a t := by
  unfold fv wJ gI gJ
  simp only [u2_nei h]
theorem fv_wR {k i : Nat} {v : Nat} {a t : Nat} (h : a ≠ i) : fv ad (wR M k i v) k a t = fv ad M k a t := by
  unfold fv wR gI gJ
  simp only [u2_nei h]
theorem fv_wS {k i : Nat} {v : Nat} {a t : Nat} (h : a ≠ i) : fv ad (wS M k i v) k a t = fv ad M k a t := by
  unfold fv wS gI gJ
  simp only [u2_nei h]
theorem r_put (hx : p.tables.exec = Jvm.exec) (hb : c.code = cc) (hd : decode cc pc = .ok (.putfield idx, 3)) (hS : SP D T b0 L xs n s ad ls st M LS H locs) (hcs : cs.1 ≤ bd.1 ∧ cs.2 ≤ bd.2) {aux z : List Nat} (ha : aux = ci :: i :: t :: z)
    (h : exPut aux st M (fun r M' => kn ls r M' cs)) (K : KN p l e R s m args below meth c Q D T b0 L xs n ad M (pc + 3) bd kn)
    (hts : ∀ w ∈ Ts, w.before args s = true) (hC : CL Ts ci C F N ty) (hi : i < N) (ht : (ft ci).getD i 0 = t) (hty : tyg (ty i) = t ∨ (t = 4 ∧ tyg (ty i) = 2)) (hown : s.vm.findClass own = some m.cls) (hK : va_K D vwCl (tyl T) s) (hlink : (Cond.fieldLink own idx (F i).1 (F i).2.1 (F i).2.2.1).before args s = true)
    (hfin : (F i).2.2.2 = false ∨ ((F i).2.2.2 = true ∧ meth.name = "<init>" ∧ (F i).1 = own)) : W p l e R s m args below meth c H locs cs.1 cs.2 Q (F0 m pc LS (st.map (cf ad))) := by
  subst ha
  unfold exPut at h
  have tg : ∀ {y : FieldType} {k : Nat}, tyg y = k → k = 0 → y = .int := fun {y k} h1 h2 => by
    subst h2
    unfold tyg at h1
    split at h1 <;> first | rfl | omega
  have tg1 : ∀ {y : FieldType} {k : Nat}, tyg y = k → k = 1 → y = .long := fun {y k} h1 h2 => by
    subst h2
    unfold tyg at h1
    split at h1 <;> first | rfl | omega
  have tg3 : ∀ {y : FieldType} {k : Nat}, tyg y = k → k = 3 → y = .boolean := fun {y k} h1 h2 => by
    subst h2
    unfold tyg at h1
    split at h1 <;> first | rfl | omega
  split at h
  · rename_i e
    injection e with e1 e; injection e with e2 e; injection e with e3 e
    subst e1; subst e2; subst e3
    split at h
    · obtain ⟨hk, h⟩ := chk_e h
      obtain ⟨hv, -⟩ := fa1 hS.2.2.1
      have hk4 := (kq_1 hS.2.2.2.1 hk).2.2.2
      rcases hty with hty | ⟨hty, -⟩
      · exact r_putG hx hb hd hS hcs h hk K rfl rfl (MI_wI hS.2.2.2.1 hk4 hv) (fun a ha => en_wI ha) (fun a t ha => fv_wI ha) (by rw [ht]; show Value.int (Int32.ofInt (u2 _ _ _ _ _ _)) = _; rw [u2_eq]; rfl) hts hC hi hown hK hlink hfin (fit_of (Or.inl (tg hty rfl)))
      · omega
    · exact h.elim
  · rename_i e
    injection e with e1 e; injection e with e2 e; injection e with e3 e
    subst e1; subst e2; subst e3
    split at h
    · obtain ⟨hk, h⟩ := chk_e h
      obtain ⟨hv, -⟩ := fa1 hS.2.2.1
      have hk4 := (kq_1 hS.2.2.2.1 hk).2.2.2
      rcases hty with hty | ⟨hty, -⟩
      · exact r_putG hx hb hd hS hcs h hk K rfl rfl (MI_wJ hS.2.2.2.1 hk4 hv) (fun a ha => en_wJ ha) (fun a t ha => fv_wJ ha) (by rw [ht]; show Value.long (Int64.ofInt (u2 _ _ _ _ _ _)) = _; rw [u2_eq]; rfl) hts hC hi hown hK hlink hfin (fit_of (tg1 hty rfl))
      · omega
    · exact h.elim
  · rename_i e
    injection e with e1 e; injection e with e2 e; injection e with e3 e
    subst e1; subst e2; subst e3
    split at h
    · obtain ⟨hk, h⟩ := chk_e h
      rw [Bool.and_eq_true] at hk
      obtain ⟨hk, hle⟩ := hk
      have hk4 := (kq_1 hS.2.2.2.1 hk).2.2.2
      rcases hty with hty | ⟨hty, -⟩
      · exact r_putG hx hb hd hS hcs h hk K rfl rfl (MI_wR hS.2.2.2.1 hk4 (ble_le hle)) (fun a ha => en_wR ha) (fun a t ha => fv_wR ha) (by rw [ht]; show va_rf (rf ad (u2 _ _ _ _ _ _)) = _; rw [u2_eq]; rfl) hts hC hi hown hK hlink hfin (fit_of hty)
      · omega
    · exact h.elim
  · rename_i e
    injection e with e1 e; injection e with e2 e; injection e with e3 e
    subst e1; subst e2; subst e3
    split at h
    · obtain ⟨hk, h⟩ := chk_e h
      obtain ⟨hz, h⟩ := chk_e h
      obtain ⟨hv, -⟩ := fa1 hS.2.2.1
      have hk4 := (kq_1 hS.2.2.2.1 hk).2.2.2
      rcases hty with hty | ⟨hty, -⟩
      · exact r_putG hx hb hd hS hcs h hk K rfl rfl (MI_wI hS.2.2.2.1 hk4 hv) (fun a ha => en_wI ha) (fun a t ha => fv_wI ha) (by rw [ht]; show Value.int (Int32.ofInt (u2 _ _ _ _ _ _)) = _; rw [u2_eq]; rfl) hts hC hi hown hK hlink hfin (fit_of (Or.inr ⟨tg3 hty rfl, zb_or hz⟩))
      · omega
    · exact h.elim
  · rename_i e
    injection e with e1 e; injection e with e2 e; injection e with e3 e
    subst e1; subst e2; subst e3
    split at h
    · obtain ⟨hk, h⟩ := chk_e h
      rw [Bool.and_eq_true] at hk
      obtain ⟨hk, hle⟩ := hk
      have hk4 := (kq_1 hS.2.2.2.1 hk).2.2.2
      have hty2 : tyg (ty i) = 2 := by
        rcases hty with hty | ⟨-, hty⟩
        · exfalso
          unfold tyg at hty
          split at hty <;> omega
        · exact hty
      exact r_putG hx hb hd hS hcs h hk K rfl rfl (MI_wS hS.2.2.2.1 hk4 (ble_le hle)) (fun a ha => en_wS ha) (fun a t ha => fv_wS ha) (by rw [ht]; show va_rf (rf ad (u2 _ _ _ _ _ _)) = _; rw [u2_eq]; rfl) hts hC hi hown hK hlink hfin (fit_of hty2)
    · exact h.elim
  · exact h.elim
end RH
