/-! ===== one step: what leaves the heap alone ===== -/
def EX (ad : Nat → Nat) (M : Mm) (ad' : Nat → Nat) (M' : Mm) : Prop := gN M ≤ gN M' ∧ (∀ a, a ≤ gN M → ad' a = ad a) ∧ ∀ a, 1000000 ≤ a → ad' a = ad a
theorem EX_rf {ad : Nat → Nat} {M : Mm} : EX ad M ad M := ⟨Nat.le_refl _, fun _ _ => rfl, fun _ _ => rfl⟩
theorem EX_tr {ad ad1 ad2 : Nat → Nat} {M M1 M2 : Mm} (h : EX ad M ad1 M1) (h2 : EX ad1 M1 ad2 M2) : EX ad M ad2 M2 := ⟨Nat.le_trans h.1 h2.1, fun a ha => (h2.2.1 a (Nat.le_trans ha h.1)).trans (h.2.1 a ha), fun a ha => (h2.2.2 a ha).trans (h.2.2 a ha)⟩
theorem EX_cf {ad ad' : Nat → Nat} {M M' : Mm} (h : EX ad M ad' M') {v : Vl} (hv : rgv M v) : cf ad' v = cf ad v := by
  rcases v with a | a | r | u
  · rfl
  · rfl
  · show va_rf (rf ad' r) = va_rf (rf ad r)
    cases r with
    | zero => rfl
    | succ r =>
      have e : ad' (r + 1) = ad (r + 1) := by
        rcases hv with h1 | h1
        · exact h.2.1 _ h1
        · exact h.2.2 _ h1
      show va_rf (some (ad' (r + 1))) = va_rf (some (ad (r + 1)))
      rw [e]
  · rfl
theorem EX_map {ad ad' : Nat → Nat} {M M' : Mm} (h : EX ad M ad' M') {st : List Vl} (hv : ∀ v ∈ st, rgv M v) : st.map (cf ad') = st.map (cf ad) := List.map_congr_left fun v h1 => EX_cf h (hv v h1)
theorem EX_rg {ad ad' : Nat → Nat} {M M' : Mm} (h : EX ad M ad' M') {v : Vl} (hv : rgv M v) : rgv M' v := by
  rcases v with a | a | r | u
  · exact hv
  · exact hv
  · rcases hv with h1 | h1
    · exact Or.inl (Nat.le_trans h1 h.1)
    · exact Or.inr h1
  · exact hv
def AA (b0 : Nat) : Nat → Prop := fun q => b0 ≤ q
/-- a state of the small machine, in the real one -/
def SP (D : va_G) (T : T4) (b0 L : Nat) (xs : Nat → Int32) (n : Nat) (s : State) (ad : Nat → Nat) (ls st : List Vl) (M : Mm) (LS : Array Slot) (H : Heap) (locs : List Loc) : Prop :=
  lv_has LS n (lvl ad ls) ∧ (∀ v ∈ ls, rgv M v) ∧ (∀ v ∈ st, rgv M v) ∧ MI L xs M ∧ va_P D vwCl (wl' T ad M) H ∧ va_D (AA b0) (wl' T ad M) ∧ va_S (AA b0) s.heap H locs
theorem cnd_t {p : Prop} {d : Decidable p} {A B : Prop} (h : cnd (@decide p d) A B) (hp : p) : A := by
  cases d with
  | isTrue _ => exact h
  | isFalse q => exact absurd hp q
theorem cnd_f {p : Prop} {d : Decidable p} {A B : Prop} (h : cnd (@decide p d) A B) (hp : ¬ p) : B := by
  cases d with
  | isTrue q => exact absurd q hp
  | isFalse _ => exact h
section RL
variable {p : Program} {l : Launch} {e : Env} {R : Room} {s : State} {m : MethodId} {args : Array Value} {below : List Frame} {meth : Method} {c : Code} {H : Heap} {locs : List Loc} {Q : State → Prop}
variable {D : va_G} {T : T4} {b0 L n : Nat} {xs : Nat → Int32} {ad : Nat → Nat} {ls st : List Vl} {M : Mm} {LS : Array Slot} {pc : Nat} {cs bd : Nat × Nat} {cc : ByteArray} {kn : List Vl → List Vl → Mm → Nat × Nat → Prop} {kj : Nat → List Vl → Prop}
def KN (p : Program) (l : Launch) (e : Env) (R : Room) (s : State) (m : MethodId) (args : Array Value) (below : List Frame) (meth : Method) (c : Code) (Q : State → Prop) (D : va_G) (T : T4) (b0 L : Nat) (xs : Nat → Int32) (n : Nat) (ad : Nat → Nat) (M : Mm) (pc' : Nat) (bd : Nat × Nat) (kn : List Vl → List Vl → Mm → Nat × Nat → Prop) : Prop :=
  ∀ (ad' : Nat → Nat) (ls' st' : List Vl) (M' : Mm) (cs' : Nat × Nat) (LS' : Array Slot) (H' : Heap) (locs' : List Loc), EX ad M ad' M' → kn ls' st' M' cs' → SP D T b0 L xs n s ad' ls' st' M' LS' H' locs' → cs'.1 ≤ bd.1 ∧ cs'.2 ≤ bd.2 → W p l e R s m args below meth c H' locs' cs'.1 cs'.2 Q (F0 m pc' LS' (st'.map (cf ad')))
/-- a jump: the rest stays as it is -/
def KJ (p : Program) (l : Launch) (e : Env) (R : Room) (s : State) (m : MethodId) (args : Array Value) (below : List Frame) (meth : Method) (c : Code) (Q : State → Prop) (D : va_G) (T : T4) (b0 L : Nat) (xs : Nat → Int32) (n : Nat) (ad : Nat → Nat) (ls : List Vl) (M : Mm) (LS : Array Slot) (H : Heap) (locs : List Loc) (cs : Nat × Nat) (kj : Nat → List Vl → Prop) : Prop :=
  ∀ (t : Nat) (st' : List Vl), kj t st' → SP D T b0 L xs n s ad ls st' M LS H locs → W p l e R s m args below meth c H locs cs.1 cs.2 Q (F0 m t LS (st'.map (cf ad)))
theorem SP_fs (h : SP D T b0 L xs n s ad ls st M LS H locs) {st' : List Vl} (hs : ∀ v ∈ st', rgv M v) : SP D T b0 L xs n s ad ls st' M LS H locs := ⟨h.1, h.2.1, hs, h.2.2.2⟩
theorem KN_t {pc' : Nat} (K : KN p l e R s m args below meth c Q D T b0 L xs n ad M pc' bd kn) (hS : SP D T b0 L xs n s ad ls st M LS H locs) (hcs : cs.1 ≤ bd.1 ∧ cs.2 ≤ bd.2) {st' : List Vl} (hk : kn ls st' M cs) (hs : ∀ v ∈ st', rgv M v) :
    W p l e R s m args below meth c H locs cs.1 cs.2 Q (F0 m pc' LS (st'.map (cf ad))) := K ad ls st' M cs LS H locs EX_rf hk (SP_fs hS hs) hcs
theorem KN_l {pc' : Nat} {ls' : List Vl} {LS' : Array Slot} {l' : List (Nat × Value)} (K : KN p l e R s m args below meth c Q D T b0 L xs n ad M pc' bd kn) (hS : SP D T b0 L xs n s ad ls st M LS H locs) (hcs : cs.1 ≤ bd.1 ∧ cs.2 ≤ bd.2) {st' : List Vl} (hk : kn ls' st' M cs) (hs : ∀ v ∈ st', rgv M v) (hl : ∀ v ∈ ls', rgv M v) (h1 : lv_has LS' n l') (hm : ∀ q ∈ lvl ad ls', q ∈ l') :
    W p l e R s m args below meth c H locs cs.1 cs.2 Q (F0 m pc' LS' (st'.map (cf ad))) := K ad ls' st' M cs LS' H locs EX_rf hk ⟨lv_mem h1 hm, hl, hs, hS.2.2.2⟩ hcs
theorem fa1 {P : Vl → Prop} {a : Vl} {r : List Vl} (h : ∀ v ∈ a :: r, P v) : P a ∧ ∀ v ∈ r, P v := List.forall_mem_cons.mp h
theorem fa2 {P : Vl → Prop} {a : Vl} {r : List Vl} (h : P a) (h2 : ∀ v ∈ r, P v) : ∀ v ∈ a :: r, P v := List.forall_mem_cons.mpr ⟨h, h2⟩
theorem rg_get {i : Nat} (hS : SP D T b0 L xs n s ad ls st M LS H locs) {v : Vl} (hv : ls.getD i jk = v) : rgv M v := by
  by_cases hi : i < ls.length
  · rw [← hv]
    have : ls.getD i jk = ls[i] := by simp [hi]
    rw [this]
    exact hS.2.1 _ (List.getElem_mem hi)
  · rw [← hv]
    have : ls.getD i jk = jk := by simp [Nat.not_lt.mp hi]
    rw [this]
    trivial
theorem sto_mem (v : Vl) : ∀ (i : Nat) (ls : List Vl), ∀ w ∈ sto v i ls, w = v ∨ w = jk ∨ w ∈ ls := by
  intro i ls w hw
  obtain ⟨k, hk⟩ := List.getElem?_of_mem hw
  by_cases hj : w = jk
  · exact Or.inr (Or.inl hj)
  · rcases sto_get v i ls k w hk hj with ⟨-, h⟩ | ⟨-, h, -⟩
    · exact Or.inl h
    · exact Or.inr (Or.inr (List.mem_of_getElem? h))
theorem pu_mem : ∀ (i : Nat) (ls : List Vl), ∀ w ∈ pu jk i ls, w = jk ∨ w ∈ ls := by
  intro i ls w hw
  obtain ⟨k, hk⟩ := List.getElem?_of_mem hw
  by_cases hj : w = jk
  · exact Or.inl hj
  · exact Or.inr (List.mem_of_getElem? (pu_get i ls k w hk hj).2)
theorem rg_sto {i : Nat} {v : Vl} (hv : rgv M v) (hl : ∀ w ∈ ls, rgv M w) : ∀ w ∈ sto v i ls, rgv M w := by
  intro w hw
  rcases sto_mem v i ls w hw with h | h | h
  · rw [h]; exact hv
  · rw [h]; trivial
  · exact hl w h
theorem rg_pu {i : Nat} (hl : ∀ w ∈ ls, rgv M w) : ∀ w ∈ pu jk i ls, rgv M w := by
  intro w hw
  rcases pu_mem i ls w hw with h | h
  · rw [h]; trivial
  · exact hl w h

theorem r_iadd (hx : p.tables.exec = Jvm.exec) (hb : c.code = cc) (hd : decode cc pc = .ok (.iadd, 1)) (hS : SP D T b0 L xs n s ad ls st M LS H locs) (hcs : cs.1 ≤ bd.1 ∧ cs.2 ≤ bd.2) (h : p2I st (fun a b r => kn ls (.inl (wr (a + b)) :: r) M cs)) (K : KN p l e R s m args below meth c Q D T b0 L xs n ad M (pc + 1) bd kn) : W p l e R s m args below meth c H locs cs.1 cs.2 Q (F0 m pc LS (st.map (cf ad))) := by
  unfold p2I at h
  split at h
  · obtain ⟨-, h1⟩ := fa1 hS.2.2.1
    obtain ⟨-, h1⟩ := fa1 h1
    refine lv_iadd hx hb hd ?_
    rw [z_add]
    exact KN_t K hS hcs h (fa2 (wr_in _) h1)
  · exact h.elim

theorem r_isub (hx : p.tables.exec = Jvm.exec) (hb : c.code = cc) (hd : decode cc pc = .ok (.isub, 1)) (hS : SP D T b0 L xs n s ad ls st M LS H locs) (hcs : cs.1 ≤ bd.1 ∧ cs.2 ≤ bd.2) (h : p2I st (fun a b r => kn ls (.inl (wr (a - b)) :: r) M cs)) (K : KN p l e R s m args below meth c Q D T b0 L xs n ad M (pc + 1) bd kn) : W p l e R s m args below meth c H locs cs.1 cs.2 Q (F0 m pc LS (st.map (cf ad))) := by
  unfold p2I at h
  split at h
  · obtain ⟨-, h1⟩ := fa1 hS.2.2.1
    obtain ⟨-, h1⟩ := fa1 h1
    refine lv_isub hx hb hd ?_
    rw [z_sub]
    exact KN_t K hS hcs h (fa2 (wr_in _) h1)
  · exact h.elim

theorem r_imul (hx : p.tables.exec = Jvm.exec) (hb : c.code = cc) (hd : decode cc pc = .ok (.imul, 1)) (hS : SP D T b0 L xs n s ad ls st M LS H locs) (hcs : cs.1 ≤ bd.1 ∧ cs.2 ≤ bd.2) (h : p2I st (fun a b r => kn ls (.inl (wr (a * b)) :: r) M cs)) (K : KN p l e R s m args below meth c Q D T b0 L xs n ad M (pc + 1) bd kn) : W p l e R s m args below meth c H locs cs.1 cs.2 Q (F0 m pc LS (st.map (cf ad))) := by
  unfold p2I at h
  split at h
  · obtain ⟨-, h1⟩ := fa1 hS.2.2.1
    obtain ⟨-, h1⟩ := fa1 h1
    refine lv_imul hx hb hd ?_
    rw [z_mul]
    exact KN_t K hS hcs h (fa2 (wr_in _) h1)
  · exact h.elim

theorem r_iand (hx : p.tables.exec = Jvm.exec) (hb : c.code = cc) (hd : decode cc pc = .ok (.iand, 1)) (hS : SP D T b0 L xs n s ad ls st M LS H locs) (hcs : cs.1 ≤ bd.1 ∧ cs.2 ≤ bd.2) (h : p2I st (fun a b r => kn ls (.inl (an a b) :: r) M cs)) (K : KN p l e R s m args below meth c Q D T b0 L xs n ad M (pc + 1) bd kn) : W p l e R s m args below meth c H locs cs.1 cs.2 Q (F0 m pc LS (st.map (cf ad))) := by
  unfold p2I at h
  split at h
  · obtain ⟨-, h1⟩ := fa1 hS.2.2.1
    obtain ⟨-, h1⟩ := fa1 h1
    refine lv_iand hx hb hd ?_
    rw [z_and]
    exact KN_t K hS hcs h (fa2 (inR_toInt _) h1)
  · exact h.elim

theorem r_ior (hx : p.tables.exec = Jvm.exec) (hb : c.code = cc) (hd : decode cc pc = .ok (.ior, 1)) (hS : SP D T b0 L xs n s ad ls st M LS H locs) (hcs : cs.1 ≤ bd.1 ∧ cs.2 ≤ bd.2) (h : p2I st (fun a b r => kn ls (.inl (orr a b) :: r) M cs)) (K : KN p l e R s m args below meth c Q D T b0 L xs n ad M (pc + 1) bd kn) : W p l e R s m args below meth c H locs cs.1 cs.2 Q (F0 m pc LS (st.map (cf ad))) := by
  unfold p2I at h
  split at h
  · obtain ⟨-, h1⟩ := fa1 hS.2.2.1
    obtain ⟨-, h1⟩ := fa1 h1
    refine lv_ior hx hb hd ?_
    rw [z_or]
    exact KN_t K hS hcs h (fa2 (inR_toInt _) h1)
  · exact h.elim

theorem r_ishl (hx : p.tables.exec = Jvm.exec) (hb : c.code = cc) (hd : decode cc pc = .ok (.ishl, 1)) (hS : SP D T b0 L xs n s ad ls st M LS H locs) (hcs : cs.1 ≤ bd.1 ∧ cs.2 ≤ bd.2) (h : p2I st (fun a b r => kn ls (.inl (shl a b) :: r) M cs)) (K : KN p l e R s m args below meth c Q D T b0 L xs n ad M (pc + 1) bd kn) : W p l e R s m args below meth c H locs cs.1 cs.2 Q (F0 m pc LS (st.map (cf ad))) := by
  unfold p2I at h
  split at h
  · obtain ⟨-, h1⟩ := fa1 hS.2.2.1
    obtain ⟨-, h1⟩ := fa1 h1
    refine lv_ishl hx hb hd ?_
    rw [z_shl]
    exact KN_t K hS hcs h (fa2 (inR_toInt _) h1)
  · exact h.elim

theorem r_ishr (hx : p.tables.exec = Jvm.exec) (hb : c.code = cc) (hd : decode cc pc = .ok (.ishr, 1)) (hS : SP D T b0 L xs n s ad ls st M LS H locs) (hcs : cs.1 ≤ bd.1 ∧ cs.2 ≤ bd.2) (h : p2I st (fun a b r => kn ls (.inl (sar a b) :: r) M cs)) (K : KN p l e R s m args below meth c Q D T b0 L xs n ad M (pc + 1) bd kn) : W p l e R s m args below meth c H locs cs.1 cs.2 Q (F0 m pc LS (st.map (cf ad))) := by
  unfold p2I at h
  split at h
  · obtain ⟨-, h1⟩ := fa1 hS.2.2.1
    obtain ⟨-, h1⟩ := fa1 h1
    refine lv_ishr hx hb hd ?_
    rw [z_sar]
    exact KN_t K hS hcs h (fa2 (inR_toInt _) h1)
  · exact h.elim

theorem r_iushr (hx : p.tables.exec = Jvm.exec) (hb : c.code = cc) (hd : decode cc pc = .ok (.iushr, 1)) (hS : SP D T b0 L xs n s ad ls st M LS H locs) (hcs : cs.1 ≤ bd.1 ∧ cs.2 ≤ bd.2) (h : p2I st (fun a b r => kn ls (.inl (ushr a b) :: r) M cs)) (K : KN p l e R s m args below meth c Q D T b0 L xs n ad M (pc + 1) bd kn) : W p l e R s m args below meth c H locs cs.1 cs.2 Q (F0 m pc LS (st.map (cf ad))) := by
  unfold p2I at h
  split at h
  · obtain ⟨-, h1⟩ := fa1 hS.2.2.1
    obtain ⟨-, h1⟩ := fa1 h1
    refine lv_iushr hx hb hd (z_ushr _ _) ?_
    exact KN_t K hS hcs h (fa2 (inR_toInt _) h1)
  · exact h.elim

theorem r_idiv (hx : p.tables.exec = Jvm.exec) (hb : c.code = cc) (hd : decode cc pc = .ok (.idiv, 1)) (hS : SP D T b0 L xs n s ad ls st M LS H locs) (hcs : cs.1 ≤ bd.1 ∧ cs.2 ≤ bd.2) (h : p2I st (fun a b r => chk (nz b) (kn ls (.inl (wr (Int.tdiv a b)) :: r) M cs))) (K : KN p l e R s m args below meth c Q D T b0 L xs n ad M (pc + 1) bd kn) : W p l e R s m args below meth c H locs cs.1 cs.2 Q (F0 m pc LS (st.map (cf ad))) := by
  unfold p2I at h
  split at h
  · rename_i b a r
    obtain ⟨h2, h1⟩ := fa1 hS.2.2.1
    obtain ⟨h3, h1⟩ := fa1 h1
    obtain ⟨h4, h⟩ := chk_e h
    have h4 : b ≠ 0 := by unfold nz at h4; simpa using h4
    refine lv_idiv hx hb hd (fun q => h4 ((z_eq h2 ⟨by omega, by omega⟩).mp (q.trans (show (0 : Int32) = Int32.ofInt 0 from rfl)))) ?_
    rw [z_div h3 h2]
    exact KN_t K hS hcs h (fa2 (wr_in _) h1)
  · exact h.elim

theorem r_irem (hx : p.tables.exec = Jvm.exec) (hb : c.code = cc) (hd : decode cc pc = .ok (.irem, 1)) (hS : SP D T b0 L xs n s ad ls st M LS H locs) (hcs : cs.1 ≤ bd.1 ∧ cs.2 ≤ bd.2) (h : p2I st (fun a b r => chk (nz b) (kn ls (.inl (Int.tmod a b) :: r) M cs))) (K : KN p l e R s m args below meth c Q D T b0 L xs n ad M (pc + 1) bd kn) : W p l e R s m args below meth c H locs cs.1 cs.2 Q (F0 m pc LS (st.map (cf ad))) := by
  unfold p2I at h
  split at h
  · rename_i b a r
    obtain ⟨h2, h1⟩ := fa1 hS.2.2.1
    obtain ⟨h3, h1⟩ := fa1 h1
    obtain ⟨h4, h⟩ := chk_e h
    have h4 : b ≠ 0 := by unfold nz at h4; simpa using h4
    refine lv_irem hx hb hd (fun q => h4 ((z_eq h2 ⟨by omega, by omega⟩).mp (q.trans (show (0 : Int32) = Int32.ofInt 0 from rfl)))) ?_
    rw [z_rem h3 h2 h4]
    exact KN_t K hS hcs h (fa2 (tmod_in h3 h4) h1)
  · exact h.elim

theorem r_ladd (hx : p.tables.exec = Jvm.exec) (hb : c.code = cc) (hd : decode cc pc = .ok (.ladd, 1)) (hS : SP D T b0 L xs n s ad ls st M LS H locs) (hcs : cs.1 ≤ bd.1 ∧ cs.2 ≤ bd.2) (h : p2L st (fun a b r => kn ls (.inr (.inl (wl (a + b))) :: r) M cs)) (K : KN p l e R s m args below meth c Q D T b0 L xs n ad M (pc + 1) bd kn) : W p l e R s m args below meth c H locs cs.1 cs.2 Q (F0 m pc LS (st.map (cf ad))) := by
  unfold p2L at h
  split at h
  · obtain ⟨-, h1⟩ := fa1 hS.2.2.1
    obtain ⟨-, h1⟩ := fa1 h1
    refine lv_ladd hx hb hd ?_
    rw [z_addL]
    exact KN_t K hS hcs h (fa2 (wl_in _) h1)
  · exact h.elim

theorem r_lsub (hx : p.tables.exec = Jvm.exec) (hb : c.code = cc) (hd : decode cc pc = .ok (.lsub, 1)) (hS : SP D T b0 L xs n s ad ls st M LS H locs) (hcs : cs.1 ≤ bd.1 ∧ cs.2 ≤ bd.2) (h : p2L st (fun a b r => kn ls (.inr (.inl (wl (a - b))) :: r) M cs)) (K : KN p l e R s m args below meth c Q D T b0 L xs n ad M (pc + 1) bd kn) : W p l e R s m args below meth c H locs cs.1 cs.2 Q (F0 m pc LS (st.map (cf ad))) := by
  unfold p2L at h
  split at h
  · obtain ⟨-, h1⟩ := fa1 hS.2.2.1
    obtain ⟨-, h1⟩ := fa1 h1
    refine lv_lsub hx hb hd ?_
    rw [z_subL]
    exact KN_t K hS hcs h (fa2 (wl_in _) h1)
  · exact h.elim

theorem r_lmul (hx : p.tables.exec = Jvm.exec) (hb : c.code = cc) (hd : decode cc pc = .ok (.lmul, 1)) (hS : SP D T b0 L xs n s ad ls st M LS H locs) (hcs : cs.1 ≤ bd.1 ∧ cs.2 ≤ bd.2) (h : p2L st (fun a b r => kn ls (.inr (.inl (wl (a * b))) :: r) M cs)) (K : KN p l e R s m args below meth c Q D T b0 L xs n ad M (pc + 1) bd kn) : W p l e R s m args below meth c H locs cs.1 cs.2 Q (F0 m pc LS (st.map (cf ad))) := by
  unfold p2L at h
  split at h
  · obtain ⟨-, h1⟩ := fa1 hS.2.2.1
    obtain ⟨-, h1⟩ := fa1 h1
    refine lv_lmul hx hb hd ?_
    rw [z_mulL]
    exact KN_t K hS hcs h (fa2 (wl_in _) h1)
  · exact h.elim

theorem r_lcmp (hx : p.tables.exec = Jvm.exec) (hb : c.code = cc) (hd : decode cc pc = .ok (.lcmp, 1)) (hS : SP D T b0 L xs n s ad ls st M LS H locs) (hcs : cs.1 ≤ bd.1 ∧ cs.2 ≤ bd.2) (h : p2L st (fun a b r => kn ls (.inl (lc a b) :: r) M cs)) (K : KN p l e R s m args below meth c Q D T b0 L xs n ad M (pc + 1) bd kn) : W p l e R s m args below meth c H locs cs.1 cs.2 Q (F0 m pc LS (st.map (cf ad))) := by
  unfold p2L at h
  split at h
  · obtain ⟨h2, h1⟩ := fa1 hS.2.2.1
    obtain ⟨h3, h1⟩ := fa1 h1
    refine W.lcmp hx hb hd ?_
    rw [z_cmp h3 h2]
    exact KN_t K hS hcs h (fa2 (lc_in _ _) h1)
  · exact h.elim

theorem r_lshr (hx : p.tables.exec = Jvm.exec) (hb : c.code = cc) (hd : decode cc pc = .ok (.lshr, 1)) (hS : SP D T b0 L xs n s ad ls st M LS H locs) (hcs : cs.1 ≤ bd.1 ∧ cs.2 ≤ bd.2) (h : (match (generalizing := false) st with | .inl b :: .inr (.inl a) :: r => kn ls (.inr (.inl (sarl a b)) :: r) M cs | _ => False)) (K : KN p l e R s m args below meth c Q D T b0 L xs n ad M (pc + 1) bd kn) : W p l e R s m args below meth c H locs cs.1 cs.2 Q (F0 m pc LS (st.map (cf ad))) := by
  split at h
  · obtain ⟨-, h1⟩ := fa1 hS.2.2.1
    obtain ⟨-, h1⟩ := fa1 h1
    refine lv_lshr hx hb hd (z_sarl _ _) ?_
    exact KN_t K hS hcs h (fa2 (inL_toInt _) h1)
  · exact h.elim

theorem r_ineg (hx : p.tables.exec = Jvm.exec) (hb : c.code = cc) (hd : decode cc pc = .ok (.ineg, 1)) (hS : SP D T b0 L xs n s ad ls st M LS H locs) (hcs : cs.1 ≤ bd.1 ∧ cs.2 ≤ bd.2) (h : p1I st (fun a r => kn ls (.inl (wr (-a)) :: r) M cs)) (K : KN p l e R s m args below meth c Q D T b0 L xs n ad M (pc + 1) bd kn) : W p l e R s m args below meth c H locs cs.1 cs.2 Q (F0 m pc LS (st.map (cf ad))) := by
  unfold p1I at h
  split at h
  · obtain ⟨-, h1⟩ := fa1 hS.2.2.1
    refine lv_ineg hx hb hd ?_
    rw [z_neg]
    exact KN_t K hS hcs h (fa2 (wr_in _) h1)
  · exact h.elim

theorem r_i2l (hx : p.tables.exec = Jvm.exec) (hb : c.code = cc) (hd : decode cc pc = .ok (.i2l, 1)) (hS : SP D T b0 L xs n s ad ls st M LS H locs) (hcs : cs.1 ≤ bd.1 ∧ cs.2 ≤ bd.2) (h : p1I st (fun a r => kn ls (.inr (.inl a) :: r) M cs)) (K : KN p l e R s m args below meth c Q D T b0 L xs n ad M (pc + 1) bd kn) : W p l e R s m args below meth c H locs cs.1 cs.2 Q (F0 m pc LS (st.map (cf ad))) := by
  unfold p1I at h
  split at h
  · obtain ⟨h2, h1⟩ := fa1 hS.2.2.1
    refine lv_i2l hx hb hd (z_i2l h2) ?_
    exact KN_t K hS hcs h (fa2 ⟨by have := h2.1; omega, by have := h2.2; omega⟩ h1)
  · exact h.elim

theorem r_iconst {i v : Int} (hx : p.tables.exec = Jvm.exec) (hb : c.code = cc) (hd : decode cc pc = .ok (.iconst i, 1)) (hS : SP D T b0 L xs n s ad ls st M LS H locs) (hcs : cs.1 ≤ bd.1 ∧ cs.2 ≤ bd.2) (h : kn ls (.inl v :: st) M cs) (hv : Int32.ofInt i = Int32.ofInt v) (hr : inR v) (K : KN p l e R s m args below meth c Q D T b0 L xs n ad M (pc + 1) bd kn) : W p l e R s m args below meth c H locs cs.1 cs.2 Q (F0 m pc LS (st.map (cf ad))) := by
  refine lv_iconst hx hb hd hv ?_
  exact KN_t K hS hcs h (fa2 hr hS.2.2.1)

theorem r_bipush {i v : Int} (hx : p.tables.exec = Jvm.exec) (hb : c.code = cc) (hd : decode cc pc = .ok (.bipush i, 2)) (hS : SP D T b0 L xs n s ad ls st M LS H locs) (hcs : cs.1 ≤ bd.1 ∧ cs.2 ≤ bd.2) (h : kn ls (.inl v :: st) M cs) (hv : (Int8.ofInt i).toInt32 = Int32.ofInt v) (hr : inR v) (K : KN p l e R s m args below meth c Q D T b0 L xs n ad M (pc + 2) bd kn) : W p l e R s m args below meth c H locs cs.1 cs.2 Q (F0 m pc LS (st.map (cf ad))) := by
  refine lv_bipush hx hb hd hv ?_
  exact KN_t K hS hcs h (fa2 hr hS.2.2.1)

theorem r_sipush {i v : Int} (hx : p.tables.exec = Jvm.exec) (hb : c.code = cc) (hd : decode cc pc = .ok (.sipush i, 3)) (hS : SP D T b0 L xs n s ad ls st M LS H locs) (hcs : cs.1 ≤ bd.1 ∧ cs.2 ≤ bd.2) (h : kn ls (.inl v :: st) M cs) (hv : (Int16.ofInt i).toInt32 = Int32.ofInt v) (hr : inR v) (K : KN p l e R s m args below meth c Q D T b0 L xs n ad M (pc + 3) bd kn) : W p l e R s m args below meth c H locs cs.1 cs.2 Q (F0 m pc LS (st.map (cf ad))) := by
  refine lv_sipush hx hb hd hv ?_
  exact KN_t K hS hcs h (fa2 hr hS.2.2.1)

theorem r_lconst0 (hx : p.tables.exec = Jvm.exec) (hb : c.code = cc) (hd : decode cc pc = .ok (.lconst 0, 1)) (hS : SP D T b0 L xs n s ad ls st M LS H locs) (hcs : cs.1 ≤ bd.1 ∧ cs.2 ≤ bd.2) (h : kn ls (.inr (.inl 0) :: st) M cs) (K : KN p l e R s m args below meth c Q D T b0 L xs n ad M (pc + 1) bd kn) : W p l e R s m args below meth c H locs cs.1 cs.2 Q (F0 m pc LS (st.map (cf ad))) := by
  refine lv_lconst (v := Int64.ofInt 0) hx hb hd rfl ?_
  exact KN_t K hS hcs h (fa2 ⟨by omega, by omega⟩ hS.2.2.1)

theorem r_lconst1 (hx : p.tables.exec = Jvm.exec) (hb : c.code = cc) (hd : decode cc pc = .ok (.lconst 1, 1)) (hS : SP D T b0 L xs n s ad ls st M LS H locs) (hcs : cs.1 ≤ bd.1 ∧ cs.2 ≤ bd.2) (h : kn ls (.inr (.inl 1) :: st) M cs) (K : KN p l e R s m args below meth c Q D T b0 L xs n ad M (pc + 1) bd kn) : W p l e R s m args below meth c H locs cs.1 cs.2 Q (F0 m pc LS (st.map (cf ad))) := by
  refine lv_lconst (v := Int64.ofInt 1) hx hb hd rfl ?_
  exact KN_t K hS hcs h (fa2 ⟨by omega, by omega⟩ hS.2.2.1)

theorem r_aconst_null (hx : p.tables.exec = Jvm.exec) (hb : c.code = cc) (hd : decode cc pc = .ok (.aconst_null, 1)) (hS : SP D T b0 L xs n s ad ls st M LS H locs) (hcs : cs.1 ≤ bd.1 ∧ cs.2 ≤ bd.2) (h : kn ls (.inr (.inr (.inl 0)) :: st) M cs) (K : KN p l e R s m args below meth c Q D T b0 L xs n ad M (pc + 1) bd kn) : W p l e R s m args below meth c H locs cs.1 cs.2 Q (F0 m pc LS (st.map (cf ad))) := by
  refine lv_null hx hb hd ?_
  exact KN_t K hS hcs h (fa2 (Or.inl (Nat.zero_le _)) hS.2.2.1)

theorem r_iload {i : Nat} (hx : p.tables.exec = Jvm.exec) (hb : c.code = cc) (hd : decode cc pc = .ok (.iload i, 2)) (hS : SP D T b0 L xs n s ad ls st M LS H locs) (hcs : cs.1 ≤ bd.1 ∧ cs.2 ≤ bd.2) (h : lI ls i (fun a => kn ls (.inl a :: st) M cs)) (K : KN p l e R s m args below meth c Q D T b0 L xs n ad M (pc + 2) bd kn) : W p l e R s m args below meth c H locs cs.1 cs.2 Q (F0 m pc LS (st.map (cf ad))) := by
  unfold lI at h
  split at h
  · rename_i a ha
    exact lv_iload hx hb hd (lv_val hS.1 ha (by intro q; cases q)) (KN_t K hS hcs h (fa2 (rg_get hS ha) hS.2.2.1))
  · exact h.elim

theorem r_iload_n {i : Fin 4} (hx : p.tables.exec = Jvm.exec) (hb : c.code = cc) (hd : decode cc pc = .ok (.iload_n i, 1)) (hS : SP D T b0 L xs n s ad ls st M LS H locs) (hcs : cs.1 ≤ bd.1 ∧ cs.2 ≤ bd.2) (h : lI ls i.val (fun a => kn ls (.inl a :: st) M cs)) (K : KN p l e R s m args below meth c Q D T b0 L xs n ad M (pc + 1) bd kn) : W p l e R s m args below meth c H locs cs.1 cs.2 Q (F0 m pc LS (st.map (cf ad))) := by
  unfold lI at h
  split at h
  · rename_i a ha
    exact lv_iload_n hx hb hd rfl (lv_val hS.1 ha (by intro q; cases q)) (KN_t K hS hcs h (fa2 (rg_get hS ha) hS.2.2.1))
  · exact h.elim

theorem r_lload {i : Nat} (hx : p.tables.exec = Jvm.exec) (hb : c.code = cc) (hd : decode cc pc = .ok (.lload i, 2)) (hS : SP D T b0 L xs n s ad ls st M LS H locs) (hcs : cs.1 ≤ bd.1 ∧ cs.2 ≤ bd.2) (h : lL ls i (fun a => kn ls (.inr (.inl a) :: st) M cs)) (K : KN p l e R s m args below meth c Q D T b0 L xs n ad M (pc + 2) bd kn) : W p l e R s m args below meth c H locs cs.1 cs.2 Q (F0 m pc LS (st.map (cf ad))) := by
  unfold lL at h
  split at h
  · rename_i a ha
    exact lv_lload hx hb hd (lv_val hS.1 ha (by intro q; cases q)) (KN_t K hS hcs h (fa2 (rg_get hS ha) hS.2.2.1))
  · exact h.elim

theorem r_lload_n {i : Fin 4} (hx : p.tables.exec = Jvm.exec) (hb : c.code = cc) (hd : decode cc pc = .ok (.lload_n i, 1)) (hS : SP D T b0 L xs n s ad ls st M LS H locs) (hcs : cs.1 ≤ bd.1 ∧ cs.2 ≤ bd.2) (h : lL ls i.val (fun a => kn ls (.inr (.inl a) :: st) M cs)) (K : KN p l e R s m args below meth c Q D T b0 L xs n ad M (pc + 1) bd kn) : W p l e R s m args below meth c H locs cs.1 cs.2 Q (F0 m pc LS (st.map (cf ad))) := by
  unfold lL at h
  split at h
  · rename_i a ha
    exact lv_lload_n hx hb hd rfl (lv_val hS.1 ha (by intro q; cases q)) (KN_t K hS hcs h (fa2 (rg_get hS ha) hS.2.2.1))
  · exact h.elim

theorem lv_aload0 {rest : List Value} {i : Nat} {cells slots : Nat} (hx : p.tables.exec = Jvm.exec) (hb : c.code = cc) (hd : decode cc pc = .ok (.aload i, 2)) (hl : LS[i]? = some (.val .null))
    (k : W p l e R s m args below meth c H locs cells slots Q (F0 m (pc + 2) LS (.null :: rest))) : W p l e R s m args below meth c H locs cells slots Q (F0 m pc LS rest) := by
  intro T hT X
  obtain ⟨t, a, b⟩ := k T hT X
  refine ⟨t, ?_, b⟩
  jvm_step X.here [X.here.top, hx, hb, hd, hl, Value.isRef]
  exact a
theorem lv_aload_n0 {rest : List Value} {i : Fin 4} {cells slots : Nat} (hx : p.tables.exec = Jvm.exec) (hb : c.code = cc) (hd : decode cc pc = .ok (.aload_n i, 1)) (hl : LS[i.val]? = some (.val .null))
    (k : W p l e R s m args below meth c H locs cells slots Q (F0 m (pc + 1) LS (.null :: rest))) : W p l e R s m args below meth c H locs cells slots Q (F0 m pc LS rest) := by
  intro T hT X
  obtain ⟨t, a, b⟩ := k T hT X
  refine ⟨t, ?_, b⟩
  jvm_step X.here [X.here.top, hx, hb, hd, hl, Value.isRef]
  exact a
theorem lv_astore0 {rest : List Value} {i nL : Nat} {lv lv' : List (Nat × Value)} {cells slots : Nat} (hx : p.tables.exec = Jvm.exec) (hb : c.code = cc) (hd : decode cc pc = .ok (.astore i, 2)) (h : lv_has LS nL lv) (hn : i < nL) (hl : (i, Value.null) :: lv.filter (fun q => !(q.1 == i) && !(q.1 + 1 == i && q.2.category == 2)) = lv')
    (kk : ∀ ls' : Array Slot, lv_has ls' nL lv' → W p l e R s m args below meth c H locs cells slots Q (F0 m (pc + 2) ls' rest)) : W p l e R s m args below meth c H locs cells slots Q (F0 m pc LS (.null :: rest)) := by
  obtain ⟨ls', e', h'⟩ := lv_store1 (v := .null) h hn rfl
  intro T hT X
  obtain ⟨t, a, b⟩ := kk ls' (hl ▸ h') T hT X
  refine ⟨t, ?_, b⟩
  jvm_step X.here [X.here.top, ↓top_set X.here.top, hx, hb, hd, e', Value.isRef]
  exact a
theorem lv_astore_n0 {rest : List Value} {i : Fin 4} {nL : Nat} {lv lv' : List (Nat × Value)} {cells slots : Nat} (hx : p.tables.exec = Jvm.exec) (hb : c.code = cc) (hd : decode cc pc = .ok (.astore_n i, 1)) (h : lv_has LS nL lv) (hn : i.val < nL) (hl : (i.val, Value.null) :: lv.filter (fun q => !(q.1 == i.val) && !(q.1 + 1 == i.val && q.2.category == 2)) = lv')
    (kk : ∀ ls' : Array Slot, lv_has ls' nL lv' → W p l e R s m args below meth c H locs cells slots Q (F0 m (pc + 1) ls' rest)) : W p l e R s m args below meth c H locs cells slots Q (F0 m pc LS (.null :: rest)) := by
  obtain ⟨ls', e', h'⟩ := lv_store1 (v := .null) h hn rfl
  intro T hT X
  obtain ⟨t, a, b⟩ := kk ls' (hl ▸ h') T hT X
  refine ⟨t, ?_, b⟩
  jvm_step X.here [X.here.top, ↓top_set X.here.top, hx, hb, hd, e', Value.isRef]
  exact a

theorem r_aload {i : Nat} (hx : p.tables.exec = Jvm.exec) (hb : c.code = cc) (hd : decode cc pc = .ok (.aload i, 2)) (hS : SP D T b0 L xs n s ad ls st M LS H locs) (hcs : cs.1 ≤ bd.1 ∧ cs.2 ≤ bd.2) (h : lR ls i (fun a => kn ls (.inr (.inr (.inl a)) :: st) M cs)) (K : KN p l e R s m args below meth c Q D T b0 L xs n ad M (pc + 2) bd kn) : W p l e R s m args below meth c H locs cs.1 cs.2 Q (F0 m pc LS (st.map (cf ad))) := by
  unfold lR at h
  split at h
  · rename_i a ha
    have hv := lv_val hS.1 ha (by intro q; cases q)
    have hk := KN_t K hS hcs h (fa2 (rg_get hS ha) hS.2.2.1)
    cases a with
    | zero => exact lv_aload0 hx hb hd hv hk
    | succ a => exact lv_aload hx hb hd hv hk
  · exact h.elim

theorem r_aload_n {i : Fin 4} (hx : p.tables.exec = Jvm.exec) (hb : c.code = cc) (hd : decode cc pc = .ok (.aload_n i, 1)) (hS : SP D T b0 L xs n s ad ls st M LS H locs) (hcs : cs.1 ≤ bd.1 ∧ cs.2 ≤ bd.2) (h : lR ls i.val (fun a => kn ls (.inr (.inr (.inl a)) :: st) M cs)) (K : KN p l e R s m args below meth c Q D T b0 L xs n ad M (pc + 1) bd kn) : W p l e R s m args below meth c H locs cs.1 cs.2 Q (F0 m pc LS (st.map (cf ad))) := by
  unfold lR at h
  split at h
  · rename_i a ha
    have hv := lv_val hS.1 ha (by intro q; cases q)
    have hk := KN_t K hS hcs h (fa2 (rg_get hS ha) hS.2.2.1)
    cases a with
    | zero => exact lv_aload_n0 hx hb hd hv hk
    | succ a => exact lv_aload_n hx hb hd rfl hv hk
  · exact h.elim

theorem r_istore {i : Nat} (hx : p.tables.exec = Jvm.exec) (hb : c.code = cc) (hd : decode cc pc = .ok (.istore i, 2)) (hS : SP D T b0 L xs n s ad ls st M LS H locs) (hcs : cs.1 ≤ bd.1 ∧ cs.2 ≤ bd.2) (h : p1I st (fun a r => kn (sto (.inl a) i ls) r M cs)) (hn : i < n) (K : KN p l e R s m args below meth c Q D T b0 L xs n ad M (pc + 2) bd kn) : W p l e R s m args below meth c H locs cs.1 cs.2 Q (F0 m pc LS (st.map (cf ad))) := by
  unfold p1I at h
  split at h
  · obtain ⟨h2, h1⟩ := fa1 hS.2.2.1
    exact lv_istore hx hb hd hS.1 hn rfl fun LS' hl => KN_l K hS hcs h h1 (rg_sto h2 hS.2.1) hl lvl_sto
  · exact h.elim

theorem r_istore_n {i : Fin 4} (hx : p.tables.exec = Jvm.exec) (hb : c.code = cc) (hd : decode cc pc = .ok (.istore_n i, 1)) (hS : SP D T b0 L xs n s ad ls st M LS H locs) (hcs : cs.1 ≤ bd.1 ∧ cs.2 ≤ bd.2) (h : p1I st (fun a r => kn (sto (.inl a) i.val ls) r M cs)) (hn : i.val < n) (K : KN p l e R s m args below meth c Q D T b0 L xs n ad M (pc + 1) bd kn) : W p l e R s m args below meth c H locs cs.1 cs.2 Q (F0 m pc LS (st.map (cf ad))) := by
  unfold p1I at h
  split at h
  · obtain ⟨h2, h1⟩ := fa1 hS.2.2.1
    exact lv_istore_n hx hb hd rfl hS.1 hn rfl fun LS' hl => KN_l K hS hcs h h1 (rg_sto h2 hS.2.1) hl lvl_sto
  · exact h.elim

theorem r_astore {i : Nat} (hx : p.tables.exec = Jvm.exec) (hb : c.code = cc) (hd : decode cc pc = .ok (.astore i, 2)) (hS : SP D T b0 L xs n s ad ls st M LS H locs) (hcs : cs.1 ≤ bd.1 ∧ cs.2 ≤ bd.2) (h : p1R st (fun a r => kn (sto (.inr (.inr (.inl a))) i ls) r M cs)) (hn : i < n) (K : KN p l e R s m args below meth c Q D T b0 L xs n ad M (pc + 2) bd kn) : W p l e R s m args below meth c H locs cs.1 cs.2 Q (F0 m pc LS (st.map (cf ad))) := by
  unfold p1R at h
  split at h
  · rename_i a r
    obtain ⟨h2, h1⟩ := fa1 hS.2.2.1
    cases a with
    | zero => exact lv_astore0 hx hb hd hS.1 hn rfl fun LS' hl => KN_l K hS hcs h h1 (rg_sto h2 hS.2.1) hl lvl_sto
    | succ a => exact lv_astore hx hb hd hS.1 hn rfl fun LS' hl => KN_l K hS hcs h h1 (rg_sto h2 hS.2.1) hl lvl_sto
  · exact h.elim

theorem r_astore_n {i : Fin 4} (hx : p.tables.exec = Jvm.exec) (hb : c.code = cc) (hd : decode cc pc = .ok (.astore_n i, 1)) (hS : SP D T b0 L xs n s ad ls st M LS H locs) (hcs : cs.1 ≤ bd.1 ∧ cs.2 ≤ bd.2) (h : p1R st (fun a r => kn (sto (.inr (.inr (.inl a))) i.val ls) r M cs)) (hn : i.val < n) (K : KN p l e R s m args below meth c Q D T b0 L xs n ad M (pc + 1) bd kn) : W p l e R s m args below meth c H locs cs.1 cs.2 Q (F0 m pc LS (st.map (cf ad))) := by
  unfold p1R at h
  split at h
  · rename_i a r
    obtain ⟨h2, h1⟩ := fa1 hS.2.2.1
    cases a with
    | zero => exact lv_astore_n0 hx hb hd hS.1 hn rfl fun LS' hl => KN_l K hS hcs h h1 (rg_sto h2 hS.2.1) hl lvl_sto
    | succ a => exact lv_astore_n hx hb hd rfl hS.1 hn rfl fun LS' hl => KN_l K hS hcs h h1 (rg_sto h2 hS.2.1) hl lvl_sto
  · exact h.elim

theorem r_lstore {i : Nat} (hx : p.tables.exec = Jvm.exec) (hb : c.code = cc) (hd : decode cc pc = .ok (.lstore i, 2)) (hS : SP D T b0 L xs n s ad ls st M LS H locs) (hcs : cs.1 ≤ bd.1 ∧ cs.2 ≤ bd.2) (h : (match (generalizing := false) st with | .inr (.inl a) :: r => kn (pu jk (i + 1) (sto (.inr (.inl a)) i ls)) r M cs | _ => False)) (hn : i + 1 < n) (K : KN p l e R s m args below meth c Q D T b0 L xs n ad M (pc + 2) bd kn) : W p l e R s m args below meth c H locs cs.1 cs.2 Q (F0 m pc LS (st.map (cf ad))) := by
  split at h
  · obtain ⟨h2, h1⟩ := fa1 hS.2.2.1
    exact lv_lstore hx hb hd hS.1 hn rfl fun LS' hl => KN_l K hS hcs h h1 (rg_pu (rg_sto h2 hS.2.1)) hl lvl_stoL
  · exact h.elim

theorem r_lstore_n {i : Fin 4} (hx : p.tables.exec = Jvm.exec) (hb : c.code = cc) (hd : decode cc pc = .ok (.lstore_n i, 1)) (hS : SP D T b0 L xs n s ad ls st M LS H locs) (hcs : cs.1 ≤ bd.1 ∧ cs.2 ≤ bd.2) (h : (match (generalizing := false) st with | .inr (.inl a) :: r => kn (pu jk (i.val + 1) (sto (.inr (.inl a)) i.val ls)) r M cs | _ => False)) (hn : i.val + 1 < n) (K : KN p l e R s m args below meth c Q D T b0 L xs n ad M (pc + 1) bd kn) : W p l e R s m args below meth c H locs cs.1 cs.2 Q (F0 m pc LS (st.map (cf ad))) := by
  split at h
  · obtain ⟨h2, h1⟩ := fa1 hS.2.2.1
    exact lv_lstore_n hx hb hd rfl hS.1 hn rfl fun LS' hl => KN_l K hS hcs h h1 (rg_pu (rg_sto h2 hS.2.1)) hl lvl_stoL
  · exact h.elim

theorem r_iinc {i : Nat} {z : Int} (hx : p.tables.exec = Jvm.exec) (hb : c.code = cc) (hd : decode cc pc = .ok (.iinc i z, 3)) (hS : SP D T b0 L xs n s ad ls st M LS H locs) (hcs : cs.1 ≤ bd.1 ∧ cs.2 ≤ bd.2) (h : lI ls i (fun a => kn (sto (.inl (wr (a + z))) i ls) st M cs)) (hn : i < n) (K : KN p l e R s m args below meth c Q D T b0 L xs n ad M (pc + 3) bd kn) : W p l e R s m args below meth c H locs cs.1 cs.2 Q (F0 m pc LS (st.map (cf ad))) := by
  unfold lI at h
  split at h
  · rename_i a ha
    have hi : i < ls.length := by
      by_cases hi : i < ls.length
      · exact hi
      · simp [Nat.not_lt.mp hi, jk] at ha
    have hm : (i, cf ad (.inl a)) ∈ lvl ad ls := lvl_mem.mpr ⟨.inl a, by rw [← ha]; simp [hi], (by intro q; cases q), rfl⟩
    obtain ⟨k, hk⟩ := List.getElem?_of_mem hm
    exact lv_iinc hx hb hd hS.1 hk (z_add _ _) hn rfl fun LS' hl => KN_l K hS hcs h hS.2.2.1 (rg_sto (wr_in _) hS.2.1) hl lvl_sto
  · exact h.elim

theorem r_dup (hx : p.tables.exec = Jvm.exec) (hb : c.code = cc) (hd : decode cc pc = .ok (.dup, 1)) (hS : SP D T b0 L xs n s ad ls st M LS H locs) (hcs : cs.1 ≤ bd.1 ∧ cs.2 ≤ bd.2) (h : (match (generalizing := false) st with | .inl a :: r => kn ls (.inl a :: .inl a :: r) M cs | .inr (.inr (.inl a)) :: r => kn ls (.inr (.inr (.inl a)) :: .inr (.inr (.inl a)) :: r) M cs | _ => False)) (K : KN p l e R s m args below meth c Q D T b0 L xs n ad M (pc + 1) bd kn) : W p l e R s m args below meth c H locs cs.1 cs.2 Q (F0 m pc LS (st.map (cf ad))) := by
  split at h
  · obtain ⟨h2, h1⟩ := fa1 hS.2.2.1
    exact lv_dup hx hb hd rfl (KN_t K hS hcs h (fa2 h2 (fa2 h2 h1)))
  · obtain ⟨h2, h1⟩ := fa1 hS.2.2.1
    exact lv_dup hx hb hd (cat_cf ad _) (KN_t K hS hcs h (fa2 h2 (fa2 h2 h1)))
  · exact h.elim

theorem r_pop (hx : p.tables.exec = Jvm.exec) (hb : c.code = cc) (hd : decode cc pc = .ok (.pop, 1)) (hS : SP D T b0 L xs n s ad ls st M LS H locs) (hcs : cs.1 ≤ bd.1 ∧ cs.2 ≤ bd.2) (h : (match (generalizing := false) st with | .inl _ :: r => kn ls r M cs | .inr (.inr (.inl _)) :: r => kn ls r M cs | _ => False)) (K : KN p l e R s m args below meth c Q D T b0 L xs n ad M (pc + 1) bd kn) : W p l e R s m args below meth c H locs cs.1 cs.2 Q (F0 m pc LS (st.map (cf ad))) := by
  split at h
  · obtain ⟨h2, h1⟩ := fa1 hS.2.2.1
    exact lv_pop hx hb hd rfl (KN_t K hS hcs h h1)
  · obtain ⟨h2, h1⟩ := fa1 hS.2.2.1
    exact lv_pop hx hb hd (cat_cf ad _) (KN_t K hS hcs h h1)
  · exact h.elim

theorem r_dup2 (hx : p.tables.exec = Jvm.exec) (hb : c.code = cc) (hd : decode cc pc = .ok (.dup2, 1)) (hS : SP D T b0 L xs n s ad ls st M LS H locs) (hcs : cs.1 ≤ bd.1 ∧ cs.2 ≤ bd.2) (h : (match (generalizing := false) st with | .inl i :: .inr (.inr (.inl a)) :: r => kn ls (.inl i :: .inr (.inr (.inl a)) :: .inl i :: .inr (.inr (.inl a)) :: r) M cs | _ => False)) (K : KN p l e R s m args below meth c Q D T b0 L xs n ad M (pc + 1) bd kn) : W p l e R s m args below meth c H locs cs.1 cs.2 Q (F0 m pc LS (st.map (cf ad))) := by
  split at h
  · obtain ⟨h2, h1⟩ := fa1 hS.2.2.1
    obtain ⟨h3, h1⟩ := fa1 h1
    exact lv_dup2_11 hx hb hd rfl (cat_cf ad _) (KN_t K hS hcs h (fa2 h2 (fa2 h3 (fa2 h2 (fa2 h3 h1)))))
  · exact h.elim

theorem r_goto {off : Int} {t : Nat} (hx : p.tables.exec = Jvm.exec) (hb : c.code = cc) (hd : decode cc pc = .ok (.goto off, 3)) (hS : SP D T b0 L xs n s ad ls st M LS H locs) (hcs : cs.1 ≤ bd.1 ∧ cs.2 ≤ bd.2) (ht : (pc : Int) + off = (t : Int)) (h : kj t st) (J : KJ p l e R s m args below meth c Q D T b0 L xs n ad ls M LS H locs cs kj) : W p l e R s m args below meth c H locs cs.1 cs.2 Q (F0 m pc LS (st.map (cf ad))) := lv_goto hx hb hd ht (J t st h hS)

theorem r_icmp_eq {off : Int} {t : Nat} (hx : p.tables.exec = Jvm.exec) (hb : c.code = cc) (hd : decode cc pc = .ok (.if_icmp .eq off, 3)) (hS : SP D T b0 L xs n s ad ls st M LS H locs) (hcs : cs.1 ≤ bd.1 ∧ cs.2 ≤ bd.2) (ht : (pc : Int) + off = (t : Int)) (h : p2I st (fun a b r => cnd (decide (a = b)) (kj t r) (kn ls r M cs))) (J : KJ p l e R s m args below meth c Q D T b0 L xs n ad ls M LS H locs cs kj) (K : KN p l e R s m args below meth c Q D T b0 L xs n ad M (pc + 3) bd kn) : W p l e R s m args below meth c H locs cs.1 cs.2 Q (F0 m pc LS (st.map (cf ad))) := by
  unfold p2I at h
  split at h
  · obtain ⟨h2, h1⟩ := fa1 hS.2.2.1
    obtain ⟨h3, h1⟩ := fa1 h1
    exact lv_icmp_eq hx hb hd ht (fun q => J t _ (cnd_t h ((z_eq h3 h2).mp q)) (SP_fs hS h1)) (fun q => KN_t K hS hcs (cnd_f h (fun z => q ((z_eq h3 h2).mpr z))) h1)
  · exact h.elim

theorem r_if_eq {off : Int} {t : Nat} (hx : p.tables.exec = Jvm.exec) (hb : c.code = cc) (hd : decode cc pc = .ok (.ifCond .eq off, 3)) (hS : SP D T b0 L xs n s ad ls st M LS H locs) (hcs : cs.1 ≤ bd.1 ∧ cs.2 ≤ bd.2) (ht : (pc : Int) + off = (t : Int)) (h : p1I st (fun a r => cnd (decide (a = 0)) (kj t r) (kn ls r M cs))) (J : KJ p l e R s m args below meth c Q D T b0 L xs n ad ls M LS H locs cs kj) (K : KN p l e R s m args below meth c Q D T b0 L xs n ad M (pc + 3) bd kn) : W p l e R s m args below meth c H locs cs.1 cs.2 Q (F0 m pc LS (st.map (cf ad))) := by
  unfold p1I at h
  split at h
  · obtain ⟨h2, h1⟩ := fa1 hS.2.2.1
    have z0 : inR 0 := ⟨by omega, by omega⟩
    exact lv_if_eq hx hb hd ht (fun q => J t _ (cnd_t h ((z_eq h2 z0).mp q)) (SP_fs hS h1)) (fun q => KN_t K hS hcs (cnd_f h (fun z => q ((z_eq h2 z0).mpr z))) h1)
  · exact h.elim

theorem r_icmp_ne {off : Int} {t : Nat} (hx : p.tables.exec = Jvm.exec) (hb : c.code = cc) (hd : decode cc pc = .ok (.if_icmp .ne off, 3)) (hS : SP D T b0 L xs n s ad ls st M LS H locs) (hcs : cs.1 ≤ bd.1 ∧ cs.2 ≤ bd.2) (ht : (pc : Int) + off = (t : Int)) (h : p2I st (fun a b r => cnd (decide (a = b)) (kn ls r M cs) (kj t r))) (J : KJ p l e R s m args below meth c Q D T b0 L xs n ad ls M LS H locs cs kj) (K : KN p l e R s m args below meth c Q D T b0 L xs n ad M (pc + 3) bd kn) : W p l e R s m args below meth c H locs cs.1 cs.2 Q (F0 m pc LS (st.map (cf ad))) := by
  unfold p2I at h
  split at h
  · obtain ⟨h2, h1⟩ := fa1 hS.2.2.1
    obtain ⟨h3, h1⟩ := fa1 h1
    exact lv_icmp_ne hx hb hd ht (fun q => J t _ (cnd_f h (fun z => q ((z_eq h3 h2).mpr z))) (SP_fs hS h1)) (fun q => KN_t K hS hcs (cnd_t h ((z_eq h3 h2).mp q)) h1)
  · exact h.elim

theorem r_if_ne {off : Int} {t : Nat} (hx : p.tables.exec = Jvm.exec) (hb : c.code = cc) (hd : decode cc pc = .ok (.ifCond .ne off, 3)) (hS : SP D T b0 L xs n s ad ls st M LS H locs) (hcs : cs.1 ≤ bd.1 ∧ cs.2 ≤ bd.2) (ht : (pc : Int) + off = (t : Int)) (h : p1I st (fun a r => cnd (decide (a = 0)) (kn ls r M cs) (kj t r))) (J : KJ p l e R s m args below meth c Q D T b0 L xs n ad ls M LS H locs cs kj) (K : KN p l e R s m args below meth c Q D T b0 L xs n ad M (pc + 3) bd kn) : W p l e R s m args below meth c H locs cs.1 cs.2 Q (F0 m pc LS (st.map (cf ad))) := by
  unfold p1I at h
  split at h
  · obtain ⟨h2, h1⟩ := fa1 hS.2.2.1
    have z0 : inR 0 := ⟨by omega, by omega⟩
    exact lv_if_ne hx hb hd ht (fun q => J t _ (cnd_f h (fun z => q ((z_eq h2 z0).mpr z))) (SP_fs hS h1)) (fun q => KN_t K hS hcs (cnd_t h ((z_eq h2 z0).mp q)) h1)
  · exact h.elim

theorem r_icmp_lt {off : Int} {t : Nat} (hx : p.tables.exec = Jvm.exec) (hb : c.code = cc) (hd : decode cc pc = .ok (.if_icmp .lt off, 3)) (hS : SP D T b0 L xs n s ad ls st M LS H locs) (hcs : cs.1 ≤ bd.1 ∧ cs.2 ≤ bd.2) (ht : (pc : Int) + off = (t : Int)) (h : p2I st (fun a b r => cnd (decide (a < b)) (kj t r) (kn ls r M cs))) (J : KJ p l e R s m args below meth c Q D T b0 L xs n ad ls M LS H locs cs kj) (K : KN p l e R s m args below meth c Q D T b0 L xs n ad M (pc + 3) bd kn) : W p l e R s m args below meth c H locs cs.1 cs.2 Q (F0 m pc LS (st.map (cf ad))) := by
  unfold p2I at h
  split at h
  · obtain ⟨h2, h1⟩ := fa1 hS.2.2.1
    obtain ⟨h3, h1⟩ := fa1 h1
    exact lv_icmp_lt hx hb hd ht (fun q => J t _ (cnd_t h ((z_lt h3 h2).mp q)) (SP_fs hS h1)) (fun q => KN_t K hS hcs (cnd_f h (fun z => q ((z_lt h3 h2).mpr z))) h1)
  · exact h.elim

theorem r_if_lt {off : Int} {t : Nat} (hx : p.tables.exec = Jvm.exec) (hb : c.code = cc) (hd : decode cc pc = .ok (.ifCond .lt off, 3)) (hS : SP D T b0 L xs n s ad ls st M LS H locs) (hcs : cs.1 ≤ bd.1 ∧ cs.2 ≤ bd.2) (ht : (pc : Int) + off = (t : Int)) (h : p1I st (fun a r => cnd (decide (a < 0)) (kj t r) (kn ls r M cs))) (J : KJ p l e R s m args below meth c Q D T b0 L xs n ad ls M LS H locs cs kj) (K : KN p l e R s m args below meth c Q D T b0 L xs n ad M (pc + 3) bd kn) : W p l e R s m args below meth c H locs cs.1 cs.2 Q (F0 m pc LS (st.map (cf ad))) := by
  unfold p1I at h
  split at h
  · obtain ⟨h2, h1⟩ := fa1 hS.2.2.1
    have z0 : inR 0 := ⟨by omega, by omega⟩
    exact lv_if_lt hx hb hd ht (fun q => J t _ (cnd_t h ((z_lt h2 z0).mp q)) (SP_fs hS h1)) (fun q => KN_t K hS hcs (cnd_f h (fun z => q ((z_lt h2 z0).mpr z))) h1)
  · exact h.elim

theorem r_icmp_ge {off : Int} {t : Nat} (hx : p.tables.exec = Jvm.exec) (hb : c.code = cc) (hd : decode cc pc = .ok (.if_icmp .ge off, 3)) (hS : SP D T b0 L xs n s ad ls st M LS H locs) (hcs : cs.1 ≤ bd.1 ∧ cs.2 ≤ bd.2) (ht : (pc : Int) + off = (t : Int)) (h : p2I st (fun a b r => cnd (decide (a < b)) (kn ls r M cs) (kj t r))) (J : KJ p l e R s m args below meth c Q D T b0 L xs n ad ls M LS H locs cs kj) (K : KN p l e R s m args below meth c Q D T b0 L xs n ad M (pc + 3) bd kn) : W p l e R s m args below meth c H locs cs.1 cs.2 Q (F0 m pc LS (st.map (cf ad))) := by
  unfold p2I at h
  split at h
  · obtain ⟨h2, h1⟩ := fa1 hS.2.2.1
    obtain ⟨h3, h1⟩ := fa1 h1
    exact lv_icmp_ge hx hb hd ht (fun q => J t _ (cnd_f h (by have := (z_le h2 h3).mp q; omega)) (SP_fs hS h1)) (fun q => KN_t K hS hcs (cnd_t h (by have := mt (z_le h2 h3).mpr q; omega)) h1)
  · exact h.elim

theorem r_if_ge {off : Int} {t : Nat} (hx : p.tables.exec = Jvm.exec) (hb : c.code = cc) (hd : decode cc pc = .ok (.ifCond .ge off, 3)) (hS : SP D T b0 L xs n s ad ls st M LS H locs) (hcs : cs.1 ≤ bd.1 ∧ cs.2 ≤ bd.2) (ht : (pc : Int) + off = (t : Int)) (h : p1I st (fun a r => cnd (decide (a < 0)) (kn ls r M cs) (kj t r))) (J : KJ p l e R s m args below meth c Q D T b0 L xs n ad ls M LS H locs cs kj) (K : KN p l e R s m args below meth c Q D T b0 L xs n ad M (pc + 3) bd kn) : W p l e R s m args below meth c H locs cs.1 cs.2 Q (F0 m pc LS (st.map (cf ad))) := by
  unfold p1I at h
  split at h
  · obtain ⟨h2, h1⟩ := fa1 hS.2.2.1
    have z0 : inR 0 := ⟨by omega, by omega⟩
    exact lv_if_ge hx hb hd ht (fun q => J t _ (cnd_f h (by have := (z_le z0 h2).mp q; omega)) (SP_fs hS h1)) (fun q => KN_t K hS hcs (cnd_t h (by have := mt (z_le z0 h2).mpr q; omega)) h1)
  · exact h.elim

theorem r_icmp_gt {off : Int} {t : Nat} (hx : p.tables.exec = Jvm.exec) (hb : c.code = cc) (hd : decode cc pc = .ok (.if_icmp .gt off, 3)) (hS : SP D T b0 L xs n s ad ls st M LS H locs) (hcs : cs.1 ≤ bd.1 ∧ cs.2 ≤ bd.2) (ht : (pc : Int) + off = (t : Int)) (h : p2I st (fun a b r => cnd (decide (b < a)) (kj t r) (kn ls r M cs))) (J : KJ p l e R s m args below meth c Q D T b0 L xs n ad ls M LS H locs cs kj) (K : KN p l e R s m args below meth c Q D T b0 L xs n ad M (pc + 3) bd kn) : W p l e R s m args below meth c H locs cs.1 cs.2 Q (F0 m pc LS (st.map (cf ad))) := by
  unfold p2I at h
  split at h
  · obtain ⟨h2, h1⟩ := fa1 hS.2.2.1
    obtain ⟨h3, h1⟩ := fa1 h1
    exact lv_icmp_gt hx hb hd ht (fun q => J t _ (cnd_t h ((z_lt h2 h3).mp q)) (SP_fs hS h1)) (fun q => KN_t K hS hcs (cnd_f h (fun z => q ((z_lt h2 h3).mpr z))) h1)
  · exact h.elim

theorem r_if_gt {off : Int} {t : Nat} (hx : p.tables.exec = Jvm.exec) (hb : c.code = cc) (hd : decode cc pc = .ok (.ifCond .gt off, 3)) (hS : SP D T b0 L xs n s ad ls st M LS H locs) (hcs : cs.1 ≤ bd.1 ∧ cs.2 ≤ bd.2) (ht : (pc : Int) + off = (t : Int)) (h : p1I st (fun a r => cnd (decide (0 < a)) (kj t r) (kn ls r M cs))) (J : KJ p l e R s m args below meth c Q D T b0 L xs n ad ls M LS H locs cs kj) (K : KN p l e R s m args below meth c Q D T b0 L xs n ad M (pc + 3) bd kn) : W p l e R s m args below meth c H locs cs.1 cs.2 Q (F0 m pc LS (st.map (cf ad))) := by
  unfold p1I at h
  split at h
  · obtain ⟨h2, h1⟩ := fa1 hS.2.2.1
    have z0 : inR 0 := ⟨by omega, by omega⟩
    exact lv_if_gt hx hb hd ht (fun q => J t _ (cnd_t h ((z_lt z0 h2).mp q)) (SP_fs hS h1)) (fun q => KN_t K hS hcs (cnd_f h (fun z => q ((z_lt z0 h2).mpr z))) h1)
  · exact h.elim

theorem r_icmp_le {off : Int} {t : Nat} (hx : p.tables.exec = Jvm.exec) (hb : c.code = cc) (hd : decode cc pc = .ok (.if_icmp .le off, 3)) (hS : SP D T b0 L xs n s ad ls st M LS H locs) (hcs : cs.1 ≤ bd.1 ∧ cs.2 ≤ bd.2) (ht : (pc : Int) + off = (t : Int)) (h : p2I st (fun a b r => cnd (decide (b < a)) (kn ls r M cs) (kj t r))) (J : KJ p l e R s m args below meth c Q D T b0 L xs n ad ls M LS H locs cs kj) (K : KN p l e R s m args below meth c Q D T b0 L xs n ad M (pc + 3) bd kn) : W p l e R s m args below meth c H locs cs.1 cs.2 Q (F0 m pc LS (st.map (cf ad))) := by
  unfold p2I at h
  split at h
  · obtain ⟨h2, h1⟩ := fa1 hS.2.2.1
    obtain ⟨h3, h1⟩ := fa1 h1
    exact lv_icmp_le hx hb hd ht (fun q => J t _ (cnd_f h (by have := (z_le h3 h2).mp q; omega)) (SP_fs hS h1)) (fun q => KN_t K hS hcs (cnd_t h (by have := mt (z_le h3 h2).mpr q; omega)) h1)
  · exact h.elim

theorem r_if_le {off : Int} {t : Nat} (hx : p.tables.exec = Jvm.exec) (hb : c.code = cc) (hd : decode cc pc = .ok (.ifCond .le off, 3)) (hS : SP D T b0 L xs n s ad ls st M LS H locs) (hcs : cs.1 ≤ bd.1 ∧ cs.2 ≤ bd.2) (ht : (pc : Int) + off = (t : Int)) (h : p1I st (fun a r => cnd (decide (0 < a)) (kn ls r M cs) (kj t r))) (J : KJ p l e R s m args below meth c Q D T b0 L xs n ad ls M LS H locs cs kj) (K : KN p l e R s m args below meth c Q D T b0 L xs n ad M (pc + 3) bd kn) : W p l e R s m args below meth c H locs cs.1 cs.2 Q (F0 m pc LS (st.map (cf ad))) := by
  unfold p1I at h
  split at h
  · obtain ⟨h2, h1⟩ := fa1 hS.2.2.1
    have z0 : inR 0 := ⟨by omega, by omega⟩
    exact lv_if_le hx hb hd ht (fun q => J t _ (cnd_f h (by have := (z_le h2 z0).mp q; omega)) (SP_fs hS h1)) (fun q => KN_t K hS hcs (cnd_t h (by have := mt (z_le h2 z0).mpr q; omega)) h1)
  · exact h.elim

end RL
