/-- the texts stand as they are -/
def TX (F : FI) : Prop := ∀ t i : Nat, t < NSTR → i < strL t → F (2000000 + t) i = strC t i
theorem pTs_c {f g : Nat → Int} : ∀ (K i : Nat) (c : Int), (∀ j, i ≤ j → j < i + K → f j = g j) → pTs f K i c = pTs g K i c := by
  intro K
  induction K with
  | zero => intro i c _; rfl
  | succ K ih =>
    intro i c h
    unfold pTs
    rw [h i (by omega) (by omega)]
    exact ih (i + 1) _ (fun j a b => h j (by omega) (by omega))
/-- a text's code -/
def tC (t : Nat) : Int := pTs (fun i => strC t i) (strL t) 0 0
theorem kk_t {t : Nat} (ht : t < 51) : kk (2000000 + t) = (7, strL t) := by
  unfold kk
  rw [if_neg (by omega), if_neg (by omega), if_pos (by omega), show 2000000 + t - 2000000 = t by omega]
theorem c_79t {k : Int → FS → FI → FJ → Prop} {r0 t : Nat} {S : FS} {F : FI} {G : FJ} (hr : r0 = 2000000 + t) (ht : t < 51) (ht2 : t < NSTR) (hl : strL t ≤ 600) (hT : TX F) (hk : k (tC t) S F G) : calI 0 79 [.inr (.inr (.inl r0))] (mm S F G) k nof := by
  subst hr
  have e := kk_t ht
  refine c_79 (n := strL t) (by rw [e]) (by rw [e]) hl ?_
  rw [pTs_c (g := fun i => strC t i) (strL t) 0 0 (fun j a b => hT t j ht2 (by omega))]
  exact hk
