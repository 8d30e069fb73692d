/-! ===== the class: the best of the lawful moves ===== -/
theorem bst_k {v : Int → Int} {b : Int} {m : Nat} : ∀ {n : Nat}, m ≤ n → (∀ k : Int, m ≤ k → k < n → ¬ bit b k) → bst v b n = bst v b m := by
  intro n
  induction n with
  | zero => intro h _; rw [Nat.le_zero.mp h]
  | succ j ih =>
    intro h hn
    by_cases q : m = j + 1
    · rw [q]
    · have e := bst_f (v := v) (i := (j : Int)) (by omega) (hn j (by omega) (by omega))
      rw [show ((j : Int) + 1).toNat = j + 1 by omega, show ((j : Int)).toNat = j by omega] at e
      rw [e]
      exact ih (by omega) (fun k a b => hn k a (by omega))
/-- the worth of a move in some columns -/
noncomputable def vE (l : Nat → Int) (st h p n : Int) (f : Int → Int → Int → Int) (cs sg m : Int) : Int := sg * sSum (bit cs) (fun c => sBr l st h p n m (f c)) 12
theorem sBr_B {l : Nat → Int} {st h p n m : Int} {f : Int → Int → Int} (hv : LV l) (h1 : 0 ≤ h) (h2 : h < l 3) (h3 : 0 ≤ m) (h4 : m ≤ l 1) (ep : B5 (f p (sAf l st p n))) (eq : m ≠ 0 → B5 (f (sOth l (m - 1) p) (sAf l st (sOth l (m - 1) p) n))) : -36028797018963968 ≤ sBr l st h p n m f ∧ sBr l st h p n m f ≤ 36028797018963968 := by
  obtain ⟨⟨hv1, hv2⟩, ⟨hv3, hv4⟩, ⟨hv5, hv6⟩, ⟨hv7, hv8⟩, ⟨hv9, hv10⟩, ⟨hv11, hv12⟩, ⟨hv13, hv14⟩, hvw, hvs, hvk, hvc, hvx⟩ := id hv
  unfold B5 at ep eq
  unfold sBr
  split
  · split <;> omega
  · rename_i c
    have eq := eq c
    have hN := hvs (m - 1) h (by omega) (by omega) (by omega) (by omega)
    split
    · have m1 := mul_b (a := f p (sAf l st p n)) (b := sSn l (m - 1) h) (c := 1125899906842624) ep.1 ep.2 hN.1
      have m2 := mul_b (a := f (sOth l (m - 1) p) (sAf l st (sOth l (m - 1) p) n)) (b := 16 - sSn l (m - 1) h) (c := 1125899906842624) eq.1 eq.2 (by omega)
      rw [Int.mul_comm (sSn l (m - 1) h), Int.mul_comm (16 - sSn l (m - 1) h)]
      omega
    · omega
theorem sSum_bd {c : Int → Prop} {g : Int → Int} {B : Int} (hB : 0 ≤ B) : ∀ n : Nat, (∀ k : Int, 0 ≤ k → k < n → c k → -B ≤ g k ∧ g k ≤ B) → -((n : Int) * B) ≤ sSum c g n ∧ sSum c g n ≤ (n : Int) * B := by
  intro n
  induction n with
  | zero => intro _; simp [sSum]
  | succ m ih =>
    intro h
    have i := ih (fun k a b => h k a (by omega))
    have e : ((m + 1 : Nat) : Int) * B = (m : Int) * B + B := by
      push_cast
      rw [Int.add_mul, Int.one_mul]
    rw [e]
    unfold sSum
    split
    · rename_i q
      have := h m (by omega) (by omega) q
      omega
    · omega
/-- all that the moves of a mask lead to stands in the columns -/
def YM (G : FJ) (d : Nat) (l : Nat → Int) (st h p n : Int) (f : Int → Int → Int → Int) (cs M : Int) : Prop := (∀ m : Int, 0 ≤ m → bit M m → AM l p m) ∧ YL G d l st h p n f cs ∧ ∀ m : Int, 1 ≤ m → bit M m → YL G d l st h (sOth l (m - 1) p) n f cs
theorem vE_b {G : FJ} {d : Nat} {l : Nat → Int} {st h p n cs sg M m : Int} {f : Int → Int → Int → Int} (hv : LV l) (h1 : 0 ≤ h) (h2 : h < l 3) (hy : YM G d l st h p n f cs M) (hs : sg = 1 ∨ sg = -1) (h0 : 0 ≤ m) (hm : bit M m) :
    -432345564227567616 ≤ sSum (bit cs) (fun c => sBr l st h p n m (f c)) 12 ∧ sSum (bit cs) (fun c => sBr l st h p n m (f c)) 12 ≤ 432345564227567616 ∧ wl (sg * sSum (bit cs) (fun c => sBr l st h p n m (f c)) 12) = vE l st h p n f cs sg m := by
  obtain ⟨⟨hv1, hv2⟩, ⟨hv3, hv4⟩, ⟨hv5, hv6⟩, ⟨hv7, hv8⟩, ⟨hv9, hv10⟩, ⟨hv11, hv12⟩, ⟨hv13, hv14⟩, hvw, hvs, hvk, hvc, hvx⟩ := id hv
  have am := hy.1 m h0 hm
  have b := sSum_bd (c := bit cs) (g := fun c => sBr l st h p n m (f c)) (B := 36028797018963968) (by omega) 12 (fun k a b c => sBr_B hv h1 h2 h0 (by unfold AM at am; omega) (hy.2.1 k a (by omega) c).2 (fun q => (hy.2.2 m (by omega) hm k a (by omega) c).2))
  have e12 : ((12 : Nat) : Int) * 36028797018963968 = 432345564227567616 := by decide
  rw [e12] at b
  refine ⟨b.1, b.2, ?_⟩
  unfold vE
  rcases hs with e | e <;> rw [e] <;> exact wl_id (by omega) (by omega)
def PC (x k : Nat) : Prop := pcn 32 x = k
theorem PC_l {x j q k : Nat} (e : x = 2 ^ j * (2 * q + 1)) (h : x < 4294967296) (hp : PC x k) : ∃ r, k = r + 1 ∧ PC (2 ^ j * (2 * q)) r := by
  unfold PC at hp
  have := pcn_l (n := 32) e (low_k (n := 32) e h)
  exact ⟨_, hp.symm.trans this, rfl⟩
theorem PC_z {x : Nat} (h : x < 4294967296) (hp : PC x 0) : x = 0 := pcn_z 32 x h hp
theorem PC_0 {k : Nat} (hp : PC 0 k) : k = 0 := by
  unfold PC at hp
  rw [pcn_0] at hp
  exact hp.symm
theorem pcn_le : ∀ n x, pcn n x ≤ n := by
  intro n
  induction n with
  | zero => intro x; exact Nat.le_refl _
  | succ n ih =>
    intro x
    have := ih (x / 2)
    show x % 2 + pcn n (x / 2) ≤ n + 1
    omega
theorem PC_b {x k : Nat} (hp : PC x k) : k ≤ 32 := by
  unfold PC at hp
  rw [← hp]
  exact pcn_le 32 x
theorem PC_e {x : Nat} : PC x (pcn 32 x) := rfl
theorem l_266 {Q : Rs → Mm → Prop} {a b c d : Nat} {l : Nat → Int} {w : La} {st h p n cs sg x5 y7 x9 : Int} {M L t mv r : Nat} {f : Int → Int → Int → Int} {S : FS} {F F0 : FI} {G : FJ} (hx : YX S F G a b c d l w st) (h1 : 0 ≤ p) (h1' : p < l 0) (h2 : 0 ≤ h) (h2' : h < l 3) (h3 : 1 ≤ n) (h3' : n ≤ st) (hst : ST F d l st h p n)
    (hc0 : 1 ≤ cs) (hc1 : cs < 4096) (hsg : sg = 1 ∨ sg = -1) (hM : M < 33554432) (hy : YM G d l st h p n f cs M) (hF : KA 13 F F0) (hL : ∀ j : Nat, bit L j ↔ bit M j ∧ t ≤ j) (hL2 : L < 33554432) (ht : (t : Int) ≤ l 1 + 1) (h9 : 0 ≤ x9) (hpm : PC M mv) (hpl : PC L r) (hp : (mv : Int) = x9 + r)
    (hb0 : x9 = 0 → bst (vE l st h p n f cs sg) M t = -1 ∧ (mv = 1 → bit M x5)) (hb1 : x9 ≠ 0 → x5 = bst (vE l st h p n f cs sg) M t ∧ y7 = vE l st h p n f cs sg x5 ∧ x5 ≠ -1) (hM1 : 1 ≤ M) (h5 : 0 ≤ x5)
    (hk : ∀ F', KA 13 F' F0 → Q (.inl (some (.inl (bst (vE l st h p n f cs sg) M (l 1 + 1).toNat)))) (mm S F' G)) : wph 3 266 30 [.inr (.inr (.inl 22)), jk, .inl cs, .inl sg, .inl (mv : Int), .inl x5, .inl (L : Int), .inr (.inl y7), jk, .inl x9] [] (mm S F G) (0, 0) Q := by
  have hv := hx.2.2.2.2.2.1
  have hv' := hv
  obtain ⟨⟨hv1, hv2⟩, ⟨hv3, hv4⟩, ⟨hv5, hv6⟩, ⟨hv7, hv8⟩, ⟨hv9, hv10⟩, ⟨hv11, hv12⟩, ⟨hv13, hv14⟩, hvw, hvs, hvk, hvc, hvx⟩ := id hv
  have bl : ∀ m : Int, 0 ≤ m → bit M m → m ≤ l 1 := fun m a b => by
    have := hy.1 m a b
    unfold AM at this
    omega
  have pmb := PC_b hpm
  refine sg_266_30 ?_
  have done : r = 0 → bst (vE l st h p n f cs sg) M (l 1 + 1).toNat = bst (vE l st h p n f cs sg) M t := by
    intro z
    rw [z] at hpl
    have l0 : L = 0 := PC_z (by omega) hpl
    refine bst_k (by omega) (fun k k1 k2 kb => ?_)
    obtain ⟨K, rfl⟩ := Int.eq_ofNat_of_zero_le (show 0 ≤ k by omega)
    have := (hL K).mpr ⟨kb, by omega⟩
    rw [l0, bit_tb, Nat.zero_testBit] at this
    exact absurd this (by decide)
  refine cn_i (fun g => ?_) (fun g => ?_)
  · refine cn_i (fun g2 => ?_) (fun g2 => ?_)
    · have l1 : 1 ≤ L := by
        apply Classical.byContradiction
        intro q
        have : L = 0 := by omega
        rw [this] at hpl
        have := PC_0 hpl
        omega
      refine c_265 l1 (by omega) (fun j q e => ?_)
      have lb := low_b e
      have lx := low_x e
      obtain ⟨r', er, hpl'⟩ := PC_l e (by omega) hpl
      have hj := (hL j).mp lb.1
      have jl := bl j (by omega) hj.1
      have e2 := bst_k (v := vE l st h p n f cs sg) (b := M) (m := t) (n := j) hj.2 (fun k k1 k2 kb => by
        obtain ⟨K, rfl⟩ := Int.eq_ofNat_of_zero_le (show 0 ≤ k by omega)
        exact lb.2 K (by omega) ((hL K).mpr ⟨kb, by omega⟩))
      have e3 := bst_t (v := vE l st h p n f cs sg) (b := M) (i := j) (by omega) hj.1
      rw [show ((j : Int) + 1).toNat = j + 1 by omega, show ((j : Int)).toNat = j by omega, e2] at e3
      have el : an (L : Int) (wr ((L : Int) - 1)) = ((2 ^ j * (2 * q) : Nat) : Int) := by
        rw [wr_id (by omega) (by omega), show (L : Int) - 1 = ((L - 1 : Nat) : Int) by omega, an_n (by omega), low_c e]
      have hl2 : 2 ^ j * (2 * q) ≤ L := by
        rw [e]
        exact Nat.mul_le_mul_left _ (by omega)
      have hLn : ∀ i : Nat, bit ((2 ^ j * (2 * q) : Nat) : Int) i ↔ bit M i ∧ j + 1 ≤ i := by
        intro i
        rw [lx i, hL i]
        constructor
        · intro ⟨⟨u1, u2⟩, u3⟩
          refine ⟨u1, ?_⟩
          apply Classical.byContradiction
          intro u4
          exact lb.2 i (by omega) ((hL i).mpr ⟨u1, u2⟩)
        · intro ⟨u1, u2⟩
          exact ⟨⟨u1, by omega⟩, by omega⟩
      refine c_268 hx h1 h1' h2 h2' h3 h3' hst (hy.1 j (by omega) hj.1) (fun F1 k1 ai => ?_)
      have hx1 := YX_a hx k1
      refine c_269 (m := (j : Int)) (f := f) hx1 h1 h1' h2 h2' h3 h3' ai jl hc0 hc1 (fun r hr => ?_) (fun v ev => ?_)
      · rcases hr with hr | ⟨hr1, hr2⟩
        · rw [hr]
          exact hy.2.1
        · rw [hr2]
          exact hy.2.2 j hr1 hj.1
      · obtain ⟨v1, v2, v3⟩ := vE_b hv h2 h2' hy hsg (by omega) hj.1
        rw [← ev] at v3
        rw [el, v3, wr_id (a := x9 + 1) (by omega) (by omega)]
        have hF1 := KA_t hF k1
        have st1 := ST_k hst k1
        have rep : bst (vE l st h p n f cs sg) M (j + 1) = j → wph 3 266 30 [.inr (.inr (.inl 22)), jk, .inl cs, .inl sg, .inl (mv : Int), .inl (j : Int), .inl ((2 ^ j * (2 * q) : Nat) : Int), .inr (.inl (vE l st h p n f cs sg j)), jk, .inl (x9 + 1)] [] (mm S F1 G) (0, 0) Q := by
          intro hb
          exact l_266 (t := j + 1) hx1 h1 h1' h2 h2' h3 h3' st1 hc0 hc1 hsg hM hy hF1 hLn (by omega) (by omega) (by omega) hpm hpl' (by omega) (fun z => by omega) (fun _ => ⟨hb.symm, rfl, by omega⟩) hM1 (by omega) hk
        have kep : x9 ≠ 0 → bst (vE l st h p n f cs sg) M (j + 1) = x5 → wph 3 266 30 [.inr (.inr (.inl 22)), jk, .inl cs, .inl sg, .inl (mv : Int), .inl x5, .inl ((2 ^ j * (2 * q) : Nat) : Int), .inr (.inl y7), jk, .inl (x9 + 1)] [] (mm S F1 G) (0, 0) Q := by
          intro hz hb
          obtain ⟨w1, w2, w3⟩ := hb1 hz
          exact l_266 (t := j + 1) hx1 h1 h1' h2 h2' h3 h3' st1 hc0 hc1 hsg hM hy hF1 hLn (by omega) (by omega) (by omega) hpm hpl' (by omega) (fun z => by omega) (fun _ => ⟨hb.symm, w2, w3⟩) hM1 h5 hk
        refine cn_i (fun z => ?_) (fun z => ?_)
        · exact rep (e3.trans (if_pos (Or.inl (hb0 z).1)))
        · obtain ⟨w1, w2, w3⟩ := hb1 z
          refine cn_i (fun y => ?_) (fun y => ?_)
          · refine rep (e3.trans (if_pos (Or.inr ?_)))
            rw [← w1, ← w2]
            exact lc_p.mp y
          · refine kep z (e3.trans ((if_neg (fun u => ?_)).trans w1.symm))
            rw [← w1, ← w2] at u
            exact u.elim w3 (fun u => y (lc_p.mpr u))
    · have p1 : x9 = 0 ∧ mv = 1 := by omega
      obtain ⟨z0, pm⟩ := p1
      have hkk := hk F hF
      have b5 := (hb0 z0).2 pm
      obtain ⟨X, rfl⟩ := Int.eq_ofNat_of_zero_le h5
      obtain ⟨j, q, e⟩ := low_f M hM1
      have lb := low_b e
      have lx := low_x e
      obtain ⟨r', er, hpl'⟩ := PC_l e (by omega) hpm
      have hl2 : 2 ^ j * (2 * q) ≤ M := by
        rw [e]
        exact Nat.mul_le_mul_left _ (by omega)
      rw [show r' = 0 by omega] at hpl'
      have z := PC_z (by omega) hpl'
      have un : ∀ i : Nat, bit M i → i = j := by
        intro i ib
        apply Classical.byContradiction
        intro u
        have := (lx i).mpr ⟨ib, u⟩
        rw [z, bit_tb, Nat.zero_testBit] at this
        exact absurd this (by decide)
      have r := bst_in (v := vE l st h p n f cs sg) hv3 ⟨(X : Int), by omega, bl X (by omega) b5, b5⟩
      obtain ⟨Y, hY⟩ := Int.eq_ofNat_of_zero_le r.1
      have : bst (vE l st h p n f cs sg) M (l 1 + 1).toNat = (X : Int) := by
        have u1 := un X b5
        have u2 := un Y (by rw [← hY]; exact r.2.2)
        rw [hY]
        omega
      rw [this] at hkk
      exact hkk
  · have z : r = 0 := by omega
    have hkk := hk F hF
    rw [done z] at hkk
    by_cases z0 : x9 = 0
    · rw [show mv = 0 by omega] at hpm
      have := PC_z (by omega) hpm
      omega
    · rw [← (hb1 z0).1] at hkk
      exact hkk
termination_by L
decreasing_by all_goals (rw [e]; exact Nat.mul_lt_mul_of_pos_left (by omega) (Nat.two_pow_pos j))
theorem c_266 {k : Int → FS → FI → FJ → Prop} {a b c d : Nat} {l : Nat → Int} {w : La} {st h p n M cs sg : Int} {f : Int → Int → Int → Int} {S : FS} {F : FI} {G : FJ} (hx : YX S F G a b c d l w st) (h1 : 0 ≤ p) (h1' : p < l 0) (h2 : 0 ≤ h) (h2' : h < l 3) (h3 : 1 ≤ n) (h3' : n ≤ st) (hst : ST F d l st h p n)
    (hM1 : 1 ≤ M) (hM : M < 33554432) (hc0 : 1 ≤ cs) (hc1 : cs < 4096) (hsg : sg = 1 ∨ sg = -1) (hy : YM G d l st h p n f cs M)
    (hk : ∀ F', KA 13 F' F → k (bst (vE l st h p n f cs sg) M (l 1 + 1).toNat) S F' G) : calI 3 266 [.inr (.inr (.inl 22)), .inl M, .inl cs, .inl sg] (mm S F G) k nof := by
  have hv := hx.2.2.2.2.2.1
  obtain ⟨⟨hv1, hv2⟩, ⟨hv3, hv4⟩, ⟨hv5, hv6⟩, ⟨hv7, hv8⟩, ⟨hv9, hv10⟩, ⟨hv11, hv12⟩, ⟨hv13, hv14⟩, hvw, hvs, hvk, hvc, hvx⟩ := id hv
  refine sg_266_0 ?_
  obtain ⟨N, rfl⟩ := Int.eq_ofNat_of_zero_le (show 0 ≤ M by omega)
  refine c_342 (by omega) (fun v ev => ?_)
  subst ev
  have hpc := PC_e (x := N)
  generalize pcn 32 N = mv at hpc ⊢
  refine cn_i (fun z => ?_) (fun z => ?_)
  · rw [show mv = 0 by omega] at hpc
    have := PC_z (by omega) hpc
    omega
  · refine c_265 (by omega) (by omega) (fun j q e => ?_)
    refine l_266 (t := 0) hx h1 h1' h2 h2' h3 h3' hst hc0 hc1 hsg (by omega) hy KA_r (fun j => ⟨fun u => ⟨u, by omega⟩, fun u => u.1⟩) (by omega) (by omega) (by omega) hpc hpc (by omega) (fun _ => ⟨rfl, fun _ => (low_b e).1⟩) (fun u => absurd rfl u) (by omega) (by omega) (fun F' hF' => ⟨_, _, _, rfl, hk F' hF'⟩)
