/-! ===== the class: scenes ===== -/
theorem tdm_b {h n m : Int} (h0 : 0 ≤ h) (n1 : 1 ≤ n) (m1 : 1 ≤ m) : 0 ≤ Int.tmod (Int.tdiv h n) m ∧ Int.tmod (Int.tdiv h n) m < m ∧ 0 ≤ Int.tdiv h n ∧ Int.tdiv h n ≤ h := by
  have e : Int.tdiv h n = h / n := Int.tdiv_eq_ediv_of_nonneg h0
  have q0 : 0 ≤ h / n := Int.ediv_nonneg h0 (by omega)
  have q1 : h / n ≤ h := Int.ediv_le_self _ h0
  rw [e, Int.tmod_eq_emod_of_nonneg q0]
  exact ⟨Int.emod_nonneg _ (by omega), Int.emod_lt_of_pos _ (by omega), q0, q1⟩
/-- who leads, by turns told and a round -/
def ldR (F : FI) (e : Nat) (n m : Int) (h : Int) : Int := if F 34 h.toNat = -1 then F (e + 4) (Int.tmod (Int.tdiv h n) m).toNat else F 34 h.toNat
theorem l_249 {Q : Rs → Mm → Prop} {a e : Nat} {x3 x4 m : Int} {S : FS} {F F0 : FI} {G : FJ} (ha : oL a) (hc : oC e) (h3 : 1 ≤ x3) (h3' : x3 ≤ 12) (hm : F0 a 11 = m) (m1 : 1 ≤ m) (m5 : m ≤ 5) (h4 : 0 ≤ x4) (h4' : x4 ≤ 24) (hF : ∀ c, c ≠ e + 1 → F c = F0 c) (hl : ∀ h : Int, 0 ≤ h → h < x4 → F (e + 1) h.toNat = ldR F0 e x3 m h)
    (hk : ∀ F', (∀ c, c ≠ e + 1 → F' c = F0 c) → (∀ h : Int, 0 ≤ h → h < 24 → F' (e + 1) h.toNat = ldR F0 e x3 m h) → Q (.inl none) (mm S F' G)) : wph 0 249 3 [.inr (.inr (.inl e)), .inr (.inr (.inl a)), .inr (.inr (.inl 31)), .inl x3, .inl x4] [] (mm S F G) (0, 0) Q := by
  have hp : oP 31 := Or.inl rfl
  have e34 := hF 34 (by omega)
  have ea := hF a (by omega)
  have e4 := hF (e + 4) (by omega)
  refine sg_249_3 ?_
  simp only [lk ha, lk1 ha, lk2 ha, lk3 ha, lk4 ha, lk5 ha, lk6 ha, lk7 ha, lk8 ha, lk9 ha, lr0 ha, lr1 ha, lr2 ha, lr3 ha, lr4 ha, lr5 ha, lr6 ha, lr7 ha, lr8 ha, ck_ hc, ck1 hc, ck2 hc, ck3 hc, ck4 hc, cr0 hc, cr1 hc, cr2 hc, cr3 hc, pk_ hp, pk1 hp, pk2 hp, pk3 hp, pk4 hp, pk5 hp, pk6 hp, pk7 hp, pr0 hp, pr1 hp, pr2 hp, pr3 hp, pr4 hp, pr5 hp, pr6 hp, ea, e4, hm, show (31 : Nat) + 3 = 34 from rfl, e34]
  refine cn_i (fun z => ?_) (fun z => ?_)
  · have tb := tdm_b (h := x4) (n := x3) (m := m) h4 h3 m1
    rw [wr_id (a := x4 + 1) (by omega) (by omega), wr_id (a := Int.tdiv x4 x3) (by omega) (by omega)]
    have rcc : ∀ v, v = ldR F0 e x3 m x4 → wph 0 249 3 [.inr (.inr (.inl e)), .inr (.inr (.inl a)), .inr (.inr (.inl 31)), .inl x3, .inl (x4 + 1)] [] (mm S (u2 F (e + 1) x4.toNat v) G) (0, 0) Q := by
      intro v ev
      refine l_249 ha hc h3 h3' hm m1 m5 (by omega) (by omega) (off_uI hF) (fun h h0 h1 => ?_) hk
      rw [u2_k]
      by_cases y : h = x4
      · rw [y, if_pos rfl, ev]
      · rw [if_neg (by omega)]
        exact hl h h0 (by omega)
    refine ck_i rfl (ck_i rfl (ck_i (jb_i h4 (by omega)) (ck_i rfl (cn_i (fun q => ?_) (fun q => ?_)))))
    · refine cd_f (by omega) (ck_i rfl (cd_f (by omega) (ck_i rfl (ck_i (jz_i (by omega)) (ck_i rfl (ck_i (jz_i (by omega)) (ck_i rfl (ck_i (jb_i tb.1 (by omega)) (ck_i rfl (ck_i (jb_i h4 (by omega)) (rcc _ ?_)))))))))))
      unfold ldR
      rw [if_pos q]
    · refine ck_i rfl (ck_i (jb_i h4 (by omega)) (rcc _ ?_))
      unfold ldR
      rw [if_neg q]
  · rw [show x4 = 24 by omega] at hl
    exact hk F hF hl
termination_by (24 - x4).toNat
decreasing_by omega
theorem c_249 {k : FS → FI → FJ → Prop} {a e : Nat} {x3 m : Int} {S : FS} {F : FI} {G : FJ} (ha : oL a) (hc : oC e) (h3 : 1 ≤ x3) (h3' : x3 ≤ 12) (hm : F a 11 = m) (m1 : 1 ≤ m) (m5 : m ≤ 5)
    (hk : ∀ F', (∀ c, c ≠ e + 1 → F' c = F c) → (∀ h : Int, 0 ≤ h → h < 24 → F' (e + 1) h.toNat = ldR F e x3 m h) → k S F' G) : calV 0 249 [.inr (.inr (.inl e)), .inr (.inr (.inl a)), .inr (.inr (.inl 31)), .inl x3] (mm S F G) k nof := by
  refine sg_249_0 ?_
  exact l_249 ha hc h3 h3' hm m1 m5 (by omega) (by omega) (fun _ _ => rfl) (fun h a b => by omega) (fun F' x y => ⟨_, _, _, rfl, hk F' x y⟩)
theorem l_247 {Q : Rs → Mm → Prop} {a e : Nat} {x3 m n : Int} {S : FS} {F F0 : FI} {G : FJ} (ha : oL a) (hc : oC e) (hn : F0 31 7 = n) (n1 : 1 ≤ n) (n2 : n ≤ 12) (hm : F0 a 11 = m) (m1 : 1 ≤ m) (m5 : m ≤ 5) (h3 : 0 ≤ x3) (h3' : x3 ≤ 5) (hF : ∀ c, c ≠ e + 4 → F c = F0 c) (hi : ∀ i : Int, 0 ≤ i → i < x3 → F (e + 4) i.toNat = i)
    (hk : ∀ F', (∀ c, c ≠ e + 1 → c ≠ e + 4 → F' c = F0 c) → (∀ h : Int, 0 ≤ h → h < 24 → F' (e + 1) h.toNat = if F0 34 h.toNat = -1 then Int.tmod (Int.tdiv h n) m else F0 34 h.toNat) → (∀ i : Int, 0 ≤ i → i < 5 → F' (e + 4) i.toNat = i) → Q (.inl none) (mm S F' G)) :
    wph 1 247 49 [.inr (.inr (.inl e)), .inr (.inr (.inl a)), .inr (.inr (.inl 31)), .inl x3] [] (mm S F G) (0, 0) Q := by
  have hp : oP 31 := Or.inl rfl
  refine sg_247_49 ?_
  simp only [ck_ hc, ck1 hc, ck2 hc, ck3 hc, ck4 hc, cr0 hc, cr1 hc, cr2 hc, cr3 hc, pk_ hp, pk1 hp, pk2 hp, pk3 hp, pk4 hp, pk5 hp, pk6 hp, pk7 hp, pr0 hp, pr1 hp, pr2 hp, pr3 hp, pr4 hp, pr5 hp, pr6 hp, hF 31 (by omega), hn]
  refine cn_i (fun z => ?_) (fun z => ?_)
  · rw [wr_id (by omega) (by omega)]
    refine ck_i rfl (ck_i rfl (ck_i (jb_i h3 (by omega)) (l_247 ha hc hn n1 n2 hm m1 m5 (by omega) (by omega) (off_uI hF) (fun i i0 i1 => ?_) hk)))
    rw [u2_k]
    by_cases y : i = x3
    · rw [y, if_pos rfl]
    · rw [if_neg (by omega)]
      exact hi i i0 (by omega)
  · refine ck_i rfl (ck_i rfl (c_249 ha hc n1 n2 (by rw [hF a (by omega)]; exact hm) m1 m5 (fun F' f1 f2 => hk F' (fun c c1 c2 => (f1 c c1).trans (hF c c2)) (fun h h0 h1 => ?_) (fun i i0 i1 => ?_))))
    · have tb := tdm_b (h := h) (n := n) (m := m) h0 n1 m1
      rw [f2 h h0 h1]
      unfold ldR
      rw [hF 34 (by omega), hi _ tb.1 (by omega)]
    · rw [f1 (e + 4) (by omega)]
      exact hi i i0 (by omega)
termination_by (5 - x3).toNat
decreasing_by omega
/-- a party as the class keeps it -/
def PR (F : FI) (e : Nat) (s : Nat → Int) : Prop := (∀ k : Int, 0 ≤ k → k < 5 → F (e + 1) k.toNat = s k.toNat) ∧ (∀ h : Int, 0 ≤ h → h < 24 → F (e + 2) h.toNat = s (5 + h).toNat) ∧ (∀ h : Int, 0 ≤ h → h < 24 → F (e + 3) h.toNat = s (29 + h).toNat) ∧ F e 7 = s 53 ∧ F e 8 = s 54 ∧
  (∀ i : Int, 0 ≤ i → i < s 54 → F (e + 4) i.toNat = s (55 + i).toNat) ∧ F e 9 = (if s 79 = 0 then -1 else s 80) ∧ (s 79 ≠ 0 → (1 ≤ F e 10 ∧ F e 10 ≤ 3) ∧ s 81 = (if F e 10 = 3 then 0 else F e 10)) ∧
  (s 79 ≠ 0 → ∀ i : Int, 0 ≤ i → i ≤ s 80 → F (e + 5) i.toNat = s (82 + i).toNat ∧ F (e + 6) i.toNat = s (107 + i).toNat) ∧ (s 79 ≠ 0 → ∀ i : Int, 0 ≤ i → i < s 80 → F (e + 7) i.toNat = s (132 + i).toNat)
theorem PR_c {F F' : FI} {e : Nat} {s : Nat → Int} (h : PR F e s) (hF : ∀ i, i < 8 → F' (e + i) = F (e + i)) : PR F' e s := by
  have h0 := hF 0 (by decide)
  rw [Nat.add_zero] at h0
  unfold PR at h ⊢
  rw [h0, hF 1 (by decide), hF 2 (by decide), hF 3 (by decide), hF 4 (by decide), hF 5 (by decide), hF 6 (by decide), hF 7 (by decide)]
  exact h
/-- a scene that was loaded, and changed since in who leads and in kinds -/
def SL (F : FI) (e : Nat) (l s : Nat → Int) : Prop := (∀ h : Int, 0 ≤ h → h < 24 → F (e + 3) h.toNat = s (5 + h).toNat) ∧ F e 4 = l 4 ∧ F e 5 = -1 ∧ F e 6 = 0 ∧ (∀ i : Int, 0 ≤ i → i < 5 → F (e + 4) i.toNat = i)
theorem c_247 {k : FS → FI → FJ → Prop} {a e : Nat} {l s : Nat → Int} {S : FS} {F : FI} {G : FJ} (ha : oL a) (hc : oC e) (hv : LV l) (hs : SV l s) (hl : LR F G a l) (hpr : PR F 31 s)
    (hk : ∀ F', (∀ c, c ≠ e → c ≠ e + 1 → c ≠ e + 2 → c ≠ e + 3 → c ≠ e + 4 → F' c = F c) → (∀ h : Int, 0 ≤ h → h < 24 → F' (e + 1) h.toNat = sLd l s h) → (∀ k : Int, 0 ≤ k → k < 5 → F' (e + 2) k.toNat = s k.toNat) → SL F' e l s → k S F' G) :
    calV 1 247 [.inr (.inr (.inl e)), .inr (.inr (.inl a)), .inr (.inr (.inl 31))] (mm S F G) k nof := by
  have hp : oP 31 := Or.inl rfl
  have hv' := hv
  obtain ⟨⟨hv1, hv2⟩, ⟨hv3, hv4⟩, ⟨hv5, hv6⟩, ⟨hv7, hv8⟩, ⟨hv9, hv10⟩, ⟨hv11, hv12⟩, ⟨hv13, hv14⟩, hvw, hvs, hvk, hvc, hvx⟩ := id hv
  obtain ⟨p1, p2, p3, p4, p5, p6, p7, p8, p9⟩ := hpr
  have hs53 := hs.2.2.2.1
  have i1 : ∀ i, i < 5 → c2 (c2 F 32 0 (e + 2) 0 5) 33 0 (e + 3) 0 24 (e + 2) i = F 32 i := fun i hi => by
    rw [c2_o (by omega), c2_k, pk_cpy_in (by omega) (by omega), show 0 + (i - 0) = i by omega]
  have i2 : ∀ i, i < 24 → c2 (c2 F 32 0 (e + 2) 0 5) 33 0 (e + 3) 0 24 (e + 3) i = F 33 i := fun i hi => by
    rw [c2_k, pk_cpy_in (by omega) (by omega), show 0 + (i - 0) = i by omega, c2_o (by omega)]
  have i3 : ∀ c, c ≠ e + 2 → c ≠ e + 3 → c2 (c2 F 32 0 (e + 2) 0 5) 33 0 (e + 3) 0 24 c = F c := fun c h1 h2 => by
    rw [c2_o h2, c2_o h1]
  refine sg_247_0 ?_
  simp only [lk ha, lk1 ha, lk2 ha, lk3 ha, lk4 ha, lk5 ha, lk6 ha, lk7 ha, lk8 ha, lk9 ha, lr0 ha, lr1 ha, lr2 ha, lr3 ha, lr4 ha, lr5 ha, lr6 ha, lr7 ha, lr8 ha, ck_ hc, ck1 hc, ck2 hc, ck3 hc, ck4 hc, cr0 hc, cr1 hc, cr2 hc, cr3 hc, pk_ hp, pk1 hp, pk2 hp, pk3 hp, pk4 hp, pk5 hp, pk6 hp, pk7 hp, pr0 hp, pr1 hp, pr2 hp, pr3 hp, pr4 hp, pr5 hp, pr6 hp, show (31 : Nat) + 1 = 32 from rfl, show (31 : Nat) + 2 = 33 from rfl]
  refine ck_i rfl (ck_i rfl (ck_i rfl (ck_i rfl (ck_i rfl (ck_i rfl (ck_i rfl (ck_i rfl (ck_i rfl (ck_i rfl (ck_i rfl (ck_i rfl ?_)))))))))))
  generalize c2 (c2 F 32 0 (e + 2) 0 5) 33 0 (e + 3) 0 24 = C at i1 i2 i3 ⊢
  have ca : C a = F a := i3 a (by omega) (by omega)
  have c31 : C 31 = F 31 := i3 31 (by omega) (by omega)
  have c34 : C 34 = F 34 := i3 34 (by omega) (by omega)
  have o : ∀ c, c ≠ e → u2 (u2 (u2 C e 4 (C a 13)) e 5 (-1)) e 6 0 c = C c := fun c hc => by rw [u2_o hc, u2_o hc, u2_o hc]
  refine l_247 ha hc (n := s 53) (m := l 2) (by rw [o 31 (by omega), c31]; exact p4) hs53.1 hs53.2 (by rw [o a (by omega), ca]; exact hl.1.2.2.1) hv5 hv6 (by omega) (by omega) (fun _ _ => rfl) (fun i a b => by omega) (fun F' f1 f2 f3 => ⟨_, _, _, rfl, hk F' (fun c c0 c1 c2 c3 c4 => ?_) (fun h h0 h1 => ?_) (fun k k0 k1 => ?_) ⟨fun h h0 h1 => ?_, ?_, ?_, ?_, f3⟩⟩)
  · rw [f1 c c1 c4, o c c0, i3 c c2 c3]
  · rw [f2 h h0 h1, o 34 (by omega), c34]
    have := p3 h h0 h1
    rw [show (31 : Nat) + 3 = 34 from rfl] at this
    rw [this]
    rfl
  · rw [f1 (e + 2) (by omega) (by omega), o (e + 2) (by omega), i1 _ (by omega)]
    exact p1 k k0 k1
  · rw [f1 (e + 3) (by omega) (by omega), o (e + 3) (by omega), i2 _ (by omega)]
    exact p2 h h0 h1
  · rw [f1 e (by omega) (by omega), u2_n (by decide), u2_n (by decide), u2_s, ca]
    exact hl.1.2.2.2.2.1
  · rw [f1 e (by omega) (by omega), u2_n (by decide), u2_s]
  · rw [f1 e (by omega) (by omega), u2_s]
theorem c_248 {k : FS → FI → FJ → Prop} {a e : Nat} {l s : Nat → Int} {x3 : Int} {S : FS} {F : FI} {G : FJ} (ha : oL a) (hc : oC e) (hv : LV l) (hs : SV l s) (hl : LR F G a l) (hpr : PR F 31 s) (h3 : 0 ≤ x3) (h3' : x3 < 5)
    (hk : ∀ F', (∀ c, c ≠ e → c ≠ e + 1 → c ≠ e + 2 → c ≠ e + 3 → c ≠ e + 4 → F' c = F c) → (∀ h : Int, 0 ≤ h → h < 24 → F' (e + 1) h.toNat = x3) → (∀ k : Int, 0 ≤ k → k < 5 → F' (e + 2) k.toNat = if k = x3 then 0 else s k.toNat) → SL F' e l s → k S F' G) :
    calV 2 248 [.inr (.inr (.inl e)), .inr (.inr (.inl a)), .inr (.inr (.inl 31)), .inl x3] (mm S F G) k nof := by
  refine sg_248_0 ?_
  simp only [ck_ hc, ck1 hc, ck2 hc, ck3 hc, ck4 hc, cr0 hc, cr1 hc, cr2 hc, cr3 hc]
  refine ck_i rfl (c_247 ha hc hv hs hl hpr (fun F1 f1 f2 f3 f4 => ck_i rfl (c_343 (n := 24) (ck1 hc) (by decide) ?_)))
  refine ck_i rfl (ck_i rfl (ck_i (jb_i h3 (by omega)) ⟨_, _, _, rfl, hk _ (fun c c0 c1 c2 c3 c4 => ?_) (fun h h0 h1 => ?_) (fun k k0 k1 => ?_) ?_⟩))
  · rw [u2_o c2, yfl_o c1]
    exact f1 c c0 c1 c2 c3 c4
  · rw [u2_o (by omega), yfl_i (by omega)]
  · rw [u2_k, yfl_o (by omega), f3 k k0 k1]
    by_cases y : k = x3
    · rw [if_pos (by rw [y]), if_pos y]
    · rw [if_neg (by omega), if_neg y]
  · unfold SL at f4 ⊢
    have o : ∀ c, c ≠ e + 1 → c ≠ e + 2 → u2 (yfl F1 (e + 1) 24 x3) (e + 2) x3.toNat 0 c = F1 c := fun c h1 h2 => by rw [u2_o h2, yfl_o h1]
    rw [o (e + 3) (by omega) (by omega), o e (by omega) (by omega), o (e + 4) (by omega) (by omega)]
    exact f4
/-- a loaded scene, read as what is tried -/
theorem SL_R {F : FI} {e : Nat} {l s : Nat → Int} {w : La} {g : Cf} (hv : LV l) (h : SL F e l s) (h1 : ∀ x, 0 ≤ x → x < l 3 → F (e + 1) x.toNat = g.1 x) (h2 : ∀ k, 0 ≤ k → k < l 2 → F (e + 2) k.toNat = g.2.1 k) (h3 : g.2.2 = (fun h => s (5 + h).toNat, sMask l w (-1), -1, -1, 0)) : SR F e l w g := by
  obtain ⟨⟨hv1, hv2⟩, ⟨hv3, hv4⟩, ⟨hv5, hv6⟩, ⟨hv7, hv8⟩, ⟨hv9, hv10⟩, ⟨hv11, hv12⟩, ⟨hv13, hv14⟩, hvw, hvs, hvk, hvc, hvx⟩ := id hv
  obtain ⟨g1, g2, g3⟩ := g
  dsimp only at h1 h2 h3
  subst h3
  refine ⟨h1, fun k k0 k1 => ?_, fun x x0 x1 => h.1 x x0 (by omega), ?_, fun q => absurd rfl q⟩
  · rw [h2 k k0 k1]
    unfold cK
    dsimp only
    rw [if_neg (by decide), if_neg (by omega)]
  · show sMask l w (-1) = _
    rw [h.2.2.1]
/-! ===== the class: hours as in another table ===== -/
theorem c_272 {k : FS → FI → FJ → Prop} {x2 : Int} {S : FS} {F : FI} {G : FJ} (h16 : F 16 0 = 1) (h19 : F 19 0 = 0) (h0 : 0 ≤ x2) (h1 : x2 ≤ 24)
    (hk : ∀ G', (∀ i, i ≠ 20 → G' i = G i) → (∀ p n o : Int, 0 ≤ p → p < 12 → 0 ≤ n → n ≤ 12 → 0 ≤ o → o < 12 → G' 20 (sp 19 x2 p n * 12 + o).toNat = G 17 (sp 16 x2 p n * 12 + o).toNat) → k S F G') : calV 1 272 [.inr (.inr (.inl 19)), .inr (.inr (.inl 16)), .inl x2] (mm S F G) k nof := by
  refine sg_272_0 ?_
  refine ck_i rfl (c_271 (Or.inl rfl) h16 (by omega) (by omega) h0 (by omega) (by omega) (by omega) (fun v1 e1 => ck_i rfl (ck_i rfl (ck_i rfl (c_271 (Or.inr rfl) h19 (by omega) (by omega) h0 (by omega) (by omega) (by omega) (fun v2 e2 => ck_i rfl ?_))))))
  have w1 : v1 = x2 * 156 := by
    rw [e1]
    unfold sp
    rw [if_pos rfl]
    omega
  have w2 : v2 = x2 % 2 * 156 := by
    rw [e2]
    unfold sp
    rw [if_neg (by decide)]
    omega
  rw [wr_id (a := v1 * 12) (by omega) (by omega), wr_id (a := v2 * 12) (by omega) (by omega)]
  refine ck_i (acp_i (by omega) (by omega) (by omega) (by show _ ≤ ((46800 : Nat) : Int); omega) (by show _ ≤ ((3744 : Nat) : Int); omega)) ⟨_, _, _, rfl, hk _ (fun i hi => ?_) (fun p n o p0 p1 n0 n1 o0 o1 => ?_)⟩
  · exact c2_o (by show i ≠ 20; exact hi)
  · show c2 G 17 (v1 * 12).toNat 20 (v2 * 12).toNat 1872 20 _ = _
    have s1 : sp 19 x2 p n = x2 % 2 * 156 + p * 13 + n := by
      unfold sp
      rw [if_neg (by decide)]
      omega
    have s2 : sp 16 x2 p n = x2 * 156 + p * 13 + n := by
      unfold sp
      rw [if_pos rfl]
      omega
    rw [c2_k, pk_cpy_in (by omega) (by omega)]
    congr 1
    omega
