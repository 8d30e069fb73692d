/-! ===== the program's tables are the machine's ===== -/
def lens : List Op → Nat
  | [] => 0
  | op :: r => op.2.1 + lens r
def okP (j : Nat) : Nat → List Op → Bool
  | _, [] => true
  | pc, op :: ops => (match op.1 with
    | .nop => false
    | .new _ => (match op.2.2.1 with
      | 9 :: _ => false
      | _ => true)
    | _ => true) && okB j pc op && okP j (pc + op.2.1) ops
theorem okP_app {j q : Nat} {rest : List Op} (h2 : okL j q rest = true) : ∀ (l : List Op) (pc : Nat), okP j pc l = true → pc + lens l = q → okL j pc (l ++ rest) = true := by
  intro l
  induction l with
  | nil =>
    intro pc _ h
    have h : pc + 0 = q := h
    rw [show pc = q by omega]
    exact h2
  | cons op ops ih =>
    intro pc h hq
    have h : ((match op.1 with
      | .nop => false
      | .new _ => (match op.2.2.1 with
        | 9 :: _ => false
        | _ => true)
      | _ => true) && okB j pc op && okP j (pc + op.2.1) ops) = true := h
    obtain ⟨h, h3⟩ := an2 h
    obtain ⟨h1, h4⟩ := an2 h
    have h5 := ih (pc + op.2.1) h3 (by rw [← hq]; show _ = pc + (op.2.1 + lens ops); omega)
    have e : (okB j pc op && okL j (pc + op.2.1) (ops ++ rest)) = true := by rw [h4, h5]; rfl
    rw [List.cons_append]
    unfold okL
    split
    · rename_i e1
      rw [e1] at h1
      cases h1
    · rename_i idx e1
      rw [e1] at h1
      split
      · rename_i z e2
        rw [e2] at h1
        cases h1
      · exact e
    · exact e
theorem okl_of {j pc n q : Nat} {l rest : List Op} (h : (okP j pc (l.take n) && Nat.beq (pc + lens (l.take n)) q) = true) (hr : l.drop n = rest) (h2 : okL j q rest = true) : okL j pc l = true := by
  obtain ⟨h, h3⟩ := an2 h
  have := okP_app h2 (l.take n) pc h (beqE h3)
  rw [← hr, List.take_append_drop] at this
  exact this
theorem oklf {j a : Nat} {b : List Bool} {c : List Op} (h : okL j a c = true) (t : Nat) : okL j t (if t = a then (b, c) else ([], [])).2 = true := by
  split
  · rename_i e
    rw [e]
    exact h
  · rfl
theorem oknd {j t v : Nat} {A B : List Bool × List Op} (hA : okL j t A.2 = true) (hB : okL j t B.2 = true) : okL j t (if t < v then A else B).2 = true := by
  split
  · exact hA
  · exact hB
theorem okj {j t v : Nat} {A B : List Bool × List Op} (hA : j < v → okL j t A.2 = true) (hB : ¬ j < v → okL j t B.2 = true) : okL j t (if j < v then A else B).2 = true := by
  split
  · rename_i h; exact hA h
  · rename_i h; exact hB h
theorem ok0_247 : okL 0 247 c0_247 = true := by decide +kernel
theorem ok0_223 : okL 0 223 c0_223 = true := by decide +kernel
theorem ok0_0 : okL 0 0 c0_0 = true := by decide +kernel
theorem okk0 (t : Nat) : okL 0 t (k0 t).2 = true := (oknd (oklf ok0_0 t) (oknd (oklf ok0_223 t) (oklf ok0_247 t)))
theorem ok1_18 : okL 1 18 c1_18 = true := by decide +kernel
theorem ok1_0 : okL 1 0 c1_0 = true := by decide +kernel
theorem okk1 (t : Nat) : okL 1 t (k1 t).2 = true := (oknd (oklf ok1_0 t) (oklf ok1_18 t))
theorem ok2_60 : okL 2 60 c2_60 = true := by decide +kernel
theorem ok2_21 : okL 2 21 c2_21 = true := by decide +kernel
theorem ok2_20 : okL 2 20 c2_20 = true := okl_of (n := 1) (q := 21) (by decide +kernel) rfl ok2_21
theorem ok2_0 : okL 2 0 c2_0 = true := by decide +kernel
theorem okk2 (t : Nat) : okL 2 t (k2 t).2 = true := (oknd (oknd (oklf ok2_0 t) (oklf ok2_20 t)) (oknd (oklf ok2_21 t) (oklf ok2_60 t)))
theorem ok3_60 : okL 3 60 c3_60 = true := by decide +kernel
theorem ok3_21 : okL 3 21 c3_21 = true := by decide +kernel
theorem ok3_20 : okL 3 20 c3_20 = true := okl_of (n := 1) (q := 21) (by decide +kernel) rfl ok3_21
theorem ok3_0 : okL 3 0 c3_0 = true := by decide +kernel
theorem okk3 (t : Nat) : okL 3 t (k3 t).2 = true := (oknd (oknd (oklf ok3_0 t) (oklf ok3_20 t)) (oknd (oklf ok3_21 t) (oklf ok3_60 t)))
theorem ok4_0 : okL 4 0 c4_0 = true := by decide +kernel
theorem okk4 (t : Nat) : okL 4 t (k4 t).2 = true := (oklf ok4_0 t)
theorem ok5_139 : okL 5 139 c5_139 = true := by decide +kernel
theorem ok5_124 : okL 5 124 c5_124 = true := by decide +kernel
theorem ok5_116 : okL 5 116 c5_116 = true := by decide +kernel
theorem ok5_108 : okL 5 108 c5_108 = true := by decide +kernel
theorem ok5_100 : okL 5 100 c5_100 = true := by decide +kernel
theorem ok5_92 : okL 5 92 c5_92 = true := by decide +kernel
theorem ok5_84 : okL 5 84 c5_84 = true := by decide +kernel
theorem ok5_76 : okL 5 76 c5_76 = true := by decide +kernel
theorem ok5_68 : okL 5 68 c5_68 = true := by decide +kernel
theorem ok5_16 : okL 5 16 c5_16 = true := by decide +kernel
theorem ok5_15 : okL 5 15 c5_15 = true := okl_of (n := 1) (q := 16) (by decide +kernel) rfl ok5_16
theorem ok5_0 : okL 5 0 c5_0 = true := by decide +kernel
theorem okk5 (t : Nat) : okL 5 t (k5 t).2 = true := (oknd (oknd (oknd (oklf ok5_0 t) (oknd (oklf ok5_15 t) (oklf ok5_16 t))) (oknd (oklf ok5_68 t) (oknd (oklf ok5_76 t) (oklf ok5_84 t)))) (oknd (oknd (oklf ok5_92 t) (oknd (oklf ok5_100 t) (oklf ok5_108 t))) (oknd (oklf ok5_116 t) (oknd (oklf ok5_124 t) (oklf ok5_139 t)))))
theorem ok6_21 : okL 6 21 c6_21 = true := by decide +kernel
theorem ok6_20 : okL 6 20 c6_20 = true := okl_of (n := 1) (q := 21) (by decide +kernel) rfl ok6_21
theorem ok6_0 : okL 6 0 c6_0 = true := by decide +kernel
theorem okk6 (t : Nat) : okL 6 t (k6 t).2 = true := (oknd (oklf ok6_0 t) (oknd (oklf ok6_20 t) (oklf ok6_21 t)))
theorem ok7_61 : okL 7 61 c7_61 = true := by decide +kernel
theorem ok7_47 : okL 7 47 c7_47 = true := okl_of (n := 9) (q := 61) (by decide +kernel) rfl ok7_61
theorem ok7_27 : okL 7 27 c7_27 = true := by decide +kernel
theorem ok7_26 : okL 7 26 c7_26 = true := okl_of (n := 1) (q := 27) (by decide +kernel) rfl ok7_27
theorem ok7_0 : okL 7 0 c7_0 = true := by decide +kernel
theorem okk7 (t : Nat) : okL 7 t (k7 t).2 = true := (oknd (oknd (oklf ok7_0 t) (oklf ok7_26 t)) (oknd (oklf ok7_27 t) (oknd (oklf ok7_47 t) (oklf ok7_61 t))))
theorem ok8_20 : okL 8 20 c8_20 = true := by decide +kernel
theorem ok8_19 : okL 8 19 c8_19 = true := okl_of (n := 1) (q := 20) (by decide +kernel) rfl ok8_20
theorem ok8_0 : okL 8 0 c8_0 = true := by decide +kernel
theorem okk8 (t : Nat) : okL 8 t (k8 t).2 = true := (oknd (oklf ok8_0 t) (oknd (oklf ok8_19 t) (oklf ok8_20 t)))
theorem ok9_22 : okL 9 22 c9_22 = true := by decide +kernel
theorem ok9_21 : okL 9 21 c9_21 = true := okl_of (n := 1) (q := 22) (by decide +kernel) rfl ok9_22
theorem ok9_0 : okL 9 0 c9_0 = true := by decide +kernel
theorem okk9 (t : Nat) : okL 9 t (k9 t).2 = true := (oknd (oklf ok9_0 t) (oknd (oklf ok9_21 t) (oklf ok9_22 t)))
theorem ok10_0 : okL 10 0 c10_0 = true := by decide +kernel
theorem okk10 (t : Nat) : okL 10 t (k10 t).2 = true := (oklf ok10_0 t)
theorem ok11_17 : okL 11 17 c11_17 = true := by decide +kernel
theorem ok11_16 : okL 11 16 c11_16 = true := okl_of (n := 1) (q := 17) (by decide +kernel) rfl ok11_17
theorem ok11_0 : okL 11 0 c11_0 = true := by decide +kernel
theorem okk11 (t : Nat) : okL 11 t (k11 t).2 = true := (oknd (oklf ok11_0 t) (oknd (oklf ok11_16 t) (oklf ok11_17 t)))
theorem ok12_0 : okL 12 0 c12_0 = true := by decide +kernel
theorem okk12 (t : Nat) : okL 12 t (k12 t).2 = true := (oklf ok12_0 t)
theorem ok13_0 : okL 13 0 c13_0 = true := by decide +kernel
theorem okk13 (t : Nat) : okL 13 t (k13 t).2 = true := (oklf ok13_0 t)
theorem ok14_0 : okL 14 0 c14_0 = true := by decide +kernel
theorem okk14 (t : Nat) : okL 14 t (k14 t).2 = true := (oklf ok14_0 t)
theorem ok15_0 : okL 15 0 c15_0 = true := by decide +kernel
theorem okk15 (t : Nat) : okL 15 t (k15 t).2 = true := (oklf ok15_0 t)
theorem ok16_25 : okL 16 25 c16_25 = true := by decide +kernel
theorem ok16_24 : okL 16 24 c16_24 = true := okl_of (n := 1) (q := 25) (by decide +kernel) rfl ok16_25
theorem ok16_0 : okL 16 0 c16_0 = true := by decide +kernel
theorem okk16 (t : Nat) : okL 16 t (k16 t).2 = true := (oknd (oklf ok16_0 t) (oknd (oklf ok16_24 t) (oklf ok16_25 t)))
theorem ok17_0 : okL 17 0 c17_0 = true := by decide +kernel
theorem okk17 (t : Nat) : okL 17 t (k17 t).2 = true := (oklf ok17_0 t)
theorem ok18_0 : okL 18 0 c18_0 = true := by decide +kernel
theorem okk18 (t : Nat) : okL 18 t (k18 t).2 = true := (oklf ok18_0 t)
theorem ok19_0 : okL 19 0 c19_0 = true := by decide +kernel
theorem okk19 (t : Nat) : okL 19 t (k19 t).2 = true := (oklf ok19_0 t)
theorem ok20_104 : okL 20 104 c20_104 = true := by decide +kernel
theorem ok20_94 : okL 20 94 c20_94 = true := by decide +kernel
theorem ok20_84 : okL 20 84 c20_84 = true := by decide +kernel
theorem ok20_57 : okL 20 57 c20_57 = true := by decide +kernel
theorem ok20_55 : okL 20 55 c20_55 = true := by decide +kernel
theorem ok20_25 : okL 20 25 c20_25 = true := okl_of (n := 14) (q := 55) (by decide +kernel) rfl ok20_55
theorem ok20_24 : okL 20 24 c20_24 = true := okl_of (n := 1) (q := 25) (by decide +kernel) rfl ok20_25
theorem ok20_0 : okL 20 0 c20_0 = true := by decide +kernel
theorem okk20 (t : Nat) : okL 20 t (k20 t).2 = true := (oknd (oknd (oknd (oklf ok20_0 t) (oklf ok20_24 t)) (oknd (oklf ok20_25 t) (oklf ok20_55 t))) (oknd (oknd (oklf ok20_57 t) (oklf ok20_84 t)) (oknd (oklf ok20_94 t) (oklf ok20_104 t))))
theorem ok21_35 : okL 21 35 c21_35 = true := by decide +kernel
theorem ok21_28 : okL 21 28 c21_28 = true := okl_of (n := 3) (q := 35) (by decide +kernel) rfl ok21_35
theorem ok21_13 : okL 21 13 c21_13 = true := by decide +kernel
theorem ok21_0 : okL 21 0 c21_0 = true := by decide +kernel
theorem okk21 (t : Nat) : okL 21 t (k21 t).2 = true := (oknd (oknd (oklf ok21_0 t) (oklf ok21_13 t)) (oknd (oklf ok21_28 t) (oklf ok21_35 t)))
theorem ok22_23 : okL 22 23 c22_23 = true := by decide +kernel
theorem ok22_0 : okL 22 0 c22_0 = true := by decide +kernel
theorem okk22 (t : Nat) : okL 22 t (k22 t).2 = true := (oknd (oklf ok22_0 t) (oklf ok22_23 t))
theorem ok23_0 : okL 23 0 c23_0 = true := by decide +kernel
theorem okk23 (t : Nat) : okL 23 t (k23 t).2 = true := (oklf ok23_0 t)
theorem ok24_0 : okL 24 0 c24_0 = true := by decide +kernel
theorem okk24 (t : Nat) : okL 24 t (k24 t).2 = true := (oklf ok24_0 t)
theorem ok25_0 : okL 25 0 c25_0 = true := by decide +kernel
theorem okk25 (t : Nat) : okL 25 t (k25 t).2 = true := (oklf ok25_0 t)
theorem ok26_30 : okL 26 30 c26_30 = true := by decide +kernel
theorem ok26_29 : okL 26 29 c26_29 = true := okl_of (n := 1) (q := 30) (by decide +kernel) rfl ok26_30
theorem ok26_0 : okL 26 0 c26_0 = true := by decide +kernel
theorem okk26 (t : Nat) : okL 26 t (k26 t).2 = true := (oknd (oklf ok26_0 t) (oknd (oklf ok26_29 t) (oklf ok26_30 t)))
theorem ok27_97 : okL 27 97 c27_97 = true := by decide +kernel
theorem ok27_91 : okL 27 91 c27_91 = true := by decide +kernel
theorem ok27_85 : okL 27 85 c27_85 = true := by decide +kernel
theorem ok27_52 : okL 27 52 c27_52 = true := by decide +kernel
theorem ok27_33 : okL 27 33 c27_33 = true := by decide +kernel
theorem ok27_10 : okL 27 10 c27_10 = true := by decide +kernel
theorem ok27_0 : okL 27 0 c27_0 = true := by decide +kernel
theorem okk27 (t : Nat) : okL 27 t (k27 t).2 = true := (oknd (oknd (oklf ok27_0 t) (oknd (oklf ok27_10 t) (oklf ok27_33 t))) (oknd (oknd (oklf ok27_52 t) (oklf ok27_85 t)) (oknd (oklf ok27_91 t) (oklf ok27_97 t))))
theorem ok28_30 : okL 28 30 c28_30 = true := by decide +kernel
theorem ok28_29 : okL 28 29 c28_29 = true := okl_of (n := 1) (q := 30) (by decide +kernel) rfl ok28_30
theorem ok28_0 : okL 28 0 c28_0 = true := by decide +kernel
theorem okk28 (t : Nat) : okL 28 t (k28 t).2 = true := (oknd (oklf ok28_0 t) (oknd (oklf ok28_29 t) (oklf ok28_30 t)))
theorem ok29_157 : okL 29 157 c29_157 = true := by decide +kernel
theorem ok29_135 : okL 29 135 c29_135 = true := by decide +kernel
theorem ok29_117 : okL 29 117 c29_117 = true := okl_of (n := 9) (q := 135) (by decide +kernel) rfl ok29_135
theorem ok29_34 : okL 29 34 c29_34 = true := okl_of (n := 40) (q := 117) (by decide +kernel) rfl ok29_117
theorem ok29_0 : okL 29 0 c29_0 = true := by decide +kernel
theorem okk29 (t : Nat) : okL 29 t (k29 t).2 = true := (oknd (oknd (oklf ok29_0 t) (oklf ok29_34 t)) (oknd (oklf ok29_117 t) (oknd (oklf ok29_135 t) (oklf ok29_157 t))))
theorem ok30_116 : okL 30 116 c30_116 = true := by decide +kernel
theorem ok30_110 : okL 30 110 c30_110 = true := by decide +kernel
theorem ok30_104 : okL 30 104 c30_104 = true := okl_of (n := 4) (q := 110) (by decide +kernel) rfl ok30_110
theorem ok30_31 : okL 30 31 c30_31 = true := okl_of (n := 36) (q := 104) (by decide +kernel) rfl ok30_104
theorem ok30_0 : okL 30 0 c30_0 = true := by decide +kernel
theorem okk30 (t : Nat) : okL 30 t (k30 t).2 = true := (oknd (oknd (oklf ok30_0 t) (oklf ok30_31 t)) (oknd (oklf ok30_104 t) (oknd (oklf ok30_110 t) (oklf ok30_116 t))))
theorem ok31_0 : okL 31 0 c31_0 = true := by decide +kernel
theorem okk31 (t : Nat) : okL 31 t (k31 t).2 = true := (oklf ok31_0 t)
theorem ok32_0 : okL 32 0 c32_0 = true := by decide +kernel
theorem okk32 (t : Nat) : okL 32 t (k32 t).2 = true := (oklf ok32_0 t)
theorem ok33_0 : okL 33 0 c33_0 = true := by decide +kernel
theorem okk33 (t : Nat) : okL 33 t (k33 t).2 = true := (oklf ok33_0 t)
theorem ok34_35 : okL 34 35 c34_35 = true := by decide +kernel
theorem ok34_34 : okL 34 34 c34_34 = true := okl_of (n := 1) (q := 35) (by decide +kernel) rfl ok34_35
theorem ok34_19 : okL 34 19 c34_19 = true := by decide +kernel
theorem ok34_18 : okL 34 18 c34_18 = true := okl_of (n := 1) (q := 19) (by decide +kernel) rfl ok34_19
theorem ok34_14 : okL 34 14 c34_14 = true := by decide +kernel
theorem ok34_0 : okL 34 0 c34_0 = true := okl_of (n := 8) (q := 14) (by decide +kernel) rfl ok34_14
theorem okk34 (t : Nat) : okL 34 t (k34 t).2 = true := (oknd (oknd (oklf ok34_0 t) (oknd (oklf ok34_14 t) (oklf ok34_18 t))) (oknd (oklf ok34_19 t) (oknd (oklf ok34_34 t) (oklf ok34_35 t))))
theorem ok35_0 : okL 35 0 c35_0 = true := by decide +kernel
theorem okk35 (t : Nat) : okL 35 t (k35 t).2 = true := (oklf ok35_0 t)
theorem ok36_55 : okL 36 55 c36_55 = true := by decide +kernel
theorem ok36_49 : okL 36 49 c36_49 = true := by decide +kernel
theorem ok36_21 : okL 36 21 c36_21 = true := okl_of (n := 16) (q := 49) (by decide +kernel) rfl ok36_49
theorem ok36_0 : okL 36 0 c36_0 = true := by decide +kernel
theorem okk36 (t : Nat) : okL 36 t (k36 t).2 = true := (oknd (oknd (oklf ok36_0 t) (oklf ok36_21 t)) (oknd (oklf ok36_49 t) (oklf ok36_55 t)))
theorem ok37_0 : okL 37 0 c37_0 = true := by decide +kernel
theorem okk37 (t : Nat) : okL 37 t (k37 t).2 = true := (oklf ok37_0 t)
theorem ok38_57 : okL 38 57 c38_57 = true := by decide +kernel
theorem ok38_56 : okL 38 56 c38_56 = true := okl_of (n := 1) (q := 57) (by decide +kernel) rfl ok38_57
theorem ok38_34 : okL 38 34 c38_34 = true := by decide +kernel
theorem ok38_33 : okL 38 33 c38_33 = true := okl_of (n := 1) (q := 34) (by decide +kernel) rfl ok38_34
theorem ok38_29 : okL 38 29 c38_29 = true := by decide +kernel
theorem ok38_0 : okL 38 0 c38_0 = true := okl_of (n := 17) (q := 29) (by decide +kernel) rfl ok38_29
theorem okk38 (t : Nat) : okL 38 t (k38 t).2 = true := (oknd (oknd (oklf ok38_0 t) (oknd (oklf ok38_29 t) (oklf ok38_33 t))) (oknd (oklf ok38_34 t) (oknd (oklf ok38_56 t) (oklf ok38_57 t))))
theorem ok39_81 : okL 39 81 c39_81 = true := by decide +kernel
theorem ok39_75 : okL 39 75 c39_75 = true := by decide +kernel
theorem ok39_69 : okL 39 69 c39_69 = true := by decide +kernel
theorem ok39_25 : okL 39 25 c39_25 = true := by decide +kernel
theorem ok39_10 : okL 39 10 c39_10 = true := by decide +kernel
theorem ok39_0 : okL 39 0 c39_0 = true := by decide +kernel
theorem okk39 (t : Nat) : okL 39 t (k39 t).2 = true := (oknd (oknd (oklf ok39_0 t) (oknd (oklf ok39_10 t) (oklf ok39_25 t))) (oknd (oklf ok39_69 t) (oknd (oklf ok39_75 t) (oklf ok39_81 t))))
theorem ok40_0 : okL 40 0 c40_0 = true := by decide +kernel
theorem okk40 (t : Nat) : okL 40 t (k40 t).2 = true := (oklf ok40_0 t)
theorem ok41_34 : okL 41 34 c41_34 = true := by decide +kernel
theorem ok41_33 : okL 41 33 c41_33 = true := okl_of (n := 1) (q := 34) (by decide +kernel) rfl ok41_34
theorem ok41_0 : okL 41 0 c41_0 = true := by decide +kernel
theorem okk41 (t : Nat) : okL 41 t (k41 t).2 = true := (oknd (oklf ok41_0 t) (oknd (oklf ok41_33 t) (oklf ok41_34 t)))
theorem ok42_25 : okL 42 25 c42_25 = true := by decide +kernel
theorem ok42_24 : okL 42 24 c42_24 = true := okl_of (n := 1) (q := 25) (by decide +kernel) rfl ok42_25
theorem ok42_0 : okL 42 0 c42_0 = true := by decide +kernel
theorem okk42 (t : Nat) : okL 42 t (k42 t).2 = true := (oknd (oklf ok42_0 t) (oknd (oklf ok42_24 t) (oklf ok42_25 t)))
theorem ok43_30 : okL 43 30 c43_30 = true := by decide +kernel
theorem ok43_29 : okL 43 29 c43_29 = true := okl_of (n := 1) (q := 30) (by decide +kernel) rfl ok43_30
theorem ok43_0 : okL 43 0 c43_0 = true := by decide +kernel
theorem okk43 (t : Nat) : okL 43 t (k43 t).2 = true := (oknd (oklf ok43_0 t) (oknd (oklf ok43_29 t) (oklf ok43_30 t)))
theorem ok44_137 : okL 44 137 c44_137 = true := by decide +kernel
theorem ok44_131 : okL 44 131 c44_131 = true := by decide +kernel
theorem ok44_125 : okL 44 125 c44_125 = true := by decide +kernel
theorem ok44_90 : okL 44 90 c44_90 = true := by decide +kernel
theorem ok44_48 : okL 44 48 c44_48 = true := by decide +kernel
theorem ok44_34 : okL 44 34 c44_34 = true := by decide +kernel
theorem ok44_25 : okL 44 25 c44_25 = true := by decide +kernel
theorem ok44_24 : okL 44 24 c44_24 = true := okl_of (n := 1) (q := 25) (by decide +kernel) rfl ok44_25
theorem ok44_0 : okL 44 0 c44_0 = true := by decide +kernel
theorem okk44 (t : Nat) : okL 44 t (k44 t).2 = true := (oknd (oknd (oknd (oklf ok44_0 t) (oklf ok44_24 t)) (oknd (oklf ok44_25 t) (oklf ok44_34 t))) (oknd (oknd (oklf ok44_48 t) (oklf ok44_90 t)) (oknd (oklf ok44_125 t) (oknd (oklf ok44_131 t) (oklf ok44_137 t)))))
theorem ok45_0 : okL 45 0 c45_0 = true := by decide +kernel
theorem okk45 (t : Nat) : okL 45 t (k45 t).2 = true := (oklf ok45_0 t)
theorem ok46_100 : okL 46 100 c46_100 = true := by decide +kernel
theorem ok46_94 : okL 46 94 c46_94 = true := by decide +kernel
theorem ok46_21 : okL 46 21 c46_21 = true := by decide +kernel
theorem ok46_0 : okL 46 0 c46_0 = true := by decide +kernel
theorem okk46 (t : Nat) : okL 46 t (k46 t).2 = true := (oknd (oknd (oklf ok46_0 t) (oklf ok46_21 t)) (oknd (oklf ok46_94 t) (oklf ok46_100 t)))
theorem ok47_10 : okL 47 10 c47_10 = true := by decide +kernel
theorem ok47_0 : okL 47 0 c47_0 = true := by decide +kernel
theorem okk47 (t : Nat) : okL 47 t (k47 t).2 = true := (oknd (oklf ok47_0 t) (oklf ok47_10 t))
theorem ok48_9 : okL 48 9 c48_9 = true := by decide +kernel
theorem ok48_0 : okL 48 0 c48_0 = true := by decide +kernel
theorem okk48 (t : Nat) : okL 48 t (k48 t).2 = true := (oknd (oklf ok48_0 t) (oklf ok48_9 t))
theorem ok49_19 : okL 49 19 c49_19 = true := by decide +kernel
theorem ok49_13 : okL 49 13 c49_13 = true := okl_of (n := 4) (q := 19) (by decide +kernel) rfl ok49_19
theorem ok49_9 : okL 49 9 c49_9 = true := by decide +kernel
theorem ok49_0 : okL 49 0 c49_0 = true := okl_of (n := 5) (q := 9) (by decide +kernel) rfl ok49_9
theorem okk49 (t : Nat) : okL 49 t (k49 t).2 = true := (oknd (oknd (oklf ok49_0 t) (oklf ok49_9 t)) (oknd (oklf ok49_13 t) (oklf ok49_19 t)))
theorem ok50_61 : okL 50 61 c50_61 = true := by decide +kernel
theorem ok50_53 : okL 50 53 c50_53 = true := by decide +kernel
theorem ok50_45 : okL 50 45 c50_45 = true := by decide +kernel
theorem ok50_40 : okL 50 40 c50_40 = true := by decide +kernel
theorem ok50_32 : okL 50 32 c50_32 = true := by decide +kernel
theorem ok50_0 : okL 50 0 c50_0 = true := by decide +kernel
theorem okk50 (t : Nat) : okL 50 t (k50 t).2 = true := (oknd (oknd (oklf ok50_0 t) (oknd (oklf ok50_32 t) (oklf ok50_40 t))) (oknd (oklf ok50_45 t) (oknd (oklf ok50_53 t) (oklf ok50_61 t))))
theorem ok51_32 : okL 51 32 c51_32 = true := by decide +kernel
theorem ok51_0 : okL 51 0 c51_0 = true := by decide +kernel
theorem okk51 (t : Nat) : okL 51 t (k51 t).2 = true := (oknd (oklf ok51_0 t) (oklf ok51_32 t))
theorem ok52_36 : okL 52 36 c52_36 = true := by decide +kernel
theorem ok52_15 : okL 52 15 c52_15 = true := by decide +kernel
theorem ok52_0 : okL 52 0 c52_0 = true := okl_of (n := 7) (q := 15) (by decide +kernel) rfl ok52_15
theorem okk52 (t : Nat) : okL 52 t (k52 t).2 = true := (oknd (oklf ok52_0 t) (oknd (oklf ok52_15 t) (oklf ok52_36 t)))
theorem ok53_10 : okL 53 10 c53_10 = true := by decide +kernel
theorem ok53_0 : okL 53 0 c53_0 = true := okl_of (n := 6) (q := 10) (by decide +kernel) rfl ok53_10
theorem okk53 (t : Nat) : okL 53 t (k53 t).2 = true := (oknd (oklf ok53_0 t) (oklf ok53_10 t))
theorem ok54_25 : okL 54 25 c54_25 = true := by decide +kernel
theorem ok54_0 : okL 54 0 c54_0 = true := by decide +kernel
theorem okk54 (t : Nat) : okL 54 t (k54 t).2 = true := (oknd (oklf ok54_0 t) (oklf ok54_25 t))
theorem ok55_25 : okL 55 25 c55_25 = true := by decide +kernel
theorem ok55_0 : okL 55 0 c55_0 = true := by decide +kernel
theorem okk55 (t : Nat) : okL 55 t (k55 t).2 = true := (oknd (oklf ok55_0 t) (oklf ok55_25 t))
theorem ok56_51 : okL 56 51 c56_51 = true := by decide +kernel
theorem ok56_50 : okL 56 50 c56_50 = true := okl_of (n := 1) (q := 51) (by decide +kernel) rfl ok56_51
theorem ok56_0 : okL 56 0 c56_0 = true := by decide +kernel
theorem okk56 (t : Nat) : okL 56 t (k56 t).2 = true := (oknd (oklf ok56_0 t) (oknd (oklf ok56_50 t) (oklf ok56_51 t)))
theorem ok57_15 : okL 57 15 c57_15 = true := by decide +kernel
theorem ok57_14 : okL 57 14 c57_14 = true := okl_of (n := 1) (q := 15) (by decide +kernel) rfl ok57_15
theorem ok57_0 : okL 57 0 c57_0 = true := by decide +kernel
theorem okk57 (t : Nat) : okL 57 t (k57 t).2 = true := (oknd (oklf ok57_0 t) (oknd (oklf ok57_14 t) (oklf ok57_15 t)))
theorem ok58_20 : okL 58 20 c58_20 = true := by decide +kernel
theorem ok58_19 : okL 58 19 c58_19 = true := okl_of (n := 1) (q := 20) (by decide +kernel) rfl ok58_20
theorem ok58_0 : okL 58 0 c58_0 = true := by decide +kernel
theorem okk58 (t : Nat) : okL 58 t (k58 t).2 = true := (oknd (oklf ok58_0 t) (oknd (oklf ok58_19 t) (oklf ok58_20 t)))
theorem ok59_0 : okL 59 0 c59_0 = true := by decide +kernel
theorem okk59 (t : Nat) : okL 59 t (k59 t).2 = true := (oklf ok59_0 t)
theorem ok60_49 : okL 60 49 c60_49 = true := by decide +kernel
theorem ok60_0 : okL 60 0 c60_0 = true := okl_of (n := 23) (q := 49) (by decide +kernel) rfl ok60_49
theorem okk60 (t : Nat) : okL 60 t (k60 t).2 = true := (oknd (oklf ok60_0 t) (oklf ok60_49 t))
theorem ok61_0 : okL 61 0 c61_0 = true := by decide +kernel
theorem okk61 (t : Nat) : okL 61 t (k61 t).2 = true := (oklf ok61_0 t)
theorem ok62_64 : okL 62 64 c62_64 = true := by decide +kernel
theorem ok62_31 : okL 62 31 c62_31 = true := by decide +kernel
theorem ok62_25 : okL 62 25 c62_25 = true := by decide +kernel
theorem ok62_0 : okL 62 0 c62_0 = true := by decide +kernel
theorem okk62 (t : Nat) : okL 62 t (k62 t).2 = true := (oknd (oknd (oklf ok62_0 t) (oklf ok62_25 t)) (oknd (oklf ok62_31 t) (oklf ok62_64 t)))
theorem ok63_0 : okL 63 0 c63_0 = true := by decide +kernel
theorem okk63 (t : Nat) : okL 63 t (k63 t).2 = true := (oklf ok63_0 t)
theorem ok64_0 : okL 64 0 c64_0 = true := by decide +kernel
theorem okk64 (t : Nat) : okL 64 t (k64 t).2 = true := (oklf ok64_0 t)
theorem ok65_0 : okL 65 0 c65_0 = true := by decide +kernel
theorem okk65 (t : Nat) : okL 65 t (k65 t).2 = true := (oklf ok65_0 t)
theorem ok66_0 : okL 66 0 c66_0 = true := by decide +kernel
theorem okk66 (t : Nat) : okL 66 t (k66 t).2 = true := (oklf ok66_0 t)
theorem ok67_0 : okL 67 0 c67_0 = true := by decide +kernel
theorem okk67 (t : Nat) : okL 67 t (k67 t).2 = true := (oklf ok67_0 t)
theorem ok68_0 : okL 68 0 c68_0 = true := by decide +kernel
theorem okk68 (t : Nat) : okL 68 t (k68 t).2 = true := (oklf ok68_0 t)
theorem ok69_38 : okL 69 38 c69_38 = true := by decide +kernel
theorem ok69_37 : okL 69 37 c69_37 = true := okl_of (n := 1) (q := 38) (by decide +kernel) rfl ok69_38
theorem ok69_26 : okL 69 26 c69_26 = true := by decide +kernel
theorem ok69_0 : okL 69 0 c69_0 = true := okl_of (n := 16) (q := 26) (by decide +kernel) rfl ok69_26
theorem okk69 (t : Nat) : okL 69 t (k69 t).2 = true := (oknd (oknd (oklf ok69_0 t) (oklf ok69_26 t)) (oknd (oklf ok69_37 t) (oklf ok69_38 t)))
theorem ok70_15 : okL 70 15 c70_15 = true := by decide +kernel
theorem ok70_14 : okL 70 14 c70_14 = true := okl_of (n := 1) (q := 15) (by decide +kernel) rfl ok70_15
theorem ok70_0 : okL 70 0 c70_0 = true := by decide +kernel
theorem okk70 (t : Nat) : okL 70 t (k70 t).2 = true := (oknd (oklf ok70_0 t) (oknd (oklf ok70_14 t) (oklf ok70_15 t)))
theorem ok71_0 : okL 71 0 c71_0 = true := by decide +kernel
theorem okk71 (t : Nat) : okL 71 t (k71 t).2 = true := (oklf ok71_0 t)
theorem ok72_120 : okL 72 120 c72_120 = true := by decide +kernel
theorem ok72_76 : okL 72 76 c72_76 = true := by decide +kernel
theorem ok72_74 : okL 72 74 c72_74 = true := okl_of (n := 1) (q := 76) (by decide +kernel) rfl ok72_76
theorem ok72_62 : okL 72 62 c72_62 = true := by decide +kernel
theorem ok72_51 : okL 72 51 c72_51 = true := by decide +kernel
theorem ok72_40 : okL 72 40 c72_40 = true := by decide +kernel
theorem ok72_23 : okL 72 23 c72_23 = true := by decide +kernel
theorem ok72_20 : okL 72 20 c72_20 = true := by decide +kernel
theorem ok72_0 : okL 72 0 c72_0 = true := by decide +kernel
theorem okk72 (t : Nat) : okL 72 t (k72 t).2 = true := (oknd (oknd (oknd (oklf ok72_0 t) (oklf ok72_20 t)) (oknd (oklf ok72_23 t) (oklf ok72_40 t))) (oknd (oknd (oklf ok72_51 t) (oklf ok72_62 t)) (oknd (oklf ok72_74 t) (oknd (oklf ok72_76 t) (oklf ok72_120 t)))))
theorem ok73_13 : okL 73 13 c73_13 = true := by decide +kernel
theorem ok73_12 : okL 73 12 c73_12 = true := okl_of (n := 1) (q := 13) (by decide +kernel) rfl ok73_13
theorem ok73_0 : okL 73 0 c73_0 = true := by decide +kernel
theorem okk73 (t : Nat) : okL 73 t (k73 t).2 = true := (oknd (oklf ok73_0 t) (oknd (oklf ok73_12 t) (oklf ok73_13 t)))
theorem ok74_9 : okL 74 9 c74_9 = true := by decide +kernel
theorem ok74_0 : okL 74 0 c74_0 = true := by decide +kernel
theorem okk74 (t : Nat) : okL 74 t (k74 t).2 = true := (oknd (oklf ok74_0 t) (oklf ok74_9 t))
theorem ok75_62 : okL 75 62 c75_62 = true := by decide +kernel
theorem ok75_61 : okL 75 61 c75_61 = true := okl_of (n := 1) (q := 62) (by decide +kernel) rfl ok75_62
theorem ok75_38 : okL 75 38 c75_38 = true := by decide +kernel
theorem ok75_0 : okL 75 0 c75_0 = true := by decide +kernel
theorem okk75 (t : Nat) : okL 75 t (k75 t).2 = true := (oknd (oknd (oklf ok75_0 t) (oklf ok75_38 t)) (oknd (oklf ok75_61 t) (oklf ok75_62 t)))
theorem ok76_17 : okL 76 17 c76_17 = true := by decide +kernel
theorem ok76_16 : okL 76 16 c76_16 = true := okl_of (n := 1) (q := 17) (by decide +kernel) rfl ok76_17
theorem ok76_0 : okL 76 0 c76_0 = true := by decide +kernel
theorem okk76 (t : Nat) : okL 76 t (k76 t).2 = true := (oknd (oklf ok76_0 t) (oknd (oklf ok76_16 t) (oklf ok76_17 t)))
theorem ok77_17 : okL 77 17 c77_17 = true := by decide +kernel
theorem ok77_16 : okL 77 16 c77_16 = true := okl_of (n := 1) (q := 17) (by decide +kernel) rfl ok77_17
theorem ok77_0 : okL 77 0 c77_0 = true := by decide +kernel
theorem okk77 (t : Nat) : okL 77 t (k77 t).2 = true := (oknd (oklf ok77_0 t) (oknd (oklf ok77_16 t) (oklf ok77_17 t)))
theorem ok78_78 : okL 78 78 c78_78 = true := by decide +kernel
theorem ok78_77 : okL 78 77 c78_77 = true := okl_of (n := 1) (q := 78) (by decide +kernel) rfl ok78_78
theorem ok78_67 : okL 78 67 c78_67 = true := by decide +kernel
theorem ok78_57 : okL 78 57 c78_57 = true := by decide +kernel
theorem ok78_56 : okL 78 56 c78_56 = true := okl_of (n := 1) (q := 57) (by decide +kernel) rfl ok78_57
theorem ok78_14 : okL 78 14 c78_14 = true := by decide +kernel
theorem ok78_0 : okL 78 0 c78_0 = true := by decide +kernel
theorem okk78 (t : Nat) : okL 78 t (k78 t).2 = true := (oknd (oknd (oklf ok78_0 t) (oknd (oklf ok78_14 t) (oklf ok78_56 t))) (oknd (oknd (oklf ok78_57 t) (oklf ok78_67 t)) (oknd (oklf ok78_77 t) (oklf ok78_78 t))))
theorem ok79_31 : okL 79 31 c79_31 = true := by decide +kernel
theorem ok79_4 : okL 79 4 c79_4 = true := by decide +kernel
theorem ok79_0 : okL 79 0 c79_0 = true := by decide +kernel
theorem okk79 (t : Nat) : okL 79 t (k79 t).2 = true := (oknd (oklf ok79_0 t) (oknd (oklf ok79_4 t) (oklf ok79_31 t)))
theorem ok80_39 : okL 80 39 c80_39 = true := by decide +kernel
theorem ok80_0 : okL 80 0 c80_0 = true := by decide +kernel
theorem okk80 (t : Nat) : okL 80 t (k80 t).2 = true := (oknd (oklf ok80_0 t) (oklf ok80_39 t))
theorem ok81_135 : okL 81 135 c81_135 = true := by decide +kernel
theorem ok81_126 : okL 81 126 c81_126 = true := by decide +kernel
theorem ok81_114 : okL 81 114 c81_114 = true := okl_of (n := 6) (q := 126) (by decide +kernel) rfl ok81_126
theorem ok81_99 : okL 81 99 c81_99 = true := by decide +kernel
theorem ok81_81 : okL 81 81 c81_81 = true := okl_of (n := 11) (q := 99) (by decide +kernel) rfl ok81_99
theorem ok81_41 : okL 81 41 c81_41 = true := by decide +kernel
theorem ok81_9 : okL 81 9 c81_9 = true := by decide +kernel
theorem ok81_0 : okL 81 0 c81_0 = true := by decide +kernel
theorem okk81 (t : Nat) : okL 81 t (k81 t).2 = true := (oknd (oknd (oknd (oklf ok81_0 t) (oklf ok81_9 t)) (oknd (oklf ok81_41 t) (oklf ok81_81 t))) (oknd (oknd (oklf ok81_99 t) (oklf ok81_114 t)) (oknd (oklf ok81_126 t) (oklf ok81_135 t))))
theorem ok82_41 : okL 82 41 c82_41 = true := by decide +kernel
theorem ok82_24 : okL 82 24 c82_24 = true := okl_of (n := 9) (q := 41) (by decide +kernel) rfl ok82_41
theorem ok82_0 : okL 82 0 c82_0 = true := okl_of (n := 12) (q := 24) (by decide +kernel) rfl ok82_24
theorem okk82 (t : Nat) : okL 82 t (k82 t).2 = true := (oknd (oklf ok82_0 t) (oknd (oklf ok82_24 t) (oklf ok82_41 t)))
theorem ok83_21 : okL 83 21 c83_21 = true := by decide +kernel
theorem ok83_20 : okL 83 20 c83_20 = true := okl_of (n := 1) (q := 21) (by decide +kernel) rfl ok83_21
theorem ok83_0 : okL 83 0 c83_0 = true := by decide +kernel
theorem okk83 (t : Nat) : okL 83 t (k83 t).2 = true := (oknd (oklf ok83_0 t) (oknd (oklf ok83_20 t) (oklf ok83_21 t)))
theorem ok84_0 : okL 84 0 c84_0 = true := by decide +kernel
theorem okk84 (t : Nat) : okL 84 t (k84 t).2 = true := (oklf ok84_0 t)
theorem ok85_0 : okL 85 0 c85_0 = true := by decide +kernel
theorem okk85 (t : Nat) : okL 85 t (k85 t).2 = true := (oklf ok85_0 t)
theorem ok86_64 : okL 86 64 c86_64 = true := by decide +kernel
theorem ok86_47 : okL 86 47 c86_47 = true := okl_of (n := 10) (q := 64) (by decide +kernel) rfl ok86_64
theorem ok86_46 : okL 86 46 c86_46 = true := okl_of (n := 1) (q := 47) (by decide +kernel) rfl ok86_47
theorem ok86_33 : okL 86 33 c86_33 = true := by decide +kernel
theorem ok86_0 : okL 86 0 c86_0 = true := by decide +kernel
theorem okk86 (t : Nat) : okL 86 t (k86 t).2 = true := (oknd (oknd (oklf ok86_0 t) (oklf ok86_33 t)) (oknd (oklf ok86_46 t) (oknd (oklf ok86_47 t) (oklf ok86_64 t))))
