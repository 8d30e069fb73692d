/-! ===== how a law is read, purely ===== -/
abbrev Px : Type := Pz × List (Int × Int)
def emx (x : Px) (op v : Int) : Px := if x.1.2.1 ≠ -1 then x else (x.1, x.2 ++ [(op, v)])
def opn (p : Pz) (k o : Int) : Pz := if p.2.1 ≠ -1 then p else if o = 6 then pFl p 3 p.1 else pAt p (p.1 + k)
def fcW (w : Int) : Int := if w = tC 15 then 0 else if w = tC 16 then 1 else if w = tC 17 then 2 else if w = tC 4 then 3 else if w = tC 18 then 4 else if w = tC 6 then 5 else if w = tC 19 then 6 else if w = tC 8 then 7 else -1
def jop (g : Nat) (c w : Int) : Int := if g = 1 then (if c = 42 then 4 else if c = 47 then 5 else 0) else if g = 2 then (if c = 43 then 2 else if c = 45 then 3 else 0) else if g = 4 then (if w = tC 21 then 10 else 0) else (if w = tC 22 then 11 else 0)
def jq (t : Nat → Int) (n : Int) (g : Nat) (b : Int) : Int := if g ≤ 2 then b + 1 else pLe t n b
def cop (c : Int) : Int := if c = 60 then 6 else if c = 62 then 7 else if c = 61 then 8 else 0
/-- 0 a unit, 1 a product, 2 a sum, 3 what holds or not, 4 joined by and, 5 by or; 10 more: the rest of such a row -/
def GPr (t : Nat → Int) (n : Int) (P : Nat → Int → Px → Px → Prop) : Prop := (∀ (g : Nat) (o : Int) (x : Px), x.1.2.1 ≠ -1 → P g o x x) ∧
  (∀ (o : Int) (x y : Px), x.1.2.1 = -1 → pBy t n (pSp t n x.1.1) = 40 → P 2 (o + 1) (opn (pAt x.1 (pSp t n x.1.1)) 1 o, x.2) y → P 0 o x (pEx t n y.1 41, y.2)) ∧
  (∀ (o : Int) (x : Px), x.1.2.1 = -1 → 48 ≤ pBy t n (pSp t n x.1.1) ∧ pBy t n (pSp t n x.1.1) ≤ 57 → P 0 o x (emx ((pNb t n (pAt x.1 (pSp t n x.1.1)) 0 9999).2, x.2) 0 (pNb t n (pAt x.1 (pSp t n x.1.1)) 0 9999).1)) ∧
  (∀ (o : Int) (x : Px), x.1.2.1 = -1 → pBy t n (pSp t n x.1.1) ≠ 40 → ¬ (48 ≤ pBy t n (pSp t n x.1.1) ∧ pBy t n (pSp t n x.1.1) ≤ 57) → fcW (pWd t n (pSp t n x.1.1)) = -1 → P 0 o x (pFl (pAt x.1 (pSp t n x.1.1)) 1 (pSp t n x.1.1), x.2)) ∧
  (∀ (o : Int) (x : Px), x.1.2.1 = -1 → pBy t n (pSp t n x.1.1) ≠ 40 → ¬ (48 ≤ pBy t n (pSp t n x.1.1) ∧ pBy t n (pSp t n x.1.1) ≤ 57) → fcW (pWd t n (pSp t n x.1.1)) ≠ -1 → P 0 o x (emx (pAt x.1 (pLe t n (pSp t n x.1.1)), x.2) 1 (fcW (pWd t n (pSp t n x.1.1))))) ∧
  (∀ (g : Nat) (o : Int) (x y z : Px), x.1.2.1 = -1 → (g = 1 ∨ g = 2 ∨ g = 4 ∨ g = 5) → P (g - 1) o x y → P (10 + g) o y z → P g o x z) ∧
  (∀ (g : Nat) (o : Int) (x : Px), x.1.2.1 = -1 → (g = 1 ∨ g = 2 ∨ g = 4 ∨ g = 5) → jop g (pBy t n (pSp t n x.1.1)) (pWd t n (pSp t n x.1.1)) = 0 → P (10 + g) o x (pAt x.1 (pSp t n x.1.1), x.2)) ∧
  (∀ (g : Nat) (o : Int) (x y z : Px), x.1.2.1 = -1 → (g = 1 ∨ g = 2 ∨ g = 4 ∨ g = 5) → jop g (pBy t n (pSp t n x.1.1)) (pWd t n (pSp t n x.1.1)) ≠ 0 → P (g - 1) o (pAt x.1 (jq t n g (pSp t n x.1.1)), x.2) y → P (10 + g) o (emx y (jop g (pBy t n (pSp t n x.1.1)) (pWd t n (pSp t n x.1.1))) 0) z → P (10 + g) o x z) ∧
  (∀ (o : Int) (x y : Px), x.1.2.1 = -1 → pBy t n (pSp t n x.1.1) = 91 → P 5 (o + 1) (opn (pAt x.1 (pSp t n x.1.1)) 1 o, x.2) y → P 3 o x (pEx t n y.1 93, y.2)) ∧
  (∀ (o : Int) (x y : Px), x.1.2.1 = -1 → pBy t n (pSp t n x.1.1) ≠ 91 → pWd t n (pSp t n x.1.1) = tC 20 → P 3 (o + 1) (opn (pAt x.1 (pSp t n x.1.1)) 3 o, x.2) y → P 3 o x (emx y 9 0)) ∧
  (∀ (o : Int) (x y : Px), x.1.2.1 = -1 → pBy t n (pSp t n x.1.1) ≠ 91 → pWd t n (pSp t n x.1.1) ≠ tC 20 → P 2 o (pAt x.1 (pSp t n x.1.1), x.2) y → y.1.2.1 ≠ -1 → P 3 o x y) ∧
  (∀ (o : Int) (x y : Px), x.1.2.1 = -1 → pBy t n (pSp t n x.1.1) ≠ 91 → pWd t n (pSp t n x.1.1) ≠ tC 20 → P 2 o (pAt x.1 (pSp t n x.1.1), x.2) y → y.1.2.1 = -1 → cop (pBy t n (pSp t n y.1.1)) = 0 → P 3 o x (pFl (pAt y.1 (pSp t n y.1.1)) 1 (pSp t n y.1.1), y.2)) ∧
  (∀ (o : Int) (x y z : Px), x.1.2.1 = -1 → pBy t n (pSp t n x.1.1) ≠ 91 → pWd t n (pSp t n x.1.1) ≠ tC 20 → P 2 o (pAt x.1 (pSp t n x.1.1), x.2) y → y.1.2.1 = -1 → cop (pBy t n (pSp t n y.1.1)) ≠ 0 → P 2 o (pAt y.1 (pSp t n y.1.1 + 1), y.2) z → P 3 o x (emx z (cop (pBy t n (pSp t n y.1.1))) 0))
def GP (t : Nat → Int) (n : Int) (g : Nat) (o : Int) (x x' : Px) : Prop := ∀ P : Nat → Int → Px → Px → Prop, GPr t n P → P g o x x'
theorem GP_flt {t : Nat → Int} {n : Int} {g : Nat} {o : Int} {x : Px} (h : x.1.2.1 ≠ -1) : GP t n g o x x := fun P hP => hP.1 g o x h
theorem GP_par {t : Nat → Int} {n : Int} {o : Int} {x y : Px} (h : x.1.2.1 = -1) (c : pBy t n (pSp t n x.1.1) = 40) (s : GP t n 2 (o + 1) (opn (pAt x.1 (pSp t n x.1.1)) 1 o, x.2) y) : GP t n 0 o x (pEx t n y.1 41, y.2) := fun P hP => hP.2.1 o x y h c (s P hP)
theorem GP_num {t : Nat → Int} {n : Int} {o : Int} {x : Px} (h : x.1.2.1 = -1) (c : 48 ≤ pBy t n (pSp t n x.1.1) ∧ pBy t n (pSp t n x.1.1) ≤ 57) : GP t n 0 o x (emx ((pNb t n (pAt x.1 (pSp t n x.1.1)) 0 9999).2, x.2) 0 (pNb t n (pAt x.1 (pSp t n x.1.1)) 0 9999).1) := fun P hP => hP.2.2.1 o x h c
theorem GP_fno {t : Nat → Int} {n : Int} {o : Int} {x : Px} (h : x.1.2.1 = -1) (c : pBy t n (pSp t n x.1.1) ≠ 40) (c2 : ¬ (48 ≤ pBy t n (pSp t n x.1.1) ∧ pBy t n (pSp t n x.1.1) ≤ 57)) (w : fcW (pWd t n (pSp t n x.1.1)) = -1) : GP t n 0 o x (pFl (pAt x.1 (pSp t n x.1.1)) 1 (pSp t n x.1.1), x.2) := fun P hP => hP.2.2.2.1 o x h c c2 w
theorem GP_fct {t : Nat → Int} {n : Int} {o : Int} {x : Px} (h : x.1.2.1 = -1) (c : pBy t n (pSp t n x.1.1) ≠ 40) (c2 : ¬ (48 ≤ pBy t n (pSp t n x.1.1) ∧ pBy t n (pSp t n x.1.1) ≤ 57)) (w : fcW (pWd t n (pSp t n x.1.1)) ≠ -1) : GP t n 0 o x (emx (pAt x.1 (pLe t n (pSp t n x.1.1)), x.2) 1 (fcW (pWd t n (pSp t n x.1.1)))) := fun P hP => hP.2.2.2.2.1 o x h c c2 w
theorem GP_joi {t : Nat → Int} {n : Int} {g : Nat} {o : Int} {x y z : Px} (h : x.1.2.1 = -1) (hg : g = 1 ∨ g = 2 ∨ g = 4 ∨ g = 5) (s1 : GP t n (g - 1) o x y) (s2 : GP t n (10 + g) o y z) : GP t n g o x z := fun P hP => hP.2.2.2.2.2.1 g o x y z h hg (s1 P hP) (s2 P hP)
theorem GP_fin {t : Nat → Int} {n : Int} {g : Nat} {o : Int} {x : Px} (h : x.1.2.1 = -1) (hg : g = 1 ∨ g = 2 ∨ g = 4 ∨ g = 5) (c : jop g (pBy t n (pSp t n x.1.1)) (pWd t n (pSp t n x.1.1)) = 0) : GP t n (10 + g) o x (pAt x.1 (pSp t n x.1.1), x.2) := fun P hP => hP.2.2.2.2.2.2.1 g o x h hg c
theorem GP_mor {t : Nat → Int} {n : Int} {g : Nat} {o : Int} {x y z : Px} (h : x.1.2.1 = -1) (hg : g = 1 ∨ g = 2 ∨ g = 4 ∨ g = 5) (c : jop g (pBy t n (pSp t n x.1.1)) (pWd t n (pSp t n x.1.1)) ≠ 0) (s1 : GP t n (g - 1) o (pAt x.1 (jq t n g (pSp t n x.1.1)), x.2) y) (s2 : GP t n (10 + g) o (emx y (jop g (pBy t n (pSp t n x.1.1)) (pWd t n (pSp t n x.1.1))) 0) z) : GP t n (10 + g) o x z := fun P hP => hP.2.2.2.2.2.2.2.1 g o x y z h hg c (s1 P hP) (s2 P hP)
theorem GP_bra {t : Nat → Int} {n : Int} {o : Int} {x y : Px} (h : x.1.2.1 = -1) (c : pBy t n (pSp t n x.1.1) = 91) (s : GP t n 5 (o + 1) (opn (pAt x.1 (pSp t n x.1.1)) 1 o, x.2) y) : GP t n 3 o x (pEx t n y.1 93, y.2) := fun P hP => hP.2.2.2.2.2.2.2.2.1 o x y h c (s P hP)
theorem GP_neg {t : Nat → Int} {n : Int} {o : Int} {x y : Px} (h : x.1.2.1 = -1) (c : pBy t n (pSp t n x.1.1) ≠ 91) (w : pWd t n (pSp t n x.1.1) = tC 20) (s : GP t n 3 (o + 1) (opn (pAt x.1 (pSp t n x.1.1)) 3 o, x.2) y) : GP t n 3 o x (emx y 9 0) := fun P hP => hP.2.2.2.2.2.2.2.2.2.1 o x y h c w (s P hP)
theorem GP_cmf {t : Nat → Int} {n : Int} {o : Int} {x y : Px} (h : x.1.2.1 = -1) (c : pBy t n (pSp t n x.1.1) ≠ 91) (w : pWd t n (pSp t n x.1.1) ≠ tC 20) (s : GP t n 2 o (pAt x.1 (pSp t n x.1.1), x.2) y) (f : y.1.2.1 ≠ -1) : GP t n 3 o x y := fun P hP => hP.2.2.2.2.2.2.2.2.2.2.1 o x y h c w (s P hP) f
theorem GP_cmn {t : Nat → Int} {n : Int} {o : Int} {x y : Px} (h : x.1.2.1 = -1) (c : pBy t n (pSp t n x.1.1) ≠ 91) (w : pWd t n (pSp t n x.1.1) ≠ tC 20) (s : GP t n 2 o (pAt x.1 (pSp t n x.1.1), x.2) y) (f : y.1.2.1 = -1) (e : cop (pBy t n (pSp t n y.1.1)) = 0) : GP t n 3 o x (pFl (pAt y.1 (pSp t n y.1.1)) 1 (pSp t n y.1.1), y.2) := fun P hP => hP.2.2.2.2.2.2.2.2.2.2.2.1 o x y h c w (s P hP) f e
theorem GP_cmp {t : Nat → Int} {n : Int} {o : Int} {x y z : Px} (h : x.1.2.1 = -1) (c : pBy t n (pSp t n x.1.1) ≠ 91) (w : pWd t n (pSp t n x.1.1) ≠ tC 20) (s : GP t n 2 o (pAt x.1 (pSp t n x.1.1), x.2) y) (f : y.1.2.1 = -1) (e : cop (pBy t n (pSp t n y.1.1)) ≠ 0) (s2 : GP t n 2 o (pAt y.1 (pSp t n y.1.1 + 1), y.2) z) : GP t n 3 o x (emx z (cop (pBy t n (pSp t n y.1.1))) 0) := fun P hP => hP.2.2.2.2.2.2.2.2.2.2.2.2 o x y z h c w (s P hP) f e (s2 P hP)
theorem GP_rec {t : Nat → Int} {n : Int} {P : Nat → Int → Px → Px → Prop}
    (r_flt : ∀ (g : Nat) (o : Int) (x : Px), x.1.2.1 ≠ -1 → P g o x x)
    (r_par : ∀ (o : Int) (x y : Px), x.1.2.1 = -1 → pBy t n (pSp t n x.1.1) = 40 → GP t n 2 (o + 1) (opn (pAt x.1 (pSp t n x.1.1)) 1 o, x.2) y → P 2 (o + 1) (opn (pAt x.1 (pSp t n x.1.1)) 1 o, x.2) y → P 0 o x (pEx t n y.1 41, y.2))
    (r_num : ∀ (o : Int) (x : Px), x.1.2.1 = -1 → 48 ≤ pBy t n (pSp t n x.1.1) ∧ pBy t n (pSp t n x.1.1) ≤ 57 → P 0 o x (emx ((pNb t n (pAt x.1 (pSp t n x.1.1)) 0 9999).2, x.2) 0 (pNb t n (pAt x.1 (pSp t n x.1.1)) 0 9999).1))
    (r_fno : ∀ (o : Int) (x : Px), x.1.2.1 = -1 → pBy t n (pSp t n x.1.1) ≠ 40 → ¬ (48 ≤ pBy t n (pSp t n x.1.1) ∧ pBy t n (pSp t n x.1.1) ≤ 57) → fcW (pWd t n (pSp t n x.1.1)) = -1 → P 0 o x (pFl (pAt x.1 (pSp t n x.1.1)) 1 (pSp t n x.1.1), x.2))
    (r_fct : ∀ (o : Int) (x : Px), x.1.2.1 = -1 → pBy t n (pSp t n x.1.1) ≠ 40 → ¬ (48 ≤ pBy t n (pSp t n x.1.1) ∧ pBy t n (pSp t n x.1.1) ≤ 57) → fcW (pWd t n (pSp t n x.1.1)) ≠ -1 → P 0 o x (emx (pAt x.1 (pLe t n (pSp t n x.1.1)), x.2) 1 (fcW (pWd t n (pSp t n x.1.1)))))
    (r_joi : ∀ (g : Nat) (o : Int) (x y z : Px), x.1.2.1 = -1 → (g = 1 ∨ g = 2 ∨ g = 4 ∨ g = 5) → GP t n (g - 1) o x y → GP t n (10 + g) o y z → P (g - 1) o x y → P (10 + g) o y z → P g o x z)
    (r_fin : ∀ (g : Nat) (o : Int) (x : Px), x.1.2.1 = -1 → (g = 1 ∨ g = 2 ∨ g = 4 ∨ g = 5) → jop g (pBy t n (pSp t n x.1.1)) (pWd t n (pSp t n x.1.1)) = 0 → P (10 + g) o x (pAt x.1 (pSp t n x.1.1), x.2))
    (r_mor : ∀ (g : Nat) (o : Int) (x y z : Px), x.1.2.1 = -1 → (g = 1 ∨ g = 2 ∨ g = 4 ∨ g = 5) → jop g (pBy t n (pSp t n x.1.1)) (pWd t n (pSp t n x.1.1)) ≠ 0 → GP t n (g - 1) o (pAt x.1 (jq t n g (pSp t n x.1.1)), x.2) y → GP t n (10 + g) o (emx y (jop g (pBy t n (pSp t n x.1.1)) (pWd t n (pSp t n x.1.1))) 0) z → P (g - 1) o (pAt x.1 (jq t n g (pSp t n x.1.1)), x.2) y → P (10 + g) o (emx y (jop g (pBy t n (pSp t n x.1.1)) (pWd t n (pSp t n x.1.1))) 0) z → P (10 + g) o x z)
    (r_bra : ∀ (o : Int) (x y : Px), x.1.2.1 = -1 → pBy t n (pSp t n x.1.1) = 91 → GP t n 5 (o + 1) (opn (pAt x.1 (pSp t n x.1.1)) 1 o, x.2) y → P 5 (o + 1) (opn (pAt x.1 (pSp t n x.1.1)) 1 o, x.2) y → P 3 o x (pEx t n y.1 93, y.2))
    (r_neg : ∀ (o : Int) (x y : Px), x.1.2.1 = -1 → pBy t n (pSp t n x.1.1) ≠ 91 → pWd t n (pSp t n x.1.1) = tC 20 → GP t n 3 (o + 1) (opn (pAt x.1 (pSp t n x.1.1)) 3 o, x.2) y → P 3 (o + 1) (opn (pAt x.1 (pSp t n x.1.1)) 3 o, x.2) y → P 3 o x (emx y 9 0))
    (r_cmf : ∀ (o : Int) (x y : Px), x.1.2.1 = -1 → pBy t n (pSp t n x.1.1) ≠ 91 → pWd t n (pSp t n x.1.1) ≠ tC 20 → GP t n 2 o (pAt x.1 (pSp t n x.1.1), x.2) y → y.1.2.1 ≠ -1 → P 2 o (pAt x.1 (pSp t n x.1.1), x.2) y → P 3 o x y)
    (r_cmn : ∀ (o : Int) (x y : Px), x.1.2.1 = -1 → pBy t n (pSp t n x.1.1) ≠ 91 → pWd t n (pSp t n x.1.1) ≠ tC 20 → GP t n 2 o (pAt x.1 (pSp t n x.1.1), x.2) y → y.1.2.1 = -1 → cop (pBy t n (pSp t n y.1.1)) = 0 → P 2 o (pAt x.1 (pSp t n x.1.1), x.2) y → P 3 o x (pFl (pAt y.1 (pSp t n y.1.1)) 1 (pSp t n y.1.1), y.2))
    (r_cmp : ∀ (o : Int) (x y z : Px), x.1.2.1 = -1 → pBy t n (pSp t n x.1.1) ≠ 91 → pWd t n (pSp t n x.1.1) ≠ tC 20 → GP t n 2 o (pAt x.1 (pSp t n x.1.1), x.2) y → y.1.2.1 = -1 → cop (pBy t n (pSp t n y.1.1)) ≠ 0 → GP t n 2 o (pAt y.1 (pSp t n y.1.1 + 1), y.2) z → P 2 o (pAt x.1 (pSp t n x.1.1), x.2) y → P 2 o (pAt y.1 (pSp t n y.1.1 + 1), y.2) z → P 3 o x (emx z (cop (pBy t n (pSp t n y.1.1))) 0))
    {g : Nat} {o : Int} {x x' : Px} (h : GP t n g o x x') : P g o x x' :=
  (h (fun g o x x' => GP t n g o x x' ∧ P g o x x') ⟨fun g o x h => ⟨GP_flt h, r_flt g o x h ⟩,
    fun o x y h c s => ⟨GP_par h c s.1, r_par o x y h c s.1 s.2⟩,
    fun o x h c => ⟨GP_num h c, r_num o x h c ⟩,
    fun o x h c c2 w => ⟨GP_fno h c c2 w, r_fno o x h c c2 w ⟩,
    fun o x h c c2 w => ⟨GP_fct h c c2 w, r_fct o x h c c2 w ⟩,
    fun g o x y z h hg s1 s2 => ⟨GP_joi h hg s1.1 s2.1, r_joi g o x y z h hg s1.1 s2.1 s1.2 s2.2⟩,
    fun g o x h hg c => ⟨GP_fin h hg c, r_fin g o x h hg c ⟩,
    fun g o x y z h hg c s1 s2 => ⟨GP_mor h hg c s1.1 s2.1, r_mor g o x y z h hg c s1.1 s2.1 s1.2 s2.2⟩,
    fun o x y h c s => ⟨GP_bra h c s.1, r_bra o x y h c s.1 s.2⟩,
    fun o x y h c w s => ⟨GP_neg h c w s.1, r_neg o x y h c w s.1 s.2⟩,
    fun o x y h c w s f => ⟨GP_cmf h c w s.1 f, r_cmf o x y h c w s.1 f s.2⟩,
    fun o x y h c w s f e => ⟨GP_cmn h c w s.1 f e, r_cmn o x y h c w s.1 f e s.2⟩,
    fun o x y z h c w s f e s2 => ⟨GP_cmp h c w s.1 f e s2.1, r_cmp o x y z h c w s.1 f e s2.1 s.2 s2.2⟩⟩).2
theorem GP_x {t : Nat → Int} {n o : Int} {g : Nat} {x x' : Px} (h : GP t n g o x x') (hf : x.1.2.1 ≠ -1) : x' = x := by
  revert hf
  refine GP_rec (P := fun _ _ x x' => x.1.2.1 ≠ -1 → x' = x) ?_ ?_ ?_ ?_ ?_ ?_ ?_ ?_ ?_ ?_ ?_ ?_ ?_ h
  · intros; rfl
  all_goals (intros; exfalso; contradiction)
theorem emx_n {x : Px} {op v : Int} (h : x.1.2.1 ≠ -1) : emx x op v = x := if_pos h
theorem emx_y {x : Px} {op v : Int} (h : x.1.2.1 = -1) : emx x op v = (x.1, x.2 ++ [(op, v)]) := if_neg (fun r => r h)
theorem emx_1 {x : Px} {op v : Int} : (emx x op v).1 = x.1 := by
  unfold emx
  split <;> rfl
theorem emx_l {x : Px} {op v : Int} : ((emx x op v).2.length : Int) ≤ x.2.length + 1 := by
  unfold emx
  split
  · omega
  · show ((x.2 ++ [(op, v)]).length : Int) ≤ _
    rw [List.length_append]
    show ((x.2.length + 1 : Nat) : Int) ≤ _
    omega
theorem opn_6 {p : Pz} {k : Int} (h : p.2.1 = -1) : opn p k 6 = pFl p 3 p.1 := by
  unfold opn
  rw [if_neg (fun r => r h), if_pos rfl]
theorem opn_o {p : Pz} {k o : Int} (h : p.2.1 = -1) (ho : o ≠ 6) : opn p k o = pAt p (p.1 + k) := by
  unfold opn
  rw [if_neg (fun r => r h), if_neg ho]
theorem pFl_y {p : Pz} {kd a : Int} (h : p.2.1 = -1) : pFl p kd a = (p.1, a, kd) := if_pos h
theorem pWd_0 {t : Nat → Int} {n b : Int} (hb : 0 ≤ b) (hn : b ≤ n) (h : pLe t n b = b) : pWd t n b = 0 := by
  rw [pWd_v hb hn, h, if_neg (by omega), show (b - b).toNat = 0 by omega]
  rfl
theorem wd_p {t : Nat → Int} {n b : Int} (hb : 0 ≤ b) (hn : b ≤ n) (h : pWd t n b ≠ 0) : b + 1 ≤ pLe t n b := by
  have lb := (pLe_b (t := t) (n := n) (n - b).toNat b (by omega)).1
  by_cases e : pLe t n b = b
  · exact absurd (pWd_0 hb hn e) h
  · omega
theorem tC_p {s : Nat} (h : 4 ≤ s) (h2 : s < 51) : 1 ≤ tC s := (tC_v (okW_i h h2)).2
theorem fcW_b {w : Int} (h : fcW w ≠ -1) : (0 ≤ fcW w ∧ fcW w ≤ 7) ∧ w ≠ 0 := by
  have a15 := tC_p (s := 15) (by decide) (by decide)
  have a16 := tC_p (s := 16) (by decide) (by decide)
  have a17 := tC_p (s := 17) (by decide) (by decide)
  have a4 := tC_p (s := 4) (by decide) (by decide)
  have a18 := tC_p (s := 18) (by decide) (by decide)
  have a6 := tC_p (s := 6) (by decide) (by decide)
  have a19 := tC_p (s := 19) (by decide) (by decide)
  have a8 := tC_p (s := 8) (by decide) (by decide)
  unfold fcW at h ⊢
  by_cases q1 : w = tC 15
  · rw [if_pos q1]; omega
  rw [if_neg q1] at h ⊢
  by_cases q2 : w = tC 16
  · rw [if_pos q2]; omega
  rw [if_neg q2] at h ⊢
  by_cases q3 : w = tC 17
  · rw [if_pos q3]; omega
  rw [if_neg q3] at h ⊢
  by_cases q4 : w = tC 4
  · rw [if_pos q4]; omega
  rw [if_neg q4] at h ⊢
  by_cases q5 : w = tC 18
  · rw [if_pos q5]; omega
  rw [if_neg q5] at h ⊢
  by_cases q6 : w = tC 6
  · rw [if_pos q6]; omega
  rw [if_neg q6] at h ⊢
  by_cases q7 : w = tC 19
  · rw [if_pos q7]; omega
  rw [if_neg q7] at h ⊢
  by_cases q8 : w = tC 8
  · rw [if_pos q8]; omega
  rw [if_neg q8] at h
  exact absurd rfl h
theorem not3 {t : Nat → Int} {n b : Int} (hb : 0 ≤ b) (hn : b ≤ n) (h : pWd t n b = tC 20) : pLe t n b = b + 3 := by
  have e42 : tC 42 = tC 20 := tC_same.2.2.2.2.2.2.1
  have w := (isW_i (t := t) (s := 42) (okW_i (by decide) (by decide)) hb hn).mpr (h.trans e42.symm)
  have te := tE_w (okW_i (s := 42) (by decide) (by decide)) hb hn (h.trans e42.symm)
  have w2 := w.2.1
  have s3 : strL 42 = 3 := by decide +kernel
  rw [te, s3] at w2
  omega
theorem pNb_p {t : Nat → Int} {n lo hi : Int} {q : Pz} (h0 : 0 ≤ q.1) (h1 : q.1 ≤ n) : (0 ≤ (pNb t n q lo hi).2.1 ∧ (pNb t n q lo hi).2.1 ≤ n) ∧ ((pNb t n q lo hi).2.2.1 = -1 → q.1 + 1 ≤ (pNb t n q lo hi).2.1) := by
  have sb := pSp_b (t := t) (n := n) (n - q.1).toNat q.1 (by omega)
  have db := pDs_b (t := t) (n - pSp t n q.1).toNat (pSp t n q.1) 0 (by decide) (by decide)
  unfold pNb
  split
  · rename_i z
    exact ⟨⟨h0, h1⟩, fun r => absurd r z⟩
  rename_i z
  have z : q.2.1 = -1 := Classical.byContradiction z
  split
  · rw [pFl_y (show (pAt q (pSp t n q.1)).2.1 = -1 from z)]
    exact ⟨⟨by show 0 ≤ pSp t n q.1; omega, sb.2⟩, fun r => by have r : pSp t n q.1 = -1 := r; omega⟩
  split
  · rw [pFl_y (show (pAt q (pDs t (n - pSp t n q.1).toNat (pSp t n q.1) 0).1).2.1 = -1 from z)]
    exact ⟨⟨by show 0 ≤ (pDs t _ _ 0).1; omega, by show (pDs t _ _ 0).1 ≤ n; omega⟩, fun r => by have r : pSp t n q.1 = -1 := r; omega⟩
  · rename_i d _
    have d : 48 ≤ pBy t n (pSp t n q.1) ∧ pBy t n (pSp t n q.1) ≤ 57 := Classical.byContradiction d
    have lt := pBy_n (t := t) (n := n) (a := pSp t n q.1) rfl (by omega)
    unfold pBy at d
    rw [if_pos lt] at d
    obtain ⟨K, eK⟩ : ∃ K, (n - pSp t n q.1).toNat = K + 1 := ⟨(n - pSp t n q.1).toNat - 1, by omega⟩
    have gt := pDs_gt (t := t) (K := K) (a := pSp t n q.1) (v := 0) d (by decide) (by decide)
    rw [← eK] at gt
    exact ⟨⟨by show 0 ≤ (pDs t _ _ 0).1; omega, by show (pDs t _ _ 0).1 ≤ n; omega⟩, fun _ => by show q.1 + 1 ≤ (pDs t _ _ 0).1; omega⟩
theorem pEx_p {t : Nat → Int} {n c : Int} {q : Pz} (h0 : 0 ≤ q.1) (h1 : q.1 ≤ n) (hc : c ≠ 0) : (0 ≤ (pEx t n q c).1 ∧ (pEx t n q c).1 ≤ n) ∧ ((pEx t n q c).2.1 = -1 → q.2.1 = -1 ∧ q.1 + 1 ≤ (pEx t n q c).1) := by
  have sb := pSp_b (t := t) (n := n) (n - q.1).toNat q.1 (by omega)
  unfold pEx
  split
  · rename_i z
    exact ⟨⟨h0, h1⟩, fun r => absurd r z⟩
  rename_i z
  have z : q.2.1 = -1 := Classical.byContradiction z
  split
  · rename_i e
    have lt := pBy_n e hc
    exact ⟨⟨by show 0 ≤ pSp t n q.1 + 1; omega, by show pSp t n q.1 + 1 ≤ n; omega⟩, fun _ => ⟨z, by show q.1 + 1 ≤ pSp t n q.1 + 1; omega⟩⟩
  · rw [pFl_y (show (pAt q (pSp t n q.1)).2.1 = -1 from z)]
    exact ⟨⟨by show 0 ≤ pSp t n q.1; omega, sb.2⟩, fun r => by have r : pSp t n q.1 = -1 := r; omega⟩
theorem jop_p {t : Nat → Int} {n b : Int} {g : Nat} (hg : g = 1 ∨ g = 2 ∨ g = 4 ∨ g = 5) (hb : 0 ≤ b) (hn : b ≤ n) (h : jop g (pBy t n b) (pWd t n b) ≠ 0) : b + 1 ≤ jq t n g b ∧ jq t n g b ≤ n := by
  have lb := pLe_b (t := t) (n := n) (n - b).toNat b (by omega)
  unfold jop at h
  unfold jq
  have sg : pBy t n b ≠ 0 → b < n := fun q => pBy_n rfl q
  rcases hg with e | e | e | e <;> subst e
  · rw [if_pos rfl] at h
    rw [if_pos (by decide)]
    have : b < n := sg (fun q => by rw [q] at h; exact h rfl)
    omega
  · rw [if_neg (by decide), if_pos rfl] at h
    rw [if_pos (by decide)]
    have : b < n := sg (fun q => by rw [q] at h; exact h rfl)
    omega
  · rw [if_neg (by decide), if_neg (by decide), if_pos rfl] at h
    rw [if_neg (by decide)]
    have a := tC_p (s := 21) (by decide) (by decide)
    have : pWd t n b = tC 21 := by
      apply Classical.byContradiction
      intro q
      rw [if_neg q] at h
      exact h rfl
    have := wd_p (t := t) hb hn (by omega)
    omega
  · rw [if_neg (by decide), if_neg (by decide), if_neg (by decide)] at h
    rw [if_neg (by decide)]
    have a := tC_p (s := 22) (by decide) (by decide)
    have : pWd t n b = tC 22 := by
      apply Classical.byContradiction
      intro q
      rw [if_neg q] at h
      exact h rfl
    have := wd_p (t := t) hb hn (by omega)
    omega
theorem cop_p {t : Nat → Int} {n b : Int} (h : cop (pBy t n b) ≠ 0) : b < n := by
  refine pBy_n (t := t) (n := n) (a := b) rfl (fun q => ?_)
  rw [q] at h
  exact h rfl
/-- where a part begins, opened or not -/
theorem opn_p {p : Pz} {k o n : Int} (hp : p.2.1 = -1) (h0 : 0 ≤ p.1) (h1 : p.1 + k ≤ n) (hk : 0 ≤ k) : (0 ≤ (opn p k o).1 ∧ (opn p k o).1 ≤ n) ∧ ((opn p k o).2.1 = -1 → (opn p k o).1 = p.1 + k ∧ o ≠ 6) := by
  by_cases q : o = 6
  · subst q
    rw [opn_6 hp, pFl_y hp]
    exact ⟨⟨h0, by show p.1 ≤ n; omega⟩, fun r => by have r : p.1 = -1 := r; omega⟩
  · rw [opn_o hp q]
    exact ⟨⟨by show 0 ≤ p.1 + k; omega, h1⟩, fun _ => ⟨rfl, q⟩⟩
/-- it goes on, and no more steps come of it than signs are read -/
theorem GP_m {t : Nat → Int} {n o : Int} {g : Nat} {x x' : Px} (h : GP t n g o x x') : 0 ≤ x.1.1 ∧ x.1.1 ≤ n → (0 ≤ x'.1.1 ∧ x'.1.1 ≤ n) ∧ (x'.1.2.1 = -1 → x.1.2.1 = -1 ∧ x.1.1 ≤ x'.1.1 ∧ (x'.2.length : Int) - x.2.length ≤ x'.1.1 - x.1.1) := by
  refine GP_rec (P := fun _ _ x x' => 0 ≤ x.1.1 ∧ x.1.1 ≤ n → (0 ≤ x'.1.1 ∧ x'.1.1 ≤ n) ∧ (x'.1.2.1 = -1 → x.1.2.1 = -1 ∧ x.1.1 ≤ x'.1.1 ∧ (x'.2.length : Int) - x.2.length ≤ x'.1.1 - x.1.1)) ?_ ?_ ?_ ?_ ?_ ?_ ?_ ?_ ?_ ?_ ?_ ?_ ?_ h
  · exact fun g o x h hx => ⟨hx, fun r => absurd r h⟩
  · intro o x y h c s ih hx
    have sb := pSp_b (t := t) (n := n) (n - x.1.1).toNat x.1.1 (by omega)
    have lt := pBy_n c (by decide)
    have ob := opn_p (p := pAt x.1 (pSp t n x.1.1)) (k := 1) (o := o) (n := n) h (by show 0 ≤ pSp t n x.1.1; omega) (by show pSp t n x.1.1 + 1 ≤ n; omega) (by decide)
    obtain ⟨i1, i2⟩ := ih ob.1
    have e := pEx_p (t := t) (c := 41) i1.1 i1.2 (by decide)
    refine ⟨e.1, fun r => ⟨h, ?_⟩⟩
    have e2 := e.2 r
    have j := i2 e2.1
    have o2 := (ob.2 j.1).1
    have o2 : (opn (pAt x.1 (pSp t n x.1.1)) 1 o).1 = pSp t n x.1.1 + 1 := o2
    have j2 : (opn (pAt x.1 (pSp t n x.1.1)) 1 o).1 ≤ y.1.1 := j.2.1
    have j3 : (y.2.length : Int) - x.2.length ≤ y.1.1 - (opn (pAt x.1 (pSp t n x.1.1)) 1 o).1 := j.2.2
    have e3 := e2.2
    exact ⟨by show x.1.1 ≤ (pEx t n y.1 41).1; omega, by show (y.2.length : Int) - _ ≤ (pEx t n y.1 41).1 - _; omega⟩
  · intro o x h c hx
    have sb := pSp_b (t := t) (n := n) (n - x.1.1).toNat x.1.1 (by omega)
    have e := pNb_p (t := t) (n := n) (lo := 0) (hi := 9999) (q := pAt x.1 (pSp t n x.1.1)) (by show 0 ≤ pSp t n x.1.1; omega) sb.2
    have l := emx_l (x := ((pNb t n (pAt x.1 (pSp t n x.1.1)) 0 9999).2, x.2)) (op := 0) (v := (pNb t n (pAt x.1 (pSp t n x.1.1)) 0 9999).1)
    rw [emx_1]
    refine ⟨e.1, fun r => ⟨h, ?_⟩⟩
    have e2 := e.2 r
    have e2 : pSp t n x.1.1 + 1 ≤ (pNb t n (pAt x.1 (pSp t n x.1.1)) 0 9999).2.1 := e2
    have l : _ ≤ (x.2.length : Int) + 1 := l
    exact ⟨by show x.1.1 ≤ (pNb t n (pAt x.1 (pSp t n x.1.1)) 0 9999).2.1; omega, by show _ ≤ (pNb t n (pAt x.1 (pSp t n x.1.1)) 0 9999).2.1 - x.1.1; omega⟩
  · intro o x h c c2 w hx
    have sb := pSp_b (t := t) (n := n) (n - x.1.1).toNat x.1.1 (by omega)
    rw [pFl_y (show (pAt x.1 (pSp t n x.1.1)).2.1 = -1 from h)]
    exact ⟨⟨by show 0 ≤ pSp t n x.1.1; omega, sb.2⟩, fun r => by have r : pSp t n x.1.1 = -1 := r; omega⟩
  · intro o x h c c2 w hx
    have sb := pSp_b (t := t) (n := n) (n - x.1.1).toNat x.1.1 (by omega)
    have lb := pLe_b (t := t) (n := n) (n - pSp t n x.1.1).toNat (pSp t n x.1.1) (by omega)
    have wp := wd_p (t := t) (b := pSp t n x.1.1) (by omega) sb.2 (fcW_b w).2
    have l := emx_l (x := (pAt x.1 (pLe t n (pSp t n x.1.1)), x.2)) (op := 1) (v := fcW (pWd t n (pSp t n x.1.1)))
    have l : _ ≤ (x.2.length : Int) + 1 := l
    rw [emx_1]
    exact ⟨⟨by show 0 ≤ pLe t n (pSp t n x.1.1); omega, lb.2⟩, fun r => ⟨h, by show x.1.1 ≤ pLe t n (pSp t n x.1.1); omega, by show _ ≤ pLe t n (pSp t n x.1.1) - x.1.1; omega⟩⟩
  · intro g o x y z h hg s1 s2 i1 i2 hx
    obtain ⟨a1, a2⟩ := i1 hx
    obtain ⟨b1, b2⟩ := i2 a1
    refine ⟨b1, fun r => ⟨h, ?_⟩⟩
    have b := b2 r
    have a := a2 b.1
    omega
  · intro g o x h hg c hx
    have sb := pSp_b (t := t) (n := n) (n - x.1.1).toNat x.1.1 (by omega)
    exact ⟨⟨by show 0 ≤ pSp t n x.1.1; omega, sb.2⟩, fun r => ⟨h, sb.1, by show (x.2.length : Int) - x.2.length ≤ pSp t n x.1.1 - x.1.1; omega⟩⟩
  · intro g o x y z h hg c s1 s2 i1 i2 hx
    have sb := pSp_b (t := t) (n := n) (n - x.1.1).toNat x.1.1 (by omega)
    have jb := jop_p (t := t) hg (by omega) sb.2 c
    obtain ⟨a1, a2⟩ := i1 ⟨by show 0 ≤ jq t n g (pSp t n x.1.1); omega, jb.2⟩
    rw [emx_1] at i2
    obtain ⟨b1, b2⟩ := i2 a1
    have l := emx_l (x := y) (op := jop g (pBy t n (pSp t n x.1.1)) (pWd t n (pSp t n x.1.1))) (v := 0)
    refine ⟨b1, fun r => ⟨h, ?_⟩⟩
    have b := b2 r
    have a := a2 b.1
    have a3 : jq t n g (pSp t n x.1.1) ≤ y.1.1 := a.2.1
    have a4 : (y.2.length : Int) - x.2.length ≤ y.1.1 - jq t n g (pSp t n x.1.1) := a.2.2
    omega
  · intro o x y h c s ih hx
    have sb := pSp_b (t := t) (n := n) (n - x.1.1).toNat x.1.1 (by omega)
    have lt := pBy_n c (by decide)
    have ob := opn_p (p := pAt x.1 (pSp t n x.1.1)) (k := 1) (o := o) (n := n) h (by show 0 ≤ pSp t n x.1.1; omega) (by show pSp t n x.1.1 + 1 ≤ n; omega) (by decide)
    obtain ⟨i1, i2⟩ := ih ob.1
    have e := pEx_p (t := t) (c := 93) i1.1 i1.2 (by decide)
    refine ⟨e.1, fun r => ⟨h, ?_⟩⟩
    have e2 := e.2 r
    have j := i2 e2.1
    have o2 := (ob.2 j.1).1
    have o2 : (opn (pAt x.1 (pSp t n x.1.1)) 1 o).1 = pSp t n x.1.1 + 1 := o2
    have j2 : (opn (pAt x.1 (pSp t n x.1.1)) 1 o).1 ≤ y.1.1 := j.2.1
    have j3 : (y.2.length : Int) - x.2.length ≤ y.1.1 - (opn (pAt x.1 (pSp t n x.1.1)) 1 o).1 := j.2.2
    have e3 := e2.2
    exact ⟨by show x.1.1 ≤ (pEx t n y.1 93).1; omega, by show (y.2.length : Int) - _ ≤ (pEx t n y.1 93).1 - _; omega⟩
  · intro o x y h c w s ih hx
    have sb := pSp_b (t := t) (n := n) (n - x.1.1).toNat x.1.1 (by omega)
    have n3 := not3 (t := t) (n := n) (b := pSp t n x.1.1) (by omega) sb.2 w
    have lb := pLe_b (t := t) (n := n) (n - pSp t n x.1.1).toNat (pSp t n x.1.1) (by omega)
    have ob := opn_p (p := pAt x.1 (pSp t n x.1.1)) (k := 3) (o := o) (n := n) h (by show 0 ≤ pSp t n x.1.1; omega) (by show pSp t n x.1.1 + 3 ≤ n; omega) (by decide)
    obtain ⟨i1, i2⟩ := ih ob.1
    have l := emx_l (x := y) (op := 9) (v := 0)
    rw [emx_1]
    refine ⟨i1, fun r => ⟨h, ?_⟩⟩
    have j := i2 r
    have o2 := (ob.2 j.1).1
    have o2 : (opn (pAt x.1 (pSp t n x.1.1)) 3 o).1 = pSp t n x.1.1 + 3 := o2
    have j2 : (opn (pAt x.1 (pSp t n x.1.1)) 3 o).1 ≤ y.1.1 := j.2.1
    have j3 : (y.2.length : Int) - x.2.length ≤ y.1.1 - (opn (pAt x.1 (pSp t n x.1.1)) 3 o).1 := j.2.2
    omega
  · intro o x y h c w s f ih hx
    have sb := pSp_b (t := t) (n := n) (n - x.1.1).toNat x.1.1 (by omega)
    exact ⟨(ih ⟨by show 0 ≤ pSp t n x.1.1; omega, sb.2⟩).1, fun r => absurd r f⟩
  · intro o x y h c w s f e ih hx
    have sb := pSp_b (t := t) (n := n) (n - x.1.1).toNat x.1.1 (by omega)
    have i1 := (ih ⟨by show 0 ≤ pSp t n x.1.1; omega, sb.2⟩).1
    have sy := pSp_b (t := t) (n := n) (n - y.1.1).toNat y.1.1 (by omega)
    rw [pFl_y (show (pAt y.1 (pSp t n y.1.1)).2.1 = -1 from f)]
    exact ⟨⟨by show 0 ≤ pSp t n y.1.1; omega, sy.2⟩, fun r => by have r : pSp t n y.1.1 = -1 := r; omega⟩
  · intro o x y z h c w s f e s2 ih i2 hx
    have sb := pSp_b (t := t) (n := n) (n - x.1.1).toNat x.1.1 (by omega)
    obtain ⟨a1, a2⟩ := ih ⟨by show 0 ≤ pSp t n x.1.1; omega, sb.2⟩
    have sy := pSp_b (t := t) (n := n) (n - y.1.1).toNat y.1.1 (by omega)
    have lt := cop_p e
    obtain ⟨b1, b2⟩ := i2 ⟨by show 0 ≤ pSp t n y.1.1 + 1; omega, by show pSp t n y.1.1 + 1 ≤ n; omega⟩
    have l := emx_l (x := z) (op := cop (pBy t n (pSp t n y.1.1))) (v := 0)
    rw [emx_1]
    refine ⟨b1, fun r => ⟨h, ?_⟩⟩
    have b := b2 r
    have a := a2 f
    have a3 : pSp t n x.1.1 ≤ y.1.1 := a.2.1
    have a4 : (y.2.length : Int) - x.2.length ≤ y.1.1 - pSp t n x.1.1 := a.2.2
    have b3 : pSp t n y.1.1 + 1 ≤ z.1.1 := b.2.1
    have b4 : (z.2.length : Int) - y.2.length ≤ z.1.1 - (pSp t n y.1.1 + 1) := b.2.2
    omega
