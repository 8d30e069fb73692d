/-! ===== what the document's words come to, over whole numbers; l: a land as the reference keeps it (708 numbers) ===== -/
def sEnd (l : Nat → Int) (h p n : Int) : Int := if l (7 + p).toNat = 2 then 1 else if n = 0 then 2 else if h = l 3 then 3 else 0
def sOth (l : Nat → Int) (w p : Int) : Int := if l (19 + w).toNat = p then l (43 + w).toNat else l (19 + w).toNat
def sAt (l : Nat → Int) (w p : Int) : Int := if l (19 + w).toNat = p ∨ l (43 + w).toNat = p then 1 else 0
def sSn (l : Nat → Int) (w h : Int) : Int := l (132 + 24 * w + h).toNat
def sAf (l : Nat → Int) (st to n : Int) : Int := if l (7 + to).toNat = 1 then st else n - 1
/-- whether it snows in an hour -/
def sSyP (l : Nat → Int) (h : Int) : Prop := ∃ w : Int, 0 ≤ w ∧ w < l 1 ∧ 0 < sSn l w h
noncomputable def sSy (l : Nat → Int) (h : Int) : Int := @ite _ (sSyP l h) (Classical.propDecidable _) 1 0
/-- the scale, by how many hours are left -/
noncomputable def sSc (l : Nat → Int) : Nat → Int
  | 0 => 1
  | t + 1 => sSc l t * (if sSy l (l 3 - ((t : Int) + 1)) = 1 then 16 else 1)
noncomputable def sScH (l : Nat → Int) (h : Int) : Int := sSc l (l 3 - h).toNat
noncomputable def sEv (l : Nat → Int) (k h p e : Int) : Int := ((if e = 2 then -(l 5) else l (72 + 12 * k + p).toNat) - h * l (67 + k).toNat) * sScH l h
/-- what a move brings, of a table for the hour behind -/
noncomputable def sBr (l : Nat → Int) (st h p n m : Int) (f : Int → Int → Int) : Int :=
  if m = 0 then (if sSy l h = 1 then 16 * f p (sAf l st p n) else f p (sAf l st p n))
  else if sSy l h = 1 then sSn l (m - 1) h * f p (sAf l st p n) + (16 - sSn l (m - 1) h) * f (sOth l (m - 1) p) (sAf l st (sOth l (m - 1) p) n)
  else f (sOth l (m - 1) p) (sAf l st (sOth l (m - 1) p) n)
/-- a row of states from b on, read an hour behind h -/
def sF (g : Nat → Int) (b h : Int) : Int → Int → Int := fun q s => g (b + (((h + 1) * 12 + q) * 13 + s)).toNat
/-- of the moves below m the first of the greatest; -1: none -/
noncomputable def bst (v : Int → Int) (bits : Int) : Nat → Int
  | 0 => -1
  | m + 1 => @ite _ (bit bits m) (Classical.propDecidable _) (if bst v bits m = -1 ∨ v (bst v bits m) < v m then (m : Int) else bst v bits m) (bst v bits m)
/-- a dream: table of what comes to k, if ld leads each hour, by the best or the worst for k -/
noncomputable def sDr (l : Nat → Int) (st : Int) (mk : Int → Int → Int → Int → Int) (ld : Int → Int) (k : Int) : Nat → Int → Int → Int
  | 0 => fun p n => sEv l k (l 3) p (sEnd l (l 3) p n)
  | t + 1 => fun p n => if sEnd l (l 3 - ((t : Int) + 1)) p n ≠ 0 then sEv l k (l 3 - ((t : Int) + 1)) p (sEnd l (l 3 - ((t : Int) + 1)) p n)
    else sBr l st (l 3 - ((t : Int) + 1)) p n (bst (fun m => (if ld (l 3 - ((t : Int) + 1)) = k then 1 else -1) * sBr l st (l 3 - ((t : Int) + 1)) p n m (sDr l st mk ld k t)) (mk (ld (l 3 - ((t : Int) + 1))) (l 3 - ((t : Int) + 1)) p n) (l 1 + 1).toNat) (sDr l st mk ld k t)
/-- the sum over persons that count -/
noncomputable def sSum (c : Int → Prop) (g : Int → Int) : Nat → Int
  | 0 => 0
  | k + 1 => sSum c g k + @ite _ (c k) (Classical.propDecidable _) (g k) 0
/-- how many of the first persons vote for m -/
def sVt (b : Int → Int) (m : Int) : Nat → Int
  | 0 => 0
  | k + 1 => sVt b m k + if b k = m then 1 else 0
/-- who leads, kinds, plan, masks, pact and vote -/
abbrev Cf : Type := (Int → Int) × (Int → Int) × (Int → Int) × (Int → Int → Int → Int → Int) × Int × Int × Int
noncomputable def sPick (l : Nat → Int) (c : Cf) (st h p n bits : Int) (W A B : Int → Int → Int → Int) : Int :=
  if c.2.2.2.2.2.2 = 1 then bst (fun m => sVt (fun k => bst (fun m => sBr l st h p n m (W k)) bits (l 1 + 1).toNat) m (l 2).toNat) 33554431 (l 1 + 1).toNat
  else if c.1 h = c.2.2.2.2.1 ∨ c.1 h = c.2.2.2.2.2.1 then bst (fun m => sSum (fun k => k = c.2.2.2.2.1 ∨ k = c.2.2.2.2.2.1) (fun k => sBr l st h p n m (W k)) (l 2).toNat) bits (l 1 + 1).toNat
  else if c.2.1 (c.1 h) = 0 then bst (fun m => sBr l st h p n m (W (c.1 h))) bits (l 1 + 1).toNat
  else if c.2.1 (c.1 h) = 1 then bst (fun m => sBr l st h p n m (A (c.1 h))) bits (l 1 + 1).toNat
  else if c.2.1 (c.1 h) = 2 then bst (fun m => sSum (fun _ => True) (fun k => sBr l st h p n m (W k)) (l 2).toNat) bits (l 1 + 1).toNat
  else if c.2.1 (c.1 h) = 3 then bst (fun _ => 0) bits (l 1 + 1).toNat
  else if c.2.1 (c.1 h) = 4 then bst (fun m => sBr l st h p n m (B (c.1 h))) bits (l 1 + 1).toNat
  else @ite _ (bit bits (c.2.2.1 h)) (Classical.propDecidable _) (c.2.2.1 h) (bst (fun _ => 0) bits (l 1 + 1).toNat)
/-- the move taken t + 1 hours before the end, of the table for t -/
noncomputable def sMv (l : Nat → Int) (c : Cf) (st : Int) (t : Nat) (W : Int → Int → Int → Int) (p n : Int) : Int :=
  sPick l c st (l 3 - ((t : Int) + 1)) p n (c.2.2.2.1 (c.1 (l 3 - ((t : Int) + 1))) (l 3 - ((t : Int) + 1)) p n) W (fun k => sDr l st c.2.2.2.1 (fun _ => k) k t) (fun k => sDr l st c.2.2.2.1 c.1 k t)
noncomputable def sW (l : Nat → Int) (c : Cf) (st : Int) : Nat → Int → Int → Int → Int
  | 0 => fun k p n => sEv l k (l 3) p (sEnd l (l 3) p n)
  | t + 1 => fun k p n => if sEnd l (l 3 - ((t : Int) + 1)) p n ≠ 0 then sEv l k (l 3 - ((t : Int) + 1)) p (sEnd l (l 3 - ((t : Int) + 1)) p n)
    else sBr l st (l 3 - ((t : Int) + 1)) p n (sMv l c st t (sW l c st t) p n) (sW l c st t k)
/-- the chance to end so (1 there, 2 lost) -/
noncomputable def sCh (l : Nat → Int) (c : Cf) (st e : Int) : Nat → Int → Int → Int
  | 0 => fun p n => if sEnd l (l 3) p n = e then 1 else 0
  | t + 1 => fun p n => if sEnd l (l 3 - ((t : Int) + 1)) p n ≠ 0 then (if sEnd l (l 3 - ((t : Int) + 1)) p n = e then sSc l (t + 1) else 0)
    else sBr l st (l 3 - ((t : Int) + 1)) p n (sMv l c st t (sW l c st t) p n) (sCh l c st e t)
/-- a land that can be told -/
def LV (l : Nat → Int) : Prop := (1 ≤ l 0 ∧ l 0 ≤ 12) ∧ (0 ≤ l 1 ∧ l 1 ≤ 24) ∧ (1 ≤ l 2 ∧ l 2 ≤ 5) ∧ (1 ≤ l 3 ∧ l 3 ≤ 24) ∧ (1 ≤ l 4 ∧ l 4 ≤ 12) ∧ (0 ≤ l 5 ∧ l 5 ≤ 99) ∧ (0 ≤ l 6 ∧ l 6 < l 0) ∧
  (∀ w : Int, 0 ≤ w → w < l 1 → 0 ≤ l (19 + w).toNat ∧ l (19 + w).toNat < l 0 ∧ 0 ≤ l (43 + w).toNat ∧ l (43 + w).toNat < l 0 ∧ l (19 + w).toNat ≠ l (43 + w).toNat) ∧
  (∀ w h : Int, 0 ≤ w → w < 24 → 0 ≤ h → h < 24 → 0 ≤ sSn l w h ∧ sSn l w h ≤ 16) ∧
  (∀ k p : Int, 0 ≤ k → k < 5 → 0 ≤ p → p < 12 → 0 ≤ l (72 + 12 * k + p).toNat ∧ l (72 + 12 * k + p).toNat ≤ 99) ∧
  (∀ k : Int, 0 ≤ k → k < 5 → 0 ≤ l (67 + k).toNat ∧ l (67 + k).toNat ≤ 9) ∧ sSc l (l 3).toNat ≤ 1099511627776
