/-! ===== the small machine: an abstract memory, its instructions, what must hold for a run to end well =====
Memory: kinds (tag, class or length), references that stay, references that change, ints, longs, how many cells. Cell 0 is null.
Tags: 0 an object, 1 int[], 2 long[], 3 boolean[], 4 an array of references, 6 the script, 7 a text constant. -/
/-- a value: an int, a long (both as whole numbers), a reference (the number of a cell), or nothing -/
abbrev Vl : Type := Int ⊕ (Int ⊕ (Nat ⊕ Unit))
/-- 32 and 64 bits, wrapped -/
def wr (x : Int) : Int := (x + 2147483648) % 4294967296 - 2147483648
def wl (x : Int) : Int := (x + 9223372036854775808) % 18446744073709551616 - 9223372036854775808
def an (a b : Int) : Int := (Int32.ofInt a &&& Int32.ofInt b).toInt
def orr (a b : Int) : Int := (Int32.ofInt a ||| Int32.ofInt b).toInt
def shl (a b : Int) : Int := (Int32.ofInt a <<< (Int32.ofInt b &&& 31)).toInt
def sar (a b : Int) : Int := (Int32.ofInt a >>> (Int32.ofInt b &&& 31)).toInt
def ushr (a b : Int) : Int := (((Int32.ofInt a).toUInt32 >>> ((Int32.ofInt b).toUInt32 &&& Int32.toUInt32 31)).toInt32).toInt
def sarl (a b : Int) : Int := (Int64.ofInt a >>> ((Int32.ofInt b).toInt64 &&& 63)).toInt
def lc (a b : Int) : Int := if b < a then 1 else if a = b then 0 else -1
/-- an index that fits -/
def ib (i : Int) (n : Nat) : Bool := decide (0 ≤ i) && decide (i < (n : Int))
def nz (b : Int) : Bool := !decide (b = 0)
def nn (b : Int) : Bool := decide (0 ≤ b)
def zb (b : Int) : Bool := decide (b = 0) || decide (b = 1)
/-- what arraycopy wants: from sp of a row of a cells to tp of one of b, n of them -/
def acp (sp tp n : Int) (a b : Nat) : Bool := nn sp && nn tp && nn n && decide (sp + n ≤ (a : Int)) && decide (tp + n ≤ (b : Int))
abbrev Mm : Type := (Nat → Nat × Nat) × (Nat → Nat → Nat) × (Nat → Nat → Nat) × (Nat → Nat → Int) × (Nat → Nat → Int) × Nat
/-- an instruction: as decoded, its length, what is resolved of it, its constant -/
abbrev Op : Type := Instr × Nat × List Nat × Int
/-- how a call ends: with a value or none, or by throwing the exception of a number -/
abbrev Rs : Type := Option Vl ⊕ Nat
def u2 {α : Type} (f : Nat → Nat → α) (k i : Nat) (v : α) : Nat → Nat → α := fun a b => if a = k ∧ b = i then v else f a b
def jk : Vl := .inr (.inr (.inr ()))
def wI (M : Mm) (k i : Nat) (v : Int) : Mm := (M.1, M.2.1, M.2.2.1, u2 M.2.2.2.1 k i v, M.2.2.2.2)
def wJ (M : Mm) (k i : Nat) (v : Int) : Mm := (M.1, M.2.1, M.2.2.1, M.2.2.2.1, u2 M.2.2.2.2.1 k i v, M.2.2.2.2.2)
def wR (M : Mm) (k i : Nat) (v : Nat) : Mm := (M.1, u2 M.2.1 k i v, M.2.2)
def wS (M : Mm) (k i : Nat) (v : Nat) : Mm := (M.1, M.2.1, u2 M.2.2.1 k i v, M.2.2.2)
def gI (M : Mm) (k i : Nat) : Int := M.2.2.2.1 k i
def gJ (M : Mm) (k i : Nat) : Int := M.2.2.2.2.1 k i
def gN (M : Mm) : Nat := M.2.2.2.2.2
/-- a new cell of a kind, all zero -/
def nw (M : Mm) (q : Nat × Nat) : Mm := (fun a => if a = gN M + 1 then q else M.1 a, fun a b => if a = gN M + 1 then 0 else M.2.1 a b, fun a b => if a = gN M + 1 then 0 else M.2.2.1 a b, fun a b => if a = gN M + 1 then 0 else gI M a b, fun a b => if a = gN M + 1 then 0 else gJ M a b, gN M + 1)
/-- what arraycopy leaves in the target -/
def c2 {α : Type} (f : Nat → Nat → α) (s sp t tp n : Nat) : Nat → Nat → α := fun a b => if a = t then va_cpy (f s) (f t) sp tp n b else f a b
def cpI (M : Mm) (s sp t tp n : Nat) : Mm := (M.1, M.2.1, M.2.2.1, c2 M.2.2.2.1 s sp t tp n, M.2.2.2.2)
def cpJ (M : Mm) (s sp t tp n : Nat) : Mm := (M.1, M.2.1, M.2.2.1, M.2.2.2.1, c2 M.2.2.2.2.1 s sp t tp n, M.2.2.2.2.2)
/-- a check that goes away where it can be worked out -/
def chk (b : Bool) (P : Prop) : Prop := match b with
  | true => P
  | false => False
def cnd (b : Bool) (A B : Prop) : Prop := match b with
  | true => A
  | false => B
def kq (q : Nat × Nat) (t c : Nat) : Bool := Nat.beq q.1 t && Nat.beq q.2 c
def lq (a b c d : Nat) : Bool := Nat.ble a b && Nat.ble c d
def sto (v : Vl) : Nat → List Vl → List Vl
  | 0, [] => [v]
  | 0, _ :: r => v :: r
  | 1, x :: r => (match x with | .inr (.inl _) => jk | y => y) :: sto v 0 r
  | n + 1, [] => jk :: sto v n []
  | n + 1, x :: r => x :: sto v n r
def pu (v : Vl) : Nat → List Vl → List Vl
  | 0, [] => [v]
  | 0, _ :: r => v :: r
  | n + 1, [] => jk :: pu v n []
  | n + 1, x :: r => x :: pu v n r
def ctg (v : Vl) : Nat := match v with
  | .inr (.inl _) => 2
  | _ => 1
def catOK (st : List Vl) : Bool := Nat.ble ((st.map ctg).sum) 8
def catL (st : List Vl) : Bool := Nat.ble ((st.map ctg).sum) 12
def p1I (st : List Vl) (k : Int → List Vl → Prop) : Prop := match st with
  | .inl a :: r => k a r
  | _ => False
def p2I (st : List Vl) (k : Int → Int → List Vl → Prop) : Prop := match st with
  | .inl b :: .inl a :: r => k a b r
  | _ => False
def p2L (st : List Vl) (k : Int → Int → List Vl → Prop) : Prop := match st with
  | .inr (.inl b) :: .inr (.inl a) :: r => k a b r
  | _ => False
def p1R (st : List Vl) (k : Nat → List Vl → Prop) : Prop := match st with
  | .inr (.inr (.inl a)) :: r => k a r
  | _ => False
def pIR (st : List Vl) (k : Nat → Int → List Vl → Prop) : Prop := match st with
  | .inl i :: .inr (.inr (.inl a)) :: r => k a i r
  | _ => False
def lI (ls : List Vl) (i : Nat) (k : Int → Prop) : Prop := match ls.getD i jk with
  | .inl a => k a
  | _ => False
def lL (ls : List Vl) (i : Nat) (k : Int → Prop) : Prop := match ls.getD i jk with
  | .inr (.inl a) => k a
  | _ => False
def lR (ls : List Vl) (i : Nat) (k : Nat → Prop) : Prop := match ls.getD i jk with
  | .inr (.inr (.inl a)) => k a
  | _ => False
/-- a switch: the first of the keys from lo on -/
def swT (x : Int) (k : Nat → Prop) (dflt : Nat) : Int → List Nat → Prop
  | _, [] => k dflt
  | lo, t :: ts => cnd (decide (x = lo)) (k t) (swT x k dflt (lo + 1) ts)
def swL (x : Int) (k : Nat → Prop) (dflt : Nat) : List (Int × Int) → List Nat → Prop
  | (a, _) :: ps, t :: ts => cnd (decide (x = a)) (k t) (swL x k dflt ps ts)
  | _, _ => k dflt
def exFld (aux : List Nat) (o : Nat) (M : Mm) (k : Vl → Prop) : Prop := match aux with
  | ci :: i :: 0 :: _ => chk (kq (M.1 o) 0 ci) (k (.inl (gI M o i)))
  | ci :: i :: 1 :: _ => chk (kq (M.1 o) 0 ci) (k (.inr (.inl (gJ M o i))))
  | ci :: i :: 2 :: _ => chk (kq (M.1 o) 0 ci) (k (.inr (.inr (.inl (M.2.1 o i)))))
  | ci :: i :: 3 :: _ => chk (kq (M.1 o) 0 ci) (k (.inl (gI M o i)))
  | ci :: i :: 4 :: _ => chk (kq (M.1 o) 0 ci) (k (.inr (.inr (.inl (M.2.2.1 o i)))))
  | _ => False
def exPut (aux : List Nat) (st : List Vl) (M : Mm) (k : List Vl → Mm → Prop) : Prop := match aux with
  | ci :: i :: 0 :: _ => match st with
    | .inl v :: .inr (.inr (.inl o)) :: r => chk (kq (M.1 o) 0 ci) (k r (wI M o i v))
    | _ => False
  | ci :: i :: 1 :: _ => match st with
    | .inr (.inl v) :: .inr (.inr (.inl o)) :: r => chk (kq (M.1 o) 0 ci) (k r (wJ M o i v))
    | _ => False
  | ci :: i :: 2 :: _ => match st with
    | .inr (.inr (.inl v)) :: .inr (.inr (.inl o)) :: r => chk (kq (M.1 o) 0 ci && Nat.ble v (gN M)) (k r (wR M o i v))
    | _ => False
  | ci :: i :: 3 :: _ => match st with
    | .inl v :: .inr (.inr (.inl o)) :: r => chk (kq (M.1 o) 0 ci) (chk (zb v) (k r (wI M o i v)))
    | _ => False
  | ci :: i :: 4 :: _ => match st with
    | .inr (.inr (.inl v)) :: .inr (.inr (.inl o)) :: r => chk (kq (M.1 o) 0 ci && Nat.ble v (gN M)) (k r (wS M o i v))
    | _ => False
  | _ => False
/-- a call: kind, which method, how many arguments (the receiver too), its class -/
def exV (y n ci : Nat) (st : List Vl) (M : Mm) (kc : Nat → List Vl → List Vl → Prop) : Prop := match (st.take n).reverse with
  | .inr (.inr (.inl o)) :: as => chk (catOK (st.drop n) && Nat.ble n st.length) (chk (kq (M.1 o) 0 ci) (kc y (.inr (.inr (.inl o)) :: as) (st.drop n)))
  | _ => False
def exW (y n ci : Nat) (st : List Vl) (M : Mm) (kc : Nat → List Vl → List Vl → Prop) : Prop := match (st.take n).reverse with
  | .inr (.inr (.inl o)) :: as => chk (catL (st.drop n) && Nat.ble n st.length) (chk (kq (M.1 o) 0 ci) (kc y (.inr (.inr (.inl o)) :: as) (st.drop n)))
  | _ => False
def exCall (aux : List Nat) (st : List Vl) (M : Mm) (cs : Nat × Nat) (kn : List Vl → Mm → Nat × Nat → Prop) (kc : Nat → List Vl → List Vl → Prop) : Prop := match aux with
  | 0 :: y :: n :: ci :: _ => exW y n ci st M kc
  | 2 :: y :: n :: ci :: _ => exV y n ci st M kc
  | 3 :: y :: n :: ci :: _ => exV y n ci st M kc
  | 1 :: y :: n :: _ => chk (catOK (st.drop n) && Nat.ble n st.length) (kc y (st.take n).reverse (st.drop n))
  | 4 :: _ => p1R st (fun o r => chk (catOK r) (chk (Nat.beq (M.1 o).1 0) (kn r M cs)))
  | 5 :: _ => p1R st (fun a r => chk (catOK r) (chk (Nat.beq (M.1 a).1 7) (kn (.inl ((M.1 a).2 : Nat) :: r) M cs)))
  | 6 :: _ => pIR st (fun a i r => chk (catOK r) (chk (Nat.beq (M.1 a).1 7) (chk (ib i (M.1 a).2) (kn (.inl (gI M a i.toNat) :: r) M cs))))
  | 8 :: _ => p2I st (fun a b r => chk (catOK r) (kn (.inl (if a < b then b else a) :: r) M cs))
  | 9 :: _ => p2I st (fun a b r => chk (catOK r) (kn (.inl (if b < a then b else a) :: r) M cs))
  | 7 :: tag :: _ => match st with
    | .inl n :: .inl tp :: .inr (.inr (.inl t)) :: .inl sp :: .inr (.inr (.inl s)) :: r => chk (catOK r) (chk (Nat.beq (M.1 s).1 tag && Nat.beq (M.1 t).1 tag) (chk (acp sp tp n (M.1 s).2 (M.1 t).2) (kn r (match tag with | 1 => cpI M s sp.toNat t tp.toNat n.toNat | _ => cpJ M s sp.toNat t tp.toNat n.toNat) cs)))
    | _ => False
  | _ => False
def ex (bd : Nat × Nat) (op : Op) (ls st : List Vl) (M : Mm) (cs : Nat × Nat) (kn : List Vl → List Vl → Mm → Nat × Nat → Prop) (kj : Nat → List Vl → Prop) (kc : Nat → List Vl → List Vl → Prop) (kr : Option Vl → Prop) (kt : Nat → Prop) : Prop := match op.1 with
  | .nop => kj (op.2.2.1.headD 0) st
  | .iconst _ => kn ls (.inl op.2.2.2 :: st) M cs
  | .bipush _ => kn ls (.inl op.2.2.2 :: st) M cs
  | .sipush _ => kn ls (.inl op.2.2.2 :: st) M cs
  | .ldc _ => match op.2.2.1 with
    | 2 :: s :: _ => chk (Nat.ble 73 s) (kn ls (.inr (.inr (.inl s)) :: st) M cs)
    | _ => kn ls (.inl op.2.2.2 :: st) M cs
  | .ldc_w _ => match op.2.2.1 with
    | 2 :: s :: _ => chk (Nat.ble 73 s) (kn ls (.inr (.inr (.inl s)) :: st) M cs)
    | _ => kn ls (.inl op.2.2.2 :: st) M cs
  | .ldc2_w _ => kn ls (.inr (.inl 16) :: st) M cs
  | .lconst n => match n with
    | 0 => kn ls (.inr (.inl 0) :: st) M cs
    | 1 => kn ls (.inr (.inl 1) :: st) M cs
  | .aconst_null => kn ls (.inr (.inr (.inl 0)) :: st) M cs
  | .iload i => lI ls i (fun a => kn ls (.inl a :: st) M cs)
  | .iload_n i => lI ls i.val (fun a => kn ls (.inl a :: st) M cs)
  | .lload i => lL ls i (fun a => kn ls (.inr (.inl a) :: st) M cs)
  | .lload_n i => lL ls i.val (fun a => kn ls (.inr (.inl a) :: st) M cs)
  | .aload i => lR ls i (fun a => kn ls (.inr (.inr (.inl a)) :: st) M cs)
  | .aload_n i => lR ls i.val (fun a => kn ls (.inr (.inr (.inl a)) :: st) M cs)
  | .istore i => p1I st (fun a r => kn (sto (.inl a) i ls) r M cs)
  | .istore_n i => p1I st (fun a r => kn (sto (.inl a) i.val ls) r M cs)
  | .lstore i => match st with
    | .inr (.inl a) :: r => kn (pu jk (i + 1) (sto (.inr (.inl a)) i ls)) r M cs
    | _ => False
  | .lstore_n i => match st with
    | .inr (.inl a) :: r => kn (pu jk (i.val + 1) (sto (.inr (.inl a)) i.val ls)) r M cs
    | _ => False
  | .astore i => p1R st (fun a r => kn (sto (.inr (.inr (.inl a))) i ls) r M cs)
  | .astore_n i => p1R st (fun a r => kn (sto (.inr (.inr (.inl a))) i.val ls) r M cs)
  | .iinc i _ => lI ls i (fun a => kn (sto (.inl (wr (a + op.2.2.2))) i ls) st M cs)
  | .iadd => p2I st (fun a b r => kn ls (.inl (wr (a + b)) :: r) M cs)
  | .isub => p2I st (fun a b r => kn ls (.inl (wr (a - b)) :: r) M cs)
  | .imul => p2I st (fun a b r => kn ls (.inl (wr (a * b)) :: r) M cs)
  | .idiv => p2I st (fun a b r => chk (nz b) (kn ls (.inl (wr (Int.tdiv a b)) :: r) M cs))
  | .irem => p2I st (fun a b r => chk (nz b) (kn ls (.inl (Int.tmod a b) :: r) M cs))
  | .iand => p2I st (fun a b r => kn ls (.inl (an a b) :: r) M cs)
  | .ior => p2I st (fun a b r => kn ls (.inl (orr a b) :: r) M cs)
  | .ishl => p2I st (fun a b r => kn ls (.inl (shl a b) :: r) M cs)
  | .ishr => p2I st (fun a b r => kn ls (.inl (sar a b) :: r) M cs)
  | .iushr => p2I st (fun a b r => kn ls (.inl (ushr a b) :: r) M cs)
  | .ineg => p1I st (fun a r => kn ls (.inl (wr (-a)) :: r) M cs)
  | .ladd => p2L st (fun a b r => kn ls (.inr (.inl (wl (a + b))) :: r) M cs)
  | .lsub => p2L st (fun a b r => kn ls (.inr (.inl (wl (a - b))) :: r) M cs)
  | .lmul => p2L st (fun a b r => kn ls (.inr (.inl (wl (a * b))) :: r) M cs)
  | .lcmp => p2L st (fun a b r => kn ls (.inl (lc a b) :: r) M cs)
  | .lshr => match st with
    | .inl b :: .inr (.inl a) :: r => kn ls (.inr (.inl (sarl a b)) :: r) M cs
    | _ => False
  | .i2l => p1I st (fun a r => kn ls (.inr (.inl a) :: r) M cs)
  | .dup => match st with
    | .inl a :: r => kn ls (.inl a :: .inl a :: r) M cs
    | .inr (.inr (.inl a)) :: r => kn ls (.inr (.inr (.inl a)) :: .inr (.inr (.inl a)) :: r) M cs
    | _ => False
  | .dup2 => match st with
    | .inl i :: .inr (.inr (.inl a)) :: r => kn ls (.inl i :: .inr (.inr (.inl a)) :: .inl i :: .inr (.inr (.inl a)) :: r) M cs
    | _ => False
  | .pop => match st with
    | .inl _ :: r => kn ls r M cs
    | .inr (.inr (.inl _)) :: r => kn ls r M cs
    | _ => False
  | .goto _ => kj (op.2.2.1.headD 0) st
  | .if_icmp c _ => p2I st (fun a b r => match c with
    | .eq => cnd (decide (a = b)) (kj (op.2.2.1.headD 0) r) (kn ls r M cs)
    | .ne => cnd (decide (a = b)) (kn ls r M cs) (kj (op.2.2.1.headD 0) r)
    | .lt => cnd (decide (a < b)) (kj (op.2.2.1.headD 0) r) (kn ls r M cs)
    | .ge => cnd (decide (a < b)) (kn ls r M cs) (kj (op.2.2.1.headD 0) r)
    | .gt => cnd (decide (b < a)) (kj (op.2.2.1.headD 0) r) (kn ls r M cs)
    | .le => cnd (decide (b < a)) (kn ls r M cs) (kj (op.2.2.1.headD 0) r))
  | .ifCond c _ => p1I st (fun a r => match c with
    | .eq => cnd (decide (a = 0)) (kj (op.2.2.1.headD 0) r) (kn ls r M cs)
    | .ne => cnd (decide (a = 0)) (kn ls r M cs) (kj (op.2.2.1.headD 0) r)
    | .lt => cnd (decide (a < 0)) (kj (op.2.2.1.headD 0) r) (kn ls r M cs)
    | .ge => cnd (decide (a < 0)) (kn ls r M cs) (kj (op.2.2.1.headD 0) r)
    | .gt => cnd (decide (0 < a)) (kj (op.2.2.1.headD 0) r) (kn ls r M cs)
    | .le => cnd (decide (0 < a)) (kn ls r M cs) (kj (op.2.2.1.headD 0) r))
  | .tableswitch _ lo _ _ => p1I st (fun a r => swT a (fun t => kj t r) (op.2.2.1.headD 0) lo op.2.2.1.tail)
  | .lookupswitch _ ps => p1I st (fun a r => swL a (fun t => kj t r) (op.2.2.1.headD 0) ps.toList op.2.2.1.tail)
  | .getfield _ => p1R st (fun o r => exFld op.2.2.1 o M (fun v => kn ls (v :: r) M cs))
  | .putfield _ => exPut op.2.2.1 st M (fun r M' => kn ls r M' cs)
  | .iaload => match op.2.2.1 with
    | 6 :: _ => pIR st (fun a i r => chk (Nat.beq (M.1 a).1 6) (chk (ib i (M.2.2.1 a 0)) (kn ls (.inl (gI M a i.toNat) :: r) M cs)))
    | _ => pIR st (fun a i r => chk (Nat.beq (M.1 a).1 1) (chk (ib i (M.1 a).2) (kn ls (.inl (gI M a i.toNat) :: r) M cs)))
  | .baload => pIR st (fun a i r => chk (Nat.beq (M.1 a).1 3) (chk (ib i (M.1 a).2) (kn ls (.inl (gI M a i.toNat) :: r) M cs)))
  | .laload => pIR st (fun a i r => chk (Nat.beq (M.1 a).1 2) (chk (ib i (M.1 a).2) (kn ls (.inr (.inl (gJ M a i.toNat)) :: r) M cs)))
  | .aaload => pIR st (fun a i r => chk (Nat.beq (M.1 a).1 4) (chk (ib i (M.1 a).2) (kn ls (.inr (.inr (.inl (M.2.1 a i.toNat))) :: r) M cs)))
  | .iastore => match st with
    | .inl x :: .inl i :: .inr (.inr (.inl a)) :: r => chk (Nat.beq (M.1 a).1 1) (chk (ib i (M.1 a).2) (kn ls r (wI M a i.toNat x) cs))
    | _ => False
  | .bastore => match st with
    | .inl x :: .inl i :: .inr (.inr (.inl a)) :: r => chk (Nat.beq (M.1 a).1 3) (chk (ib i (M.1 a).2) (chk (zb x) (kn ls r (wI M a i.toNat x) cs)))
    | _ => False
  | .lastore => match st with
    | .inr (.inl x) :: .inl i :: .inr (.inr (.inl a)) :: r => chk (Nat.beq (M.1 a).1 2) (chk (ib i (M.1 a).2) (kn ls r (wJ M a i.toNat x) cs))
    | _ => False
  | .aastore => match st with
    | .inr (.inr (.inl x)) :: .inl i :: .inr (.inr (.inl a)) :: r => chk (Nat.beq (M.1 a).1 4) (chk (kq (M.1 x) 0 (op.2.2.1.headD 0)) (chk (ib i (M.1 a).2) (kn ls r (wR M a i.toNat x) cs)))
    | _ => False
  | .arraylength => match op.2.2.1 with
    | 6 :: _ => p1R st (fun a r => chk (Nat.beq (M.1 a).1 6) (kn ls (.inl (M.2.2.1 a 0 : Nat) :: r) M cs))
    | tag :: _ => p1R st (fun a r => chk (Nat.beq (M.1 a).1 tag) (kn ls (.inl ((M.1 a).2 : Nat) :: r) M cs))
    | _ => False
  | .newarray _ => p1I st (fun n r => chk (nn n) (chk (lq (cs.1 + 1) bd.1 (cs.2 + n.toNat) bd.2 && Nat.ble (gN M) 99999 && Nat.ble n.toNat 100000) (kn ls (.inr (.inr (.inl (gN M + 1))) :: r) (nw M (op.2.2.1.headD 0, n.toNat)) (cs.1 + 1, cs.2 + n.toNat))))
  | .anewarray _ => p1I st (fun n r => chk (nn n) (chk (lq (cs.1 + 1) bd.1 (cs.2 + n.toNat) bd.2 && Nat.ble (gN M) 99999 && Nat.ble n.toNat 100000) (kn ls (.inr (.inr (.inl (gN M + 1))) :: r) (nw M (4, n.toNat)) (cs.1 + 1, cs.2 + n.toNat))))
  | .new _ => match op.2.2.1 with
    | 9 :: e :: _ => chk (lq (cs.1 + 1) bd.1 (cs.2 + 6) bd.2) (chk (Nat.beq st.length 0) (kt e))
    | _ :: ci :: n :: _ => chk (lq (cs.1 + 1) bd.1 (cs.2 + n) bd.2 && Nat.ble (gN M) 99999) (kn ls (.inr (.inr (.inl (gN M + 1))) :: st) (nw M (0, ci)) (cs.1 + 1, cs.2 + n))
    | _ => False
  | .invokevirtual _ => exCall op.2.2.1 st M cs (kn ls) kc
  | .invokestatic _ => exCall op.2.2.1 st M cs (kn ls) kc
  | .invokespecial _ => exCall op.2.2.1 st M cs (kn ls) kc
  | .ireturn => match st with
    | [.inl v] => match op.2.2.1.headD 0 with
      | 2 => chk (zb v) (kr (some (.inl v)))
      | _ => kr (some (.inl v))
    | _ => False
  | .lreturn => match st with
    | [.inr (.inl v)] => kr (some (.inr (.inl v)))
    | _ => False
  | .return_ => match st with
    | [] => kr none
    | _ => False
  | _ => False
