/-! ===== the small machine: an abstract memory, its instructions, what must hold for a run to end well =====
Memory: kinds (tag, class or length), references that stay, references that change, ints, longs, how many cells. Cell 0 is null.
Tags: 0 an object, 1 int[], 2 long[], 3 boolean[], 4 an array of references, 6 the script, 7 a text constant. -/
abbrev Mm : Type := (Nat → Nat × Nat) × (Nat → Nat → Nat) × (Nat → Nat → Nat) × (Nat → Nat → Int32) × (Nat → Nat → Int64) × Nat
/-- an instruction: as decoded, its length, what is resolved of it, its constant -/
abbrev Op : Type := Instr × Nat × List Nat × Int32
/-- how a call ends: with a value or none, or by throwing the exception of a number -/
abbrev Rs : Type := Option Value ⊕ Nat
def u2 {α : Type} (f : Nat → Nat → α) (k i : Nat) (v : α) : Nat → Nat → α := fun a b => if a = k ∧ b = i then v else f a b
def jk : Value := .retAddr 0
def wI (M : Mm) (k i : Nat) (v : Int32) : Mm := (M.1, M.2.1, M.2.2.1, u2 M.2.2.2.1 k i v, M.2.2.2.2)
def wJ (M : Mm) (k i : Nat) (v : Int64) : Mm := (M.1, M.2.1, M.2.2.1, M.2.2.2.1, u2 M.2.2.2.2.1 k i v, M.2.2.2.2.2)
def wR (M : Mm) (k i : Nat) (v : Nat) : Mm := (M.1, u2 M.2.1 k i v, M.2.2)
def wS (M : Mm) (k i : Nat) (v : Nat) : Mm := (M.1, M.2.1, u2 M.2.2.1 k i v, M.2.2.2)
def gI (M : Mm) (k i : Nat) : Int32 := M.2.2.2.1 k i
def gJ (M : Mm) (k i : Nat) : Int64 := M.2.2.2.2.1 k i
def gN (M : Mm) : Nat := M.2.2.2.2.2
/-- a new cell of a kind, all zero -/
def nw (M : Mm) (q : Nat × Nat) : Mm := (fun a => if a = gN M + 1 then q else M.1 a, fun a b => if a = gN M + 1 then 0 else M.2.1 a b, fun a b => if a = gN M + 1 then 0 else M.2.2.1 a b, fun a b => if a = gN M + 1 then 0 else gI M a b, fun a b => if a = gN M + 1 then 0 else gJ M a b, gN M + 1)
/-- what arraycopy leaves in the target -/
def c2 {α : Type} (f : Nat → Nat → α) (s sp t tp n : Nat) : Nat → Nat → α := fun a b => if a = t then va_cpy (f s) (f t) sp tp n b else f a b
def cpI (M : Mm) (s sp t tp n : Nat) : Mm := (M.1, M.2.1, M.2.2.1, c2 M.2.2.2.1 s sp t tp n, M.2.2.2.2)
def cpJ (M : Mm) (s sp t tp n : Nat) : Mm := (M.1, M.2.1, M.2.2.1, M.2.2.2.1, c2 M.2.2.2.2.1 s sp t tp n, M.2.2.2.2.2)
/-- a check that goes away where it can be worked out -/
def chk (b : Bool) (P : Prop) : Prop := match b with
  | true => P
  | false => False
def cnd (b : Bool) (A B : Prop) : Prop := match b with
  | true => A
  | false => B
def kq (q : Nat × Nat) (t c : Nat) : Bool := Nat.beq q.1 t && Nat.beq q.2 c
def lq (a b c d : Nat) : Bool := Nat.ble a b && Nat.ble c d
def sto (v : Value) : Nat → List Value → List Value
  | 0, [] => [v]
  | 0, _ :: r => v :: r
  | 1, x :: r => (match x with | .long _ => jk | y => y) :: sto v 0 r
  | n + 1, [] => jk :: sto v n []
  | n + 1, x :: r => x :: sto v n r
def pu (v : Value) : Nat → List Value → List Value
  | 0, [] => [v]
  | 0, _ :: r => v :: r
  | n + 1, [] => jk :: pu v n []
  | n + 1, x :: r => x :: pu v n r
def catOK (st : List Value) : Bool := Nat.ble ((st.map fun v => v.category).sum) 8
def p1I (st : List Value) (k : Int32 → List Value → Prop) : Prop := match st with
  | .int a :: r => k a r
  | _ => False
def p2I (st : List Value) (k : Int32 → Int32 → List Value → Prop) : Prop := match st with
  | .int b :: .int a :: r => k a b r
  | _ => False
def p2L (st : List Value) (k : Int64 → Int64 → List Value → Prop) : Prop := match st with
  | .long b :: .long a :: r => k a b r
  | _ => False
def p1R (st : List Value) (k : Nat → List Value → Prop) : Prop := match st with
  | .ref a :: r => k a r
  | _ => False
def pIR (st : List Value) (k : Nat → Int32 → List Value → Prop) : Prop := match st with
  | .int i :: .ref a :: r => k a i r
  | _ => False
def lI (ls : List Value) (i : Nat) (k : Int32 → Prop) : Prop := match ls.getD i jk with
  | .int a => k a
  | _ => False
def lL (ls : List Value) (i : Nat) (k : Int64 → Prop) : Prop := match ls.getD i jk with
  | .long a => k a
  | _ => False
def lR (ls : List Value) (i : Nat) (k : Nat → Prop) : Prop := match ls.getD i jk with
  | .ref a => k a
  | _ => False
/-- a switch: the first of the keys from lo on -/
def swT (x : Int32) (k : Nat → Prop) (dflt : Nat) : Int → List Nat → Prop
  | _, [] => k dflt
  | lo, t :: ts => cnd (decide (x = Int32.ofInt lo)) (k t) (swT x k dflt (lo + 1) ts)
def swL (x : Int32) (k : Nat → Prop) (dflt : Nat) : List (Int × Int) → List Nat → Prop
  | (a, _) :: ps, t :: ts => cnd (decide (x = Int32.ofInt a)) (k t) (swL x k dflt ps ts)
  | _, _ => k dflt
def bz (x : Int32) : Prop := x = 0 ∨ x = 1
def exFld (aux : List Nat) (o : Nat) (M : Mm) (k : Value → Prop) : Prop := match aux with
  | ci :: i :: 0 :: _ => chk (kq (M.1 o) 0 ci) (k (.int (gI M o i)))
  | ci :: i :: 1 :: _ => chk (kq (M.1 o) 0 ci) (k (.long (gJ M o i)))
  | ci :: i :: 2 :: _ => chk (kq (M.1 o) 0 ci) (k (.ref (M.2.1 o i)))
  | ci :: i :: 3 :: _ => chk (kq (M.1 o) 0 ci) (k (.int (gI M o i)))
  | ci :: i :: 4 :: _ => chk (kq (M.1 o) 0 ci) (k (.ref (M.2.2.1 o i)))
  | _ => False
def exPut (aux : List Nat) (st : List Value) (M : Mm) (k : List Value → Mm → Prop) : Prop := match aux with
  | ci :: i :: 0 :: _ => match st with
    | .int v :: .ref o :: r => chk (kq (M.1 o) 0 ci) (k r (wI M o i v))
    | _ => False
  | ci :: i :: 1 :: _ => match st with
    | .long v :: .ref o :: r => chk (kq (M.1 o) 0 ci) (k r (wJ M o i v))
    | _ => False
  | ci :: i :: 2 :: _ => match st with
    | .ref v :: .ref o :: r => chk (kq (M.1 o) 0 ci) (k r (wR M o i v))
    | _ => False
  | ci :: i :: 3 :: _ => match st with
    | .int v :: .ref o :: r => chk (kq (M.1 o) 0 ci) (bz v ∧ k r (wI M o i v))
    | _ => False
  | ci :: i :: 4 :: _ => match st with
    | .ref v :: .ref o :: r => chk (kq (M.1 o) 0 ci) (k r (wS M o i v))
    | _ => False
  | _ => False
/-- a call: kind, which method, how many arguments (the receiver too), its class -/
def exV (y n ci : Nat) (st : List Value) (M : Mm) (kc : Nat → List Value → List Value → Prop) : Prop := match (st.take n).reverse with
  | .ref o :: as => chk (catOK (st.drop n)) (chk (kq (M.1 o) 0 ci) (kc y (.ref o :: as) (st.drop n)))
  | _ => False
def exCall (aux : List Nat) (st : List Value) (M : Mm) (cs : Nat × Nat) (kn : List Value → Mm → Nat × Nat → Prop) (kc : Nat → List Value → List Value → Prop) : Prop := match aux with
  | 0 :: y :: n :: ci :: _ => exV y n ci st M kc
  | 2 :: y :: n :: ci :: _ => exV y n ci st M kc
  | 3 :: y :: n :: ci :: _ => exV y n ci st M kc
  | 1 :: y :: n :: _ => chk (catOK (st.drop n)) (kc y (st.take n).reverse (st.drop n))
  | 4 :: _ => p1R st (fun o r => chk (Nat.beq (M.1 o).1 0) (kn r M cs))
  | 5 :: _ => p1R st (fun a r => chk (Nat.beq (M.1 a).1 7) (kn (.int (nI (M.1 a).2) :: r) M cs))
  | 6 :: _ => pIR st (fun a i r => chk (Nat.beq (M.1 a).1 7) (vp_in i (M.1 a).2 ∧ kn (.int (gI M a i.toNatClampNeg) :: r) M cs))
  | 7 :: tag :: _ => match st with
    | .int n :: .int tp :: .ref t :: .int sp :: .ref s :: r => chk (Nat.beq (M.1 s).1 tag && Nat.beq (M.1 t).1 tag) (¬ sp < 0 ∧ ¬ tp < 0 ∧ ¬ n < 0 ∧ sp.toNatClampNeg + n.toNatClampNeg ≤ (M.1 s).2 ∧ tp.toNatClampNeg + n.toNatClampNeg ≤ (M.1 t).2 ∧
        kn r (match tag with | 1 => cpI M s sp.toNatClampNeg t tp.toNatClampNeg n.toNatClampNeg | _ => cpJ M s sp.toNatClampNeg t tp.toNatClampNeg n.toNatClampNeg) cs)
    | _ => False
  | _ => False
def ex (bd : Nat × Nat) (op : Op) (ls st : List Value) (M : Mm) (cs : Nat × Nat) (kn : List Value → List Value → Mm → Nat × Nat → Prop) (kj : Nat → List Value → Prop) (kc : Nat → List Value → List Value → Prop) (kr : Option Value → Prop) (kt : Nat → Prop) : Prop := match op.1 with
  | .nop => kj (op.2.2.1.headD 0) st
  | .iconst _ => kn ls (.int op.2.2.2 :: st) M cs
  | .bipush _ => kn ls (.int op.2.2.2 :: st) M cs
  | .sipush _ => kn ls (.int op.2.2.2 :: st) M cs
  | .ldc _ => match op.2.2.1 with
    | 2 :: s :: _ => kn ls (.ref s :: st) M cs
    | _ => kn ls (.int op.2.2.2 :: st) M cs
  | .ldc_w _ => match op.2.2.1 with
    | 2 :: s :: _ => kn ls (.ref s :: st) M cs
    | _ => kn ls (.int op.2.2.2 :: st) M cs
  | .ldc2_w _ => kn ls (.long 16 :: st) M cs
  | .lconst n => match n with
    | 0 => kn ls (.long 0 :: st) M cs
    | 1 => kn ls (.long 1 :: st) M cs
  | .aconst_null => kn ls (.ref 0 :: st) M cs
  | .iload i => lI ls i (fun a => kn ls (.int a :: st) M cs)
  | .iload_n i => lI ls i.val (fun a => kn ls (.int a :: st) M cs)
  | .lload i => lL ls i (fun a => kn ls (.long a :: st) M cs)
  | .lload_n i => lL ls i.val (fun a => kn ls (.long a :: st) M cs)
  | .aload i => lR ls i (fun a => kn ls (.ref a :: st) M cs)
  | .aload_n i => lR ls i.val (fun a => kn ls (.ref a :: st) M cs)
  | .istore i => p1I st (fun a r => kn (sto (.int a) i ls) r M cs)
  | .istore_n i => p1I st (fun a r => kn (sto (.int a) i.val ls) r M cs)
  | .lstore i => match st with
    | .long a :: r => kn (pu jk (i + 1) (sto (.long a) i ls)) r M cs
    | _ => False
  | .lstore_n i => match st with
    | .long a :: r => kn (pu jk (i.val + 1) (sto (.long a) i.val ls)) r M cs
    | _ => False
  | .astore i => p1R st (fun a r => kn (sto (.ref a) i ls) r M cs)
  | .astore_n i => p1R st (fun a r => kn (sto (.ref a) i.val ls) r M cs)
  | .iinc i _ => lI ls i (fun a => kn (sto (.int (a + op.2.2.2)) i ls) st M cs)
  | .iadd => p2I st (fun a b r => kn ls (.int (a + b) :: r) M cs)
  | .isub => p2I st (fun a b r => kn ls (.int (a - b) :: r) M cs)
  | .imul => p2I st (fun a b r => kn ls (.int (a * b) :: r) M cs)
  | .idiv => p2I st (fun a b r => ¬ b = 0 ∧ kn ls (.int (a / b) :: r) M cs)
  | .irem => p2I st (fun a b r => ¬ b = 0 ∧ kn ls (.int (a - a / b * b) :: r) M cs)
  | .iand => p2I st (fun a b r => kn ls (.int (a &&& b) :: r) M cs)
  | .ior => p2I st (fun a b r => kn ls (.int (a ||| b) :: r) M cs)
  | .ishl => p2I st (fun a b r => kn ls (.int (a <<< (b &&& 31)) :: r) M cs)
  | .ishr => p2I st (fun a b r => kn ls (.int (a >>> (b &&& 31)) :: r) M cs)
  | .iushr => p2I st (fun a b r => kn ls (.int ((a.toUInt32 >>> (b.toUInt32 &&& Int32.toUInt32 31)).toInt32) :: r) M cs)
  | .ineg => p1I st (fun a r => kn ls (.int (-a) :: r) M cs)
  | .ladd => p2L st (fun a b r => kn ls (.long (a + b) :: r) M cs)
  | .lsub => p2L st (fun a b r => kn ls (.long (a - b) :: r) M cs)
  | .lmul => p2L st (fun a b r => kn ls (.long (a * b) :: r) M cs)
  | .lcmp => p2L st (fun a b r => kn ls (.int (lg_cmp a b) :: r) M cs)
  | .lshr => match st with
    | .int b :: .long a :: r => kn ls (.long (a >>> (b.toInt64 &&& 63)) :: r) M cs
    | _ => False
  | .i2l => p1I st (fun a r => kn ls (.long a.toInt64 :: r) M cs)
  | .dup => match st with
    | .int a :: r => kn ls (.int a :: .int a :: r) M cs
    | .ref a :: r => kn ls (.ref a :: .ref a :: r) M cs
    | _ => False
  | .dup2 => match st with
    | .int i :: .ref a :: r => kn ls (.int i :: .ref a :: .int i :: .ref a :: r) M cs
    | _ => False
  | .pop => match st with
    | .int _ :: r => kn ls r M cs
    | .ref _ :: r => kn ls r M cs
    | _ => False
  | .goto _ => kj (op.2.2.1.headD 0) st
  | .if_icmp c _ => p2I st (fun a b r => match c with
    | .eq => cnd (decide (a = b)) (kj (op.2.2.1.headD 0) r) (kn ls r M cs)
    | .ne => cnd (decide (a = b)) (kn ls r M cs) (kj (op.2.2.1.headD 0) r)
    | .lt => cnd (decide (a < b)) (kj (op.2.2.1.headD 0) r) (kn ls r M cs)
    | .ge => cnd (decide (a < b)) (kn ls r M cs) (kj (op.2.2.1.headD 0) r)
    | .gt => cnd (decide (b < a)) (kj (op.2.2.1.headD 0) r) (kn ls r M cs)
    | .le => cnd (decide (b < a)) (kn ls r M cs) (kj (op.2.2.1.headD 0) r))
  | .ifCond c _ => p1I st (fun a r => match c with
    | .eq => cnd (decide (a = 0)) (kj (op.2.2.1.headD 0) r) (kn ls r M cs)
    | .ne => cnd (decide (a = 0)) (kn ls r M cs) (kj (op.2.2.1.headD 0) r)
    | .lt => cnd (decide (a < 0)) (kj (op.2.2.1.headD 0) r) (kn ls r M cs)
    | .ge => cnd (decide (a < 0)) (kn ls r M cs) (kj (op.2.2.1.headD 0) r)
    | .gt => cnd (decide (0 < a)) (kj (op.2.2.1.headD 0) r) (kn ls r M cs)
    | .le => cnd (decide (0 < a)) (kn ls r M cs) (kj (op.2.2.1.headD 0) r))
  | .tableswitch _ lo _ _ => p1I st (fun a r => swT a (fun t => kj t r) (op.2.2.1.headD 0) lo op.2.2.1.tail)
  | .lookupswitch _ ps => p1I st (fun a r => swL a (fun t => kj t r) (op.2.2.1.headD 0) ps.toList op.2.2.1.tail)
  | .getfield _ => p1R st (fun o r => exFld op.2.2.1 o M (fun v => kn ls (v :: r) M cs))
  | .putfield _ => exPut op.2.2.1 st M (fun r M' => kn ls r M' cs)
  | .iaload => match op.2.2.1 with
    | 6 :: _ => pIR st (fun a i r => chk (Nat.beq (M.1 a).1 6) (vp_in i (M.2.2.1 a 0) ∧ kn ls (.int (gI M a i.toNatClampNeg) :: r) M cs))
    | _ => pIR st (fun a i r => chk (Nat.beq (M.1 a).1 1) (vp_in i (M.1 a).2 ∧ kn ls (.int (gI M a i.toNatClampNeg) :: r) M cs))
  | .baload => pIR st (fun a i r => chk (Nat.beq (M.1 a).1 3) (vp_in i (M.1 a).2 ∧ kn ls (.int (gI M a i.toNatClampNeg) :: r) M cs))
  | .laload => pIR st (fun a i r => chk (Nat.beq (M.1 a).1 2) (vp_in i (M.1 a).2 ∧ kn ls (.long (gJ M a i.toNatClampNeg) :: r) M cs))
  | .aaload => pIR st (fun a i r => chk (Nat.beq (M.1 a).1 4) (vp_in i (M.1 a).2 ∧ kn ls (.ref (M.2.1 a i.toNatClampNeg) :: r) M cs))
  | .iastore => match st with
    | .int x :: .int i :: .ref a :: r => chk (Nat.beq (M.1 a).1 1) (vp_in i (M.1 a).2 ∧ kn ls r (wI M a i.toNatClampNeg x) cs)
    | _ => False
  | .bastore => match st with
    | .int x :: .int i :: .ref a :: r => chk (Nat.beq (M.1 a).1 3) (vp_in i (M.1 a).2 ∧ bz x ∧ kn ls r (wI M a i.toNatClampNeg x) cs)
    | _ => False
  | .lastore => match st with
    | .long x :: .int i :: .ref a :: r => chk (Nat.beq (M.1 a).1 2) (vp_in i (M.1 a).2 ∧ kn ls r (wJ M a i.toNatClampNeg x) cs)
    | _ => False
  | .aastore => match st with
    | .ref x :: .int i :: .ref a :: r => chk (Nat.beq (M.1 a).1 4) (chk (kq (M.1 x) 0 (op.2.2.1.headD 0)) (vp_in i (M.1 a).2 ∧ kn ls r (wR M a i.toNatClampNeg x) cs))
    | _ => False
  | .arraylength => match op.2.2.1 with
    | 6 :: _ => p1R st (fun a r => chk (Nat.beq (M.1 a).1 6) (kn ls (.int (nI (M.2.2.1 a 0)) :: r) M cs))
    | tag :: _ => p1R st (fun a r => chk (Nat.beq (M.1 a).1 tag) (kn ls (.int (nI (M.1 a).2) :: r) M cs))
    | _ => False
  | .newarray _ => p1I st (fun n r => ¬ n < 0 ∧ chk (lq (cs.1 + 1) bd.1 (cs.2 + n.toNatClampNeg) bd.2) (kn ls (.ref (gN M + 1) :: r) (nw M (op.2.2.1.headD 0, n.toNatClampNeg)) (cs.1 + 1, cs.2 + n.toNatClampNeg)))
  | .anewarray _ => p1I st (fun n r => ¬ n < 0 ∧ chk (lq (cs.1 + 1) bd.1 (cs.2 + n.toNatClampNeg) bd.2) (kn ls (.ref (gN M + 1) :: r) (nw M (4, n.toNatClampNeg)) (cs.1 + 1, cs.2 + n.toNatClampNeg)))
  | .new _ => match op.2.2.1 with
    | 9 :: e :: _ => chk (lq (cs.1 + 1) bd.1 (cs.2 + 6) bd.2) (kt e)
    | _ :: ci :: n :: _ => chk (lq (cs.1 + 1) bd.1 (cs.2 + n) bd.2) (kn ls (.ref (gN M + 1) :: st) (nw M (0, ci)) (cs.1 + 1, cs.2 + n))
    | _ => False
  | .invokevirtual _ => exCall op.2.2.1 st M cs (kn ls) kc
  | .invokestatic _ => exCall op.2.2.1 st M cs (kn ls) kc
  | .invokespecial _ => exCall op.2.2.1 st M cs (kn ls) kc
  | .ireturn => match st with
    | [.int v] => match op.2.2.1.headD 0 with
      | 2 => bz v ∧ kr (some (.int v))
      | _ => kr (some (.int v))
    | _ => False
  | .lreturn => match st with
    | [.long v] => kr (some (.long v))
    | _ => False
  | .return_ => match st with
    | [] => kr none
    | _ => False
  | _ => False
