/-! the small machine: a frame is (pc, locals, stack, cells, new cells, new slots) -/
abbrev qF : Type := Nat × qL × List Value × qM × Nat × Nat
abbrev qScr : Type := Option (Nat × (Nat → Int32))
def qSCR : Nat := 1000000
def qi1 (g : Int32 → Option Value) (st : List Value) : Option (List Value) := match st with
  | .int x :: r => (g x).map (fun v => v :: r)
  | _ => none
def qi2 (g : Int32 → Int32 → Option Value) (st : List Value) : Option (List Value) := match st with
  | .int y :: .int x :: r => (g x y).map (fun v => v :: r)
  | _ => none
def ql2 (g : Int64 → Int64 → Option Value) (st : List Value) : Option (List Value) := match st with
  | .long y :: .long x :: r => (g x y).map (fun v => v :: r)
  | _ => none
def qf1 (g : UInt32 → Option Value) (st : List Value) : Option (List Value) := match st with
  | .float x :: r => (g x).map (fun v => v :: r)
  | _ => none
def qf2 (g : UInt32 → UInt32 → Option Value) (st : List Value) : Option (List Value) := match st with
  | .float y :: .float x :: r => (g x y).map (fun v => v :: r)
  | _ => none
def qd2 (g : UInt64 → UInt64 → Option Value) (st : List Value) : Option (List Value) := match st with
  | .double y :: .double x :: r => (g x y).map (fun v => v :: r)
  | _ => none
def qcat1 (v : Value) : Bool := v.category == 1
def qdup (st : List Value) : Option (List Value) := match st with
  | v :: r => if qcat1 v = true then some (v :: v :: r) else none
  | _ => none
def qdup2 (st : List Value) : Option (List Value) := match st with
  | v :: w :: r => if qcat1 v = true ∧ qcat1 w = true then some (v :: w :: v :: w :: r) else none
  | _ => none
/-- what only turns the stack -/
def q_pl (i : Instr) (st : List Value) : Option (List Value) := match i with
  | .iconst n => some (.int (Int32.ofInt n) :: st)
  | .bipush n => some (.int (Int8.ofInt n).toInt32 :: st)
  | .sipush n => some (.int (Int16.ofInt n).toInt32 :: st)
  | .lconst n => some (.long (Int64.ofNat (n : Nat)) :: st)
  | .fconst n => if n = 0 then some (.float FP.fconst0 :: st) else none
  | .dconst n => if n = 0 then some (.double FP.dconst0 :: st) else none
  | .iadd => qi2 (fun x y => some (.int (x + y))) st
  | .isub => qi2 (fun x y => some (.int (x - y))) st
  | .imul => qi2 (fun x y => some (.int (x * y))) st
  | .iand => qi2 (fun x y => some (.int (x &&& y))) st
  | .ior => qi2 (fun x y => some (.int (x ||| y))) st
  | .ixor => qi2 (fun x y => some (.int (x ^^^ y))) st
  | .idiv => qi2 (fun x y => if y = 0 then none else some (.int (x / y))) st
  | .irem => qi2 (fun x y => if y = 0 then none else some (.int (x - x / y * y))) st
  | .ishl => qi2 (fun x y => some (.int (x <<< (y &&& 31)))) st
  | .ishr => qi2 (fun x y => some (.int (x >>> (y &&& 31)))) st
  | .iushr => qi2 (fun x y => some (.int (x.toUInt32 >>> (y.toUInt32 &&& Int32.toUInt32 31)).toInt32)) st
  | .i2c => qi1 (fun x => some (.int (x.toUInt32 % 65536).toInt32)) st
  | .i2l => qi1 (fun x => some (.long x.toInt64)) st
  | .i2d => qi1 (fun x => some (.double (FP.i2d x))) st
  | .i2f => qi1 (fun x => some (.float (FP.i2f x))) st
  | .ladd => ql2 (fun x y => some (.long (x + y))) st
  | .lmul => ql2 (fun x y => some (.long (x * y))) st
  | .lcmp => ql2 (fun x y => some (.int (lg_cmp x y))) st
  | .ddiv => qd2 (fun x y => if FP.ddiv x y &&& 0x7fffffffffffffff ≤ 0x7ff0000000000000 then some (.double (FP.ddiv x y)) else none) st
  | .fdiv => qf2 (fun x y => if FP.fdiv x y &&& 0x7fffffff ≤ 0x7f800000 then some (.float (FP.fdiv x y)) else none) st
  | .f2d => qf1 (fun x => if FP.f2d x &&& 0x7fffffffffffffff ≤ 0x7ff0000000000000 then some (.double (FP.f2d x)) else none) st
  | .dcmp op => qd2 (fun x y => some (.int (Op.cmpValue (FP.dcmp x y) op))) st
  | .fcmp op => qf2 (fun x y => some (.int (Op.cmpValue (FP.fcmp x y) op))) st
  | .dup => qdup st
  | .dup2 => qdup2 st
  | _ => none
def q_kind (v : Value) : Nat := match v with
  | .int _ => 0
  | .long _ => 1
  | .float _ => 2
  | .double _ => 3
  | .ref _ => 4
  | _ => 5
/-- loads: the kind and the place -/
def q_ld (i : Instr) : Option (Nat × Nat) := match i with
  | .iload n => some (0, n)
  | .iload_n n => some (0, (n : Nat))
  | .lload n => some (1, n)
  | .lload_n n => some (1, (n : Nat))
  | .fload n => some (2, n)
  | .dload n => some (3, n)
  | .aload n => some (4, n)
  | .aload_n n => some (4, (n : Nat))
  | _ => none
/-- stores -/
def q_sto (i : Instr) : Option (Nat × Nat) := match i with
  | .istore n => some (0, n)
  | .istore_n n => some (0, (n : Nat))
  | .lstore n => some (1, n)
  | .lstore_n n => some (1, (n : Nat))
  | .fstore n => some (2, n)
  | .dstore n => some (3, n)
  | .astore n => some (4, n)
  | .astore_n n => some (4, (n : Nat))
  | _ => none
def qdoLd (k n : Nat) (L : qL) (st : List Value) : Option (List Value) := match L[n]? with
  | some (some v) => if q_kind v = k then some (v :: st) else none
  | _ => none
/-- what a place keeps when the place behind it is written -/
def qinv (o : Option Value) : Option Value := match o with
  | some v => if qcat1 v = true then some v else none
  | none => none
def qinvL (L : qL) (n : Nat) : qL := match n with
  | 0 => L
  | m + 1 => match L[m]? with
    | some o => L.set m (qinv o)
    | none => L
def qset1 (L : qL) (n : Nat) (o : Option Value) : qL := (qinvL L n).set n o
def qset2 (L : qL) (n : Nat) (o : Option Value) : qL := ((qinvL L n).set n o).set (n + 1) none
def qdoSt (k n : Nat) (L : qL) (st : List Value) : Option (qL × List Value) := match st with
  | v :: r => if q_kind v = k then (if k = 1 ∨ k = 3 then (if n + 1 < L.length then some (qset2 L n (some v), r) else none) else (if n < L.length then some (qset1 L n (some v), r) else none)) else none
  | _ => none
/-- branches: taken or not -/
def q_br (i : Instr) (st : List Value) : Option (Bool × List Value) := match i with
  | .goto _ => some (true, st)
  | .ifCond c _ => match st with
    | .int x :: r => match c with
      | .eq => some (decide (x = 0), r)
      | .ne => some (decide (¬ x = 0), r)
      | .lt => some (decide (x < 0), r)
      | .ge => some (decide (0 ≤ x), r)
      | .gt => some (decide (0 < x), r)
      | .le => some (decide (x ≤ 0), r)
    | _ => none
  | .if_icmp c _ => match st with
    | .int y :: .int x :: r => match c with
      | .eq => some (decide (x = y), r)
      | .ne => some (decide (¬ x = y), r)
      | .lt => some (decide (x < y), r)
      | .ge => some (decide (y ≤ x), r)
      | .gt => some (decide (y < x), r)
      | .le => some (decide (x ≤ y), r)
    | _ => none
  | _ => none
def q_off (i : Instr) : Int := match i with
  | .goto o => o
  | .ifCond _ o => o
  | .if_icmp _ o => o
  | _ => 0
def qget (M : qM) (o ci k : Nat) : Option Value := match M[o]? with
  | some (.inr (c, fs)) => if c = ci then fs[k]? else none
  | _ => none
/-- may a field of this type take this value as it stands -/
def q_fit (ty : FieldType) (v : Value) : Bool := match ty, v with
  | .int, .int _ => true
  | .boolean, .int x => decide (x = 0) || decide (x = 1)
  | .object _, .ref _ => true
  | .array _, .ref _ => true
  | _, _ => false
def qput (M : qM) (o ci k : Nat) (v : Value) : Option qM := match M[o]? with
  | some (.inr (c, fs)) => if c = ci ∧ k < fs.length ∧ q_fit (q_ty ci k) v = true then some (M.set o (.inr (ci, fs.set k v))) else none
  | _ => none
def qIn (i : Int32) (n : Nat) : Bool := decide (0 ≤ i.toInt) && decide (i.toInt < n)
/-- arrays: their kinds are 0 int, 1 char; rows of references are objects of the kind 11 -/
def qald (scr : qScr) (M : qM) (o t : Nat) (i : Int32) : Option Value := match M[o]? with
  | some (.inl (u, n, .inl f)) => if u = t ∧ (t = 0 ∨ t = 1) ∧ qIn i n = true then some (.int (f i.toNatClampNeg)) else none
  | some _ => none
  | none => match scr with
    | some (L, xs) => if o = qSCR ∧ t = 0 ∧ qIn i L = true then some (.int (xs i.toNatClampNeg)) else none
    | none => none
def qasti (M : qM) (o t : Nat) (i : Int32) (x : Int32) : Option qM := match M[o]? with
  | some (.inl (u, n, .inl f)) => if u = t ∧ (t = 0 ∨ (t = 1 ∧ 0 ≤ x ∧ x ≤ 65535)) ∧ qIn i n = true then some (M.set o (.inl (t, n, .inl (upd f i.toNatClampNeg x)))) else none
  | _ => none
def qlen (scr : qScr) (M : qM) (o : Nat) : Option Int32 := match M[o]? with
  | some (.inl (u, n, _)) => if u ≤ 1 then some (Int32.ofNat n) else none
  | some _ => none
  | none => match scr with
    | some (L, _) => if o = qSCR then some (Int32.ofNat L) else none
    | none => none
/-- a row of references: read, and written with a row of ints -/
def qaald (M : qM) (o : Nat) (i : Int32) : Option Value := match M[o]? with
  | some (.inr (c, fs)) => if c = 11 ∧ qIn i fs.length = true then (match fs[i.toNatClampNeg]? with
    | some (.ref a) => some (.ref a)
    | _ => none) else none
  | _ => none
def q_isI (M : qM) (a : Nat) : Bool := match M[a]? with
  | some (.inl (u, _, .inl _)) => decide (u = 0)
  | _ => false
def qaast (M : qM) (o : Nat) (i : Int32) (a : Nat) : Option qM := match M[o]? with
  | some (.inr (c, fs)) => if c = 11 ∧ qIn i fs.length = true ∧ q_isI M a = true then some (M.set o (.inr (11, fs.set i.toNatClampNeg (.ref a)))) else none
  | _ => none
/-- no reference of these is a cell from n on -/
def qscV (n : Nat) (v : Value) : Bool := match v with
  | .ref a => decide (a < n) || decide (a = qSCR)
  | _ => true
def qscS (n : Nat) (st : List Value) : Bool := st.all (qscV n)
def qscL (n : Nat) (L : qL) : Bool := L.all (fun o => match o with
  | some v => qscV n v
  | none => true)
def qscM (n : Nat) (M : qM) : Bool := M.all (fun e => match e with
  | .inl _ => true
  | .inr (_, fs) => qscS n fs)
def q_at (t : ArrayType) : Option (Nat × (Nat → vp_A)) := match t with
  | .int => some (0, fun n => (n, .inl (fun _ => 0)))
  | .char => some (1, fun n => (n, .inl (fun _ => 0)))
  | _ => none
/-- an object or an array is made -/
def qmk (al : Bool) (L : qL) (st : List Value) (M : qM) (e : qE) : Option (List Value × qM) :=
  if al = true ∧ M.length < qSCR ∧ qscM M.length M = true ∧ qscL M.length L = true ∧ qscS M.length st = true ∧ qscM M.length [e] = true then some (.ref M.length :: st, M ++ [e]) else none
/-- four rows of nine ints and the row of them are made -/
def qmk4 (al : Bool) (L : qL) (st : List Value) (M : qM) : Option (List Value × qM) :=
  if al = true ∧ M.length + 4 < qSCR ∧ qscM M.length M = true ∧ qscL M.length L = true ∧ qscS M.length st = true then some (.ref M.length :: st, M ++ [.inr (11, [.ref (M.length + 1), .ref (M.length + 2), .ref (M.length + 3), .ref (M.length + 4)]), .inl (0, 9, .inl (fun _ => 0)), .inl (0, 9, .inl (fun _ => 0)), .inl (0, 9, .inl (fun _ => 0)), .inl (0, 9, .inl (fun _ => 0))]) else none
def q_tsw (pc : Nat) (d lo hi : Int) (offs : Array Int) (x : Int32) : Option Nat :=
  if x.toInt < lo ∨ hi < x.toInt then (if 0 ≤ (pc : Int) + d then some ((pc : Int) + d).toNat else none)
  else match offs[(x.toInt - lo).toNat]? with
    | some o => if 0 ≤ (pc : Int) + o then some ((pc : Int) + o).toNat else none
    | none => none
/-- one step within a method: all but calls, returns and throws -/
def q_step (scr : qScr) (j : Nat) (x : qX) (F : qF) : Option qF := match F with
  | (pc, L, st, M, k, n) => match x with
    | (i, len, a, b, _) => match i with
      | .getfield _ => match st with
        | .ref o :: r => (qget M o a b).map (fun v => (pc + 3, L, v :: r, M, k, n))
        | _ => none
      | .putfield _ => match st with
        | v :: .ref o :: r => (qput M o a b v).map (fun M' => (pc + 3, L, r, M', k, n))
        | _ => none
      | .iaload => match st with
        | .int i :: .ref o :: r => (qald scr M o 0 i).map (fun v => (pc + 1, L, v :: r, M, k, n))
        | _ => none
      | .caload => match st with
        | .int i :: .ref o :: r => (qald none M o 1 i).map (fun v => (pc + 1, L, v :: r, M, k, n))
        | _ => none
      | .iastore => match st with
        | .int y :: .int i :: .ref o :: r => (qasti M o 0 i y).map (fun M' => (pc + 1, L, r, M', k, n))
        | _ => none
      | .castore => match st with
        | .int y :: .int i :: .ref o :: r => (qasti M o 1 i y).map (fun M' => (pc + 1, L, r, M', k, n))
        | _ => none
      | .aaload => match st with
        | .int i :: .ref o :: r => (qaald M o i).map (fun v => (pc + 1, L, v :: r, M, k, n))
        | _ => none
      | .aastore => match st with
        | .ref y :: .int i :: .ref o :: r => (qaast M o i y).map (fun M' => (pc + 1, L, r, M', k, n))
        | _ => none
      | .anewarray _ => match st with
        | .int y :: r => if 0 ≤ y ∧ y.toNatClampNeg ≤ 10000 ∧ k + 1 ≤ q_mc j ∧ n + y.toNatClampNeg ≤ q_ms j then (qmk (q_al j) L r M (.inr (11, List.replicate y.toNatClampNeg .null))).map (fun p => (pc + 3, L, p.1, p.2, k + 1, n + y.toNatClampNeg)) else none
        | _ => none
      | .multianewarray _ _ => match st with
        | .int y :: .int x :: r => if x = 4 ∧ y = 9 ∧ k + 5 ≤ q_mc j ∧ n + 40 ≤ q_ms j then (qmk4 (q_al j) L r M).map (fun p => (pc + 4, L, p.1, p.2, k + 5, n + 40)) else none
        | _ => none
      | .arraylength => match st with
        | .ref o :: r => (qlen scr M o).map (fun v => (pc + 1, L, .int v :: r, M, k, n))
        | _ => none
      | .iinc p d => match L[p]? with
        | some (some (.int y)) => some (pc + 3, qset1 L p (some (.int (y + Int32.ofInt d))), st, M, k, n)
        | _ => none
      | .ldc _ => some (pc + 2, L, .int (Int32.ofNat a) :: st, M, k, n)
      | .ldc_w _ => some (pc + 3, L, .int (Int32.ofNat a) :: st, M, k, n)
      | .tableswitch d lo hi offs => match st with
        | .int y :: r => (q_tsw pc d lo hi offs y).map (fun t => (t, L, r, M, k, n))
        | _ => none
      | .new _ => if k + 1 ≤ q_mc j ∧ n + q_N a ≤ q_ms j then (qmk (q_al j) L st M (.inr (a, q_df a))).map (fun p => (pc + 3, L, p.1, p.2, k + 1, n + q_N a)) else none
      | .newarray t => match st with
        | .int y :: r => match q_at t with
          | some (u, g) => if 0 ≤ y ∧ y.toNatClampNeg ≤ 10000 ∧ k + 1 ≤ q_mc j ∧ n + y.toNatClampNeg ≤ q_ms j then (qmk (q_al j) L r M (.inl (u, g y.toNatClampNeg))).map (fun p => (pc + 2, L, p.1, p.2, k + 1, n + y.toNatClampNeg)) else none
          | none => none
        | _ => none
      | i => match q_ld i with
        | some (kd, p) => (qdoLd kd p L st).map (fun s => (pc + len, L, s, M, k, n))
        | none => match q_sto i with
          | some (kd, p) => (qdoSt kd p L st).map (fun s => (pc + len, s.1, s.2, M, k, n))
          | none => match q_br i st with
            | some (t, r) => some (if t = true then a else pc + 3, L, r, M, k, n)
            | none => (q_pl i st).map (fun s => (pc + len, L, s, M, k, n))
/-- how many words of operands -/
def q_cts (st : List Value) : Nat := (st.map fun v => v.category).sum
/-- a call: the callee, its arguments, the rest of the stack -/
def q_call (x : qX) (st : List Value) : Option (Nat × List Value × List Value) := match x with
  | (i, _, a, b, _) => match i with
    | .invokevirtual _ => if b ≤ st.length ∧ q_cts (st.drop b) ≤ 8 then some (a, (st.take b).reverse, st.drop b) else none
    | .invokestatic _ => if b ≤ st.length ∧ q_cts (st.drop b) ≤ 8 then some (a, (st.take b).reverse, st.drop b) else none
    | .invokespecial _ => if b ≤ st.length ∧ q_cts (st.drop b) ≤ 8 then some (a, (st.take b).reverse, st.drop b) else none
    | _ => none
/-- a return: what is handed back, if the stack is so -/
def q_ret (j : Nat) (i : Instr) (st : List Value) : Option (Option Value) := match i with
  | .return_ => match st with
    | [] => some none
    | _ => none
  | .ireturn => match st with
    | [.int x] => match q_rt j with
      | some .int => some (some (.int x))
      | some .boolean => if x = 0 ∨ x = 1 then some (some (.int x)) else none
      | some .char => if 0 ≤ x ∧ x ≤ 65535 then some (some (.int x)) else none
      | _ => none
    | _ => none
  | .lreturn => match st with
    | [.long x] => some (some (.long x))
    | _ => none
  | .freturn => match st with
    | [.float x] => some (some (.float x))
    | _ => none
  | .dreturn => match st with
    | [.double x] => some (some (.double x))
    | _ => none
  | _ => none
def qexp : List Value → qL
  | [] => []
  | v :: r => if qcat1 v = true then some v :: qexp r else some v :: none :: qexp r
/-- the locals at a method's entry -/
def qloc (j : Nat) (args : List Value) : qL := qexp args ++ List.replicate (q_mL j - (qexp args).length) none
def q_kd (i : Instr) : Nat := match i with
  | .invokevirtual _ => 1
  | .invokestatic _ => 1
  | .invokespecial _ => 1
  | .return_ => 2
  | .ireturn => 2
  | .lreturn => 2
  | .freturn => 2
  | .dreturn => 2
  | _ => 0
/-- is the call's receiver of the callee's kind (virtual calls) -/
def q_rcv (M : qM) (c a : Nat) (args : List Value) : Bool := match c with
  | 0 => match args with
    | .ref o :: _ => match M[o]? with
      | some (.inr (ci, _)) => decide (ci = q_oc a)
      | _ => false
    | _ => false
  | 4 => match args with
    | .ref _ :: _ => true
    | _ => false
  | 5 => match args with
    | .ref _ :: _ => true
    | _ => false
  | _ => true
/-- Object's constructor and Math.max, which need no frame here -/
def q_lib (a : Nat) (args : List Value) : Option (List Value) := match args with
  | [.ref _] => if a = 998 then some [] else none
  | [.int x, .int y] => if a = 999 then some [.int (if x < y then y else x)] else none
  | _ => none
/-- the law's own methods are given the script -/
def q_sc (a : Nat) : Bool := decide (101 ≤ a)
def q_scp (a : Nat) (scr : qScr) : qScr := if q_sc a = true then scr else none
def q_exec : Nat → qScr → Nat → qF → Option (qR × qM)
  | 0, _, _, _ => none
  | f + 1, scr, j, F => match q_code j F.1 with
    | none => none
    | some x => match q_kd x.1 with
      | 0 => match x.2.2.1 with
        | a => if 1000 ≤ a ∧ a < 1005 ∧ (match x.1 with
            | .new _ => true
            | _ => false) = true then (if F.2.2.2.2.1 + 1 ≤ q_mc j ∧ F.2.2.2.2.2 + 6 ≤ q_ms j ∧ F.2.2.1.length ≤ 4 then some (.inr (a - 1000), F.2.2.2.1) else none)
          else match q_step scr j x F with
            | none => none
            | some F' => q_exec f scr j F'
      | 1 => match q_call x F.2.2.1 with
        | none => none
        | some (a, args, rest) => if 900 ≤ a then (match q_lib a args with
            | none => none
            | some r => q_exec f scr j (F.1 + 3, F.2.1, r ++ rest, F.2.2.2.1, F.2.2.2.2.1, F.2.2.2.2.2))
          else if q_rcv F.2.2.2.1 x.2.2.2.2 a args = true ∧ F.2.2.2.2.1 + q_mc a ≤ q_mc j ∧ F.2.2.2.2.2 + q_ms a ≤ q_ms j ∧ (q_al a = true → q_al j = true ∧ qscL F.2.2.2.1.length F.2.1 = true ∧ qscS F.2.2.2.1.length rest = true) ∧ (qexp args).length ≤ q_mL a then
            match q_exec f (q_scp a scr) a (0, qloc a args, [], F.2.2.2.1, 0, 0) with
            | none => none
            | some (.inl v, M') => q_exec f scr j (F.1 + 3, F.2.1, v.toList ++ rest, M', F.2.2.2.2.1 + q_mc a, F.2.2.2.2.2 + q_ms a)
            | some (.inr e, M') => match q_hnd j F.1 e with
              | none => none
              | some (h, p) => if p < F.2.1.length then q_exec f scr j (h, qset1 F.2.1 p none, [], M', F.2.2.2.2.1 + q_mc a, F.2.2.2.2.2 + q_ms a) else none
          else none
      | _ => match q_ret j x.1 F.2.2.1 with
        | none => none
        | some v => some (.inl v, F.2.2.2.1)
