/-! THE LIST MACHINE: bytecode (constants resolved, jumps by ordinals) over lists of cells. Its runs are functions; its soundness against the real machine is proved once. -/
noncomputable abbrev am_E : Type := (Nat × List Int32) ⊕ ((Nat × List Value) ⊕ (Nat × List (Option Nat)))
noncomputable abbrev am_L : Type := List (Option Value)
/-- a method: its instructions, locals, arguments (with the receiver), the receiver's class, the kind of its answer (0 none, 1 int, 2 boolean, 3 long, 4 reference, 5 char, 6 byte) -/
noncomputable abbrev am_M : Type := List Instr × Nat × Nat × Option Nat × Nat
noncomputable def am_look (cst mem : List am_E) (k : Nat) : Option am_E := if k < 1000 then mem[k]? else cst[k - 1000]?
noncomputable def am_inb (i : Int32) (n : Nat) : Bool := !(decide (i < 0)) && decide (i.toNatClampNeg < n)
noncomputable def am_cmp (c : Jvm.ClassFile.Cond) (x y : Int32) : Bool := match c with
  | .eq => decide (x = y)
  | .ne => !(decide (x = y))
  | .lt => decide (x < y)
  | .ge => decide (y ≤ x)
  | .gt => decide (y < x)
  | .le => decide (x ≤ y)
noncomputable def am_okp (ls : am_L) (i : Nat) : Bool := match i with
  | 0 => true
  | j + 1 => match ls[j]? with
    | some (some v) => v.category == 1
    | _ => true
noncomputable def am_lks : List (Int × Int) → Int → Int → Int
  | [], d, _ => d
  | (a, t) :: r, d, x => if x = a then t else am_lks r d x
/-- stack alone -/
noncomputable def am_sop (op : Instr) (st : List Value) : Option (List Value) := match op with
  | .iadd => (match st with | .int y :: .int x :: r => some (.int (x + y) :: r) | _ => none)
  | .isub => (match st with | .int y :: .int x :: r => some (.int (x - y) :: r) | _ => none)
  | .imul => (match st with | .int y :: .int x :: r => some (.int (x * y) :: r) | _ => none)
  | .idiv => (match st with | .int y :: .int x :: r => if y = 0 then none else some (.int (x / y) :: r) | _ => none)
  | .irem => (match st with | .int y :: .int x :: r => if y = 0 then none else some (.int (x - x / y * y) :: r) | _ => none)
  | .iand => (match st with | .int y :: .int x :: r => some (.int (x &&& y) :: r) | _ => none)
  | .ior => (match st with | .int y :: .int x :: r => some (.int (x ||| y) :: r) | _ => none)
  | .ixor => (match st with | .int y :: .int x :: r => some (.int (x ^^^ y) :: r) | _ => none)
  | .ishl => (match st with | .int y :: .int x :: r => some (.int (x <<< (y &&& 31)) :: r) | _ => none)
  | .ishr => (match st with | .int y :: .int x :: r => some (.int (x >>> (y &&& 31)) :: r) | _ => none)
  | .iushr => (match st with | .int y :: .int x :: r => some (.int (x.toUInt32 >>> (y.toUInt32 &&& Int32.toUInt32 31)).toInt32 :: r) | _ => none)
  | .ineg => (match st with | .int x :: r => some (.int (-x) :: r) | _ => none)
  | .i2l => (match st with | .int x :: r => some (.long x.toInt64 :: r) | _ => none)
  | .i2b => (match st with | .int x :: r => some (.int x.toInt8.toInt32 :: r) | _ => none)
  | .i2s => (match st with | .int x :: r => some (.int x.toInt16.toInt32 :: r) | _ => none)
  | .i2c => (match st with | .int x :: r => some (.int (x.toUInt32 % 65536).toInt32 :: r) | _ => none)
  | .ladd => (match st with | .long y :: .long x :: r => some (.long (x + y) :: r) | _ => none)
  | .lmul => (match st with | .long y :: .long x :: r => some (.long (x * y) :: r) | _ => none)
  | .ldiv => (match st with | .long y :: .long x :: r => if y = 0 then none else some (.long (x / y) :: r) | _ => none)
  | .lrem => (match st with | .long y :: .long x :: r => if y = 0 then none else some (.long (x - x / y * y) :: r) | _ => none)
  | .lcmp => (match st with | .long y :: .long x :: r => some (.int (lg_cmp x y) :: r) | _ => none)
  | .dup => (match st with | v :: r => if v.category = 1 then some (v :: v :: r) else none | _ => none)
  | .dup2 => (match st with | v :: w :: r => if v.category = 1 ∧ w.category = 1 then some (v :: w :: v :: w :: r) else none | _ => none)
  | .pop => (match st with | v :: r => if v.category = 1 then some r else none | _ => none)
  | .pop2 => (match st with | v :: r => if v.category = 2 then some r else none | _ => none)
  | _ => none
noncomputable def am_stat : List Value := [.int 1, .ref 1010, .ref 1011, .ref 1012]
noncomputable def am_nar (t : Nat) (x : Int32) : Int32 := match t with
  | 0 => x
  | 1 => x.toInt8.toInt32
  | _ => x &&& 1
noncomputable def am_atag : ArrayType → Option Nat
  | .int => some 0
  | .byte => some 1
  | .boolean => some 2
  | _ => none
/-- the k-th field of class ci: its type, whether it is final, what it holds at first -/
noncomputable abbrev am_FT : Type := Nat → List (FieldType × Bool × Value)
noncomputable def am_cpyl (f g : List Int32) (sp dp n : Nat) : List Int32 := g.take dp ++ ((f.drop sp).take n ++ g.drop (dp + n))
/-- an instruction that neither calls nor returns: where it jumps (none: on), locals, stack, cells -/
noncomputable def am_step (ft : am_FT) (cst : List am_E) (op : Instr) (ls : am_L) (st : List Value) (mem : List am_E) : Option (Option Nat × am_L × List Value × List am_E) :=
  match op with
  | .bipush n => some (none, ls, .int (Int32.ofInt n) :: st, mem)
  | .sipush n => some (none, ls, .long (Int64.ofInt n) :: st, mem)
  | .ldc k => some (none, ls, .ref k :: st, mem)
  | .getstatic k => (match am_stat[k]? with | some v => some (none, ls, v :: st, mem) | none => none)
  | .iload i => (match ls[i]? with | some (some (.int v)) => some (none, ls, .int v :: st, mem) | _ => none)
  | .lload i => (match ls[i]? with | some (some (.long v)) => some (none, ls, .long v :: st, mem) | _ => none)
  | .aload i => (match ls[i]? with | some (some (.ref v)) => some (none, ls, .ref v :: st, mem) | _ => none)
  | .istore i => (match st with | .int v :: r => if i < ls.length ∧ am_okp ls i = true then some (none, ls.set i (some (.int v)), r, mem) else none | _ => none)
  | .astore i => (match st with | .ref v :: r => if i < ls.length ∧ am_okp ls i = true then some (none, ls.set i (some (.ref v)), r, mem) else none | _ => none)
  | .lstore i => (match st with | .long v :: r => if i + 1 < ls.length ∧ am_okp ls i = true then some (none, (ls.set i (some (.long v))).set (i + 1) none, r, mem) else none | _ => none)
  | .iinc i n => (match ls[i]? with | some (some (.int x)) => if am_okp ls i = true then some (none, ls.set i (some (.int (x + Int32.ofInt n))), st, mem) else none | _ => none)
  | .ifCond c t => (match st with | .int x :: r => some (if am_cmp c x 0 = true then some t.toNat else none, ls, r, mem) | _ => none)
  | .if_icmp c t => (match st with | .int y :: .int x :: r => some (if am_cmp c x y = true then some t.toNat else none, ls, r, mem) | _ => none)
  | .goto t => some (some t.toNat, ls, st, mem)
  | .tableswitch d lo hi ts => (match st with
    | .int x :: r => if x.toInt < lo ∨ hi < x.toInt then some (some d.toNat, ls, r, mem) else (match ts[(x.toInt - lo).toNat]? with | some t => some (some t.toNat, ls, r, mem) | none => none)
    | _ => none)
  | .lookupswitch d ps => (match st with | .int x :: r => some (some (am_lks ps.toList d x.toInt).toNat, ls, r, mem) | _ => none)
  | .iaload => (match st with
    | .int i :: .ref k :: r => (match am_look cst mem k with | some (.inl (0, xs)) => if am_inb i xs.length = true then some (none, ls, .int (xs.getD i.toNatClampNeg 0) :: r, mem) else none | _ => none)
    | _ => none)
  | .baload => (match st with
    | .int i :: .ref k :: r => (match am_look cst mem k with | some (.inl (t + 1, xs)) => if am_inb i xs.length = true then some (none, ls, .int (xs.getD i.toNatClampNeg 0) :: r, mem) else none | _ => none)
    | _ => none)
  | .iastore => (match st with
    | .int x :: .int i :: .ref k :: r => (match mem[k]? with | some (.inl (0, xs)) => if am_inb i xs.length = true ∧ k < 1000 then some (none, ls, r, mem.set k (.inl (0, xs.set i.toNatClampNeg x))) else none | _ => none)
    | _ => none)
  | .bastore => (match st with
    | .int x :: .int i :: .ref k :: r => (match mem[k]? with | some (.inl (t + 1, xs)) => if am_inb i xs.length = true ∧ k < 1000 then some (none, ls, r, mem.set k (.inl (t + 1, xs.set i.toNatClampNeg (am_nar (t + 1) x)))) else none | _ => none)
    | _ => none)
  | .aaload => (match st with
    | .int i :: .ref k :: r => (match mem[k]? with | some (.inr (.inr (_, rs))) => if am_inb i rs.length = true ∧ k < 1000 then (match rs.getD i.toNatClampNeg none with | some q => some (none, ls, .ref q :: r, mem) | none => none) else none | _ => none)
    | _ => none)
  | .aastore => (match st with
    | .ref v :: .int i :: .ref k :: r => (match mem[k]?, mem[v]? with
      | some (.inr (.inr (0, rs))), some (.inr (.inl (3, _))) => if am_inb i rs.length = true ∧ k < 1000 ∧ v < 1000 then some (none, ls, r, mem.set k (.inr (.inr (0, rs.set i.toNatClampNeg (some v))))) else none
      | _, _ => none)
    | _ => none)
  | .arraylength => (match st with
    | .ref k :: r => (match am_look cst mem k with | some (.inl (_, xs)) => some (none, ls, .int (Int32.ofNat xs.length) :: r, mem) | _ => none)
    | _ => none)
  | .getfield f => (match st with
    | .ref k :: r => (match am_look cst mem k with | some (.inr (.inl (ci, fs))) => if ci = f / 100 then (match fs[f % 100]? with | some v => some (none, ls, v :: r, mem) | none => none) else none | _ => none)
    | _ => none)
  | .putfield f => (match st with
    | v :: .ref k :: r => (match mem[k]?, (ft (f / 100))[f % 100]? with
      | some (.inr (.inl (ci, fs))), some (ty, _, _) => if ci = f / 100 ∧ k < 1000 ∧ f % 100 < fs.length ∧ narrow ty v = v ∧ fits ty v = true then some (none, ls, r, mem.set k (.inr (.inl (ci, fs.set (f % 100) v)))) else none
      | _, _ => none)
    | _ => none)
  | .monitorenter => (match st with | .ref _ :: r => if (r.map fun v => v.category).sum ≤ 8 then some (none, ls, r, mem) else none | _ => none)
  | .monitorexit => (match st with | .int n :: .int i :: r => if (¬ i < 0 ∧ i < n) ∧ (r.map fun v => v.category).sum ≤ 8 then some (none, ls, r, mem) else none | _ => none)
  | .new ci => if mem.length < 1000 then some (none, ls, .ref mem.length :: st, mem ++ [.inr (.inl (ci, (ft ci).map fun q => q.2.2))]) else none
  | .newarray a => (match st, am_atag a with
    | .int n :: r, some t => if ¬ n < 0 ∧ n.toNatClampNeg ≤ 1000 ∧ mem.length < 1000 then some (none, ls, .ref mem.length :: r, mem ++ [.inl (t, List.replicate n.toNatClampNeg 0)]) else none
    | _, _ => none)
  | .anewarray _ => (match st with
    | .int n :: r => if ¬ n < 0 ∧ n.toNatClampNeg ≤ 1000 ∧ mem.length < 1000 then some (none, ls, .ref mem.length :: r, mem ++ [.inr (.inr (0, List.replicate n.toNatClampNeg none))]) else none
    | _ => none)
  | .multianewarray _ _ => (match st with
    | .int k :: .int n :: r => if ¬ n < 0 ∧ ¬ k < 0 ∧ n.toNatClampNeg ≤ 1000 ∧ k.toNatClampNeg ≤ 1000 ∧ mem.length + n.toNatClampNeg < 1000 then
        some (none, ls, .ref mem.length :: r, mem ++ (.inr (.inr (1, (List.range n.toNatClampNeg).map fun j => some (mem.length + 1 + j))) :: List.replicate n.toNatClampNeg (.inl (0, List.replicate k.toNatClampNeg 0)))) else none
    | _ => none)
  | .invokedynamic _ => (match st with
    | .int n :: .int dp :: .ref d :: .int sp :: .ref a :: r => (match mem[a]?, mem[d]? with
      | some (.inl (0, f)), some (.inl (0, g)) => if ¬ n < 0 ∧ ¬ dp < 0 ∧ ¬ sp < 0 ∧ sp.toNatClampNeg + n.toNatClampNeg ≤ f.length ∧ dp.toNatClampNeg + n.toNatClampNeg ≤ g.length ∧ a < 1000 ∧ d < 1000 ∧ (r.map fun v => v.category).sum ≤ 8 then
          some (none, ls, r, mem.set d (.inl (0, am_cpyl f g sp.toNatClampNeg dp.toNatClampNeg n.toNatClampNeg))) else none
      | _, _ => none)
    | _ => none)
  | op => (am_sop op st).map fun st' => (none, ls, st', mem)
noncomputable def am_rok (rt : Nat) (v : Value) : Bool := match rt, v with
  | 1, .int _ => true
  | 2, .int x => decide (x = 0) || decide (x = 1)
  | 3, .long _ => true
  | 4, .ref _ => true
  | 5, .int x => decide (narrow .char (.int x) = .int x)
  | 6, .int x => decide (narrow .byte (.int x) = .int x)
  | _, _ => false
noncomputable def am_place : List Value → am_L
  | [] => []
  | v :: r => if v.category = 2 then some v :: none :: am_place r else some v :: am_place r
noncomputable def am_args (vs : List Value) (ml : Nat) : am_L := am_place vs ++ List.replicate (ml - (am_place vs).length) none
/-- the receiver is an object of the method's class -/
noncomputable def am_recv (cst mem : List am_E) (rc : Option Nat) (vs : List Value) : Bool := match rc with
  | none => true
  | some ci => match vs with
    | .ref k :: _ => (match am_look cst mem k with | some (.inr (.inl (cj, _))) => decide (cj = ci) | _ => false)
    | _ => false
noncomputable def am_exec (ft : am_FT) (P : Nat → Option am_M) (cst : List am_E) : Nat → Nat → Nat → Nat → am_L → List Value → List am_E → Option (Option Value × List am_E)
  | 0, _, _, _, _, _, _ => none
  | n + 1, d, mid, pc, ls, st, mem =>
    match P mid with
    | none => none
    | some M =>
      match M.1[pc]? with
      | none => none
      | some op =>
        match op with
        | .ireturn => (match st with | [v] => if am_rok M.2.2.2.2 v = true then some (some v, mem) else none | _ => none)
        | .return_ => (match st with | [] => if M.2.2.2.2 = 0 then some (none, mem) else none | _ => none)
        | .invokestatic k =>
          (match d, P k with
          | d' + 1, some C =>
            if C.2.2.1 ≤ st.length ∧ ((st.drop C.2.2.1).map fun v => v.category).sum ≤ 8 ∧ (am_place (st.take C.2.2.1).reverse).length ≤ C.2.1 ∧ am_recv cst mem C.2.2.2.1 (st.take C.2.2.1).reverse = true then
              (match am_exec ft P cst n d' k 0 (am_args (st.take C.2.2.1).reverse C.2.1) [] mem with
              | some (r, mem') => am_exec ft P cst n d mid (pc + 1) ls (r.toList ++ st.drop C.2.2.1) mem'
              | none => none)
            else none
          | _, _ => none)
        | op =>
          (match am_step ft cst op ls st mem with
          | some (j, ls', st', mem') => am_exec ft P cst n d mid (j.getD (pc + 1)) ls' st' mem'
          | none => none)
