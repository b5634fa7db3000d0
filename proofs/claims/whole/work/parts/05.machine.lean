/-! THE SMALL MACHINE: runs the decoded code over worlds that are plain data: a world is a list of cells, a reference is a place in it (from 1000001 on: the text of the class, its bytes, the formatter, the script) -/
abbrev sm_E : Type := (Nat × List Int32) ⊕ (List Int64 ⊕ (Nat × List Value))
abbrev sm_W : Type := List sm_E
abbrev sm_L : Type := List (Option Value)
def sm_text : List Int32 := ("i0,1,0,2;i0,3,0,1;i1,1,0,0;i2,0,1,3;i2,2,5,1;i2,0,4,0;i3,3,0,4;i0,0,0,2;b2;b3;d4;m6;h5;s3;".toList.map fun ch => Int32.ofNat ch.toNat)
def sm_ix {α : Type} (l : List α) (i : Int32) : Option α := if i < 0 then none else l[i.toNatClampNeg]?
def sm_nl (L : sm_L) (i : Nat) : Bool := match i with
  | 0 => true
  | k + 1 => match L[k]? with
    | some (some v) => v.category != 2
    | _ => true
def sm_st1 (ml : Nat) (L : sm_L) (i : Nat) (v : Value) : Option sm_L := if i < ml ∧ sm_nl L i = true then some (L.set i (some v)) else none
def sm_st2 (ml : Nat) (L : sm_L) (i : Nat) (v : Value) : Option sm_L := if i + 1 < ml ∧ sm_nl L i = true then some ((L.set i (some v)).set (i + 1) none) else none
def sm_cnd (c : Jvm.ClassFile.Cond) (x y : Int32) : Bool := match c with
  | .eq => decide (x = y)
  | .ne => decide (¬ x = y)
  | .lt => decide (x < y)
  | .ge => decide (y ≤ x)
  | .gt => decide (y < x)
  | .le => decide (x ≤ y)
/-- instructions of one byte that touch the stack alone -/
def sm_pure (i : Instr) (st : List Value) : Option (List Value) := match i with
  | .iadd => match st with | .int y :: .int x :: r => some (.int (x + y) :: r) | _ => none
  | .isub => match st with | .int y :: .int x :: r => some (.int (x - y) :: r) | _ => none
  | .imul => match st with | .int y :: .int x :: r => some (.int (x * y) :: r) | _ => none
  | .iand => match st with | .int y :: .int x :: r => some (.int (x &&& y) :: r) | _ => none
  | .ior => match st with | .int y :: .int x :: r => some (.int (x ||| y) :: r) | _ => none
  | .ixor => match st with | .int y :: .int x :: r => some (.int (x ^^^ y) :: r) | _ => none
  | .ishl => match st with | .int y :: .int x :: r => some (.int (x <<< (y &&& 31)) :: r) | _ => none
  | .ishr => match st with | .int y :: .int x :: r => some (.int (x >>> (y &&& 31)) :: r) | _ => none
  | .iushr => match st with | .int y :: .int x :: r => some (.int (x.toUInt32 >>> (y.toUInt32 &&& Int32.toUInt32 31)).toInt32 :: r) | _ => none
  | .idiv => match st with | .int y :: .int x :: r => if y = 0 then none else some (.int (x / y) :: r) | _ => none
  | .irem => match st with | .int y :: .int x :: r => if y = 0 then none else some (.int (x - x / y * y) :: r) | _ => none
  | .ladd => match st with | .long y :: .long x :: r => some (.long (x + y) :: r) | _ => none
  | .lsub => match st with | .long y :: .long x :: r => some (.long (x - y) :: r) | _ => none
  | .lmul => match st with | .long y :: .long x :: r => some (.long (x * y) :: r) | _ => none
  | .land => match st with | .long y :: .long x :: r => some (.long (x &&& y) :: r) | _ => none
  | .lor => match st with | .long y :: .long x :: r => some (.long (x ||| y) :: r) | _ => none
  | .lxor => match st with | .long y :: .long x :: r => some (.long (x ^^^ y) :: r) | _ => none
  | .lrem => match st with | .long y :: .long x :: r => if y = 0 then none else some (.long (x - x / y * y) :: r) | _ => none
  | .lshl => match st with | .int y :: .long x :: r => some (.long (x <<< (y.toInt64 &&& 63)) :: r) | _ => none
  | .lushr => match st with | .int y :: .long x :: r => some (.long (x.toUInt64 >>> (y.toInt64.toUInt64 &&& Int64.toUInt64 63)).toInt64 :: r) | _ => none
  | .lcmp => match st with | .long y :: .long x :: r => some (.int (lg_cmp x y) :: r) | _ => none
  | .i2l => match st with | .int x :: r => some (.long x.toInt64 :: r) | _ => none
  | .l2i => match st with | .long x :: r => some (.int x.toInt32 :: r) | _ => none
  | .i2c => match st with | .int x :: r => some (.int (x.toUInt32 % 65536).toInt32 :: r) | _ => none
  | .dup => match st with | v :: r => if v.category = 1 then some (v :: v :: r) else none | _ => none
  | .dup2 => match st with | v :: w :: r => if v.category = 1 ∧ w.category = 1 then some (v :: w :: v :: w :: r) else none | _ => none
  | .pop => match st with | v :: r => if v.category = 1 then some r else none | _ => none
  | _ => none
abbrev sm_O : Type := Option (Nat × sm_L × List Value × sm_W)
/-- jumps -/
def sm_jump (e : sm_I) (pc : Nat) (L : sm_L) (st : List Value) (wd : sm_W) : sm_O := match e.1 with
  | .goto off => if (pc : Int) + off = (e.2.1 : Int) then some (e.2.1, L, st, wd) else none
  | .ifCond c off => match st with
    | .int x :: r => if (pc : Int) + off = (e.2.1 : Int) then some (if sm_cnd c x 0 = true then e.2.1 else pc + 3, L, r, wd) else none
    | _ => none
  | .if_icmp c off => match st with
    | .int y :: .int x :: r => if (pc : Int) + off = (e.2.1 : Int) then some (if sm_cnd c x y = true then e.2.1 else pc + 3, L, r, wd) else none
    | _ => none
  | .tableswitch d lo hi offs => match st with
    | .int x :: r => if x.toInt < lo ∨ hi < x.toInt then (if 0 ≤ (pc : Int) + d then some (((pc : Int) + d).toNat, L, r, wd) else none)
      else match offs[(x.toInt - lo).toNat]? with
        | some off => if 0 ≤ (pc : Int) + off then some (((pc : Int) + off).toNat, L, r, wd) else none
        | none => none
    | _ => none
  | .lookupswitch d ps => match st with
    | .int x :: r => if (ps.toList.zip (ps.toList.drop 1)).all (fun (a, next) => a.1 < next.1) = true ∧ 0 ≤ (pc : Int) + Op.lookupswitch.offset ps.toList d x.toInt then some (((pc : Int) + Op.lookupswitch.offset ps.toList d x.toInt).toNat, L, r, wd) else none
    | _ => none
  | _ => none
/-- constants and locals -/
def sm_loc (ml : Nat) (e : sm_I) (pc : Nat) (L : sm_L) (st : List Value) (wd : sm_W) : sm_O := match e.1 with
  | .iconst n => some (pc + 1, L, .int (Int32.ofInt n) :: st, wd)
  | .bipush n => some (pc + 2, L, .int (Int8.ofInt n).toInt32 :: st, wd)
  | .sipush n => some (pc + 3, L, .int (Int16.ofInt n).toInt32 :: st, wd)
  | .lconst n => some (pc + 1, L, .long (Int64.ofNat (n : Nat)) :: st, wd)
  | .ldc _ => some (pc + 2, L, .ref 1000001 :: st, wd)
  | .ldc_w _ => some (pc + 3, L, (if e.2.2.2 = 0 then .ref 1000001 else .int (Int32.ofNat e.2.1)) :: st, wd)
  | .ldc2_w _ => some (pc + 3, L, .long (sm_lv64 e.2.1 e.2.2.1) :: st, wd)
  | .iload i => match L[i]? with | some (some (.int x)) => some (pc + 2, L, .int x :: st, wd) | _ => none
  | .iload_n i => match L[(i : Nat)]? with | some (some (.int x)) => some (pc + 1, L, .int x :: st, wd) | _ => none
  | .lload i => match L[i]? with | some (some (.long x)) => some (pc + 2, L, .long x :: st, wd) | _ => none
  | .lload_n i => match L[(i : Nat)]? with | some (some (.long x)) => some (pc + 1, L, .long x :: st, wd) | _ => none
  | .aload i => match L[i]? with | some (some (.ref x)) => if x = 1000003 then none else some (pc + 2, L, .ref x :: st, wd) | _ => none
  | .aload_n i => match L[(i : Nat)]? with | some (some (.ref x)) => if x = 1000003 then none else some (pc + 1, L, .ref x :: st, wd) | _ => none
  | .istore i => match st with | .int x :: r => (sm_st1 ml L i (.int x)).map (fun L' => (pc + 2, L', r, wd)) | _ => none
  | .istore_n i => match st with | .int x :: r => (sm_st1 ml L (i : Nat) (.int x)).map (fun L' => (pc + 1, L', r, wd)) | _ => none
  | .lstore i => match st with | .long x :: r => (sm_st2 ml L i (.long x)).map (fun L' => (pc + 2, L', r, wd)) | _ => none
  | .lstore_n i => match st with | .long x :: r => (sm_st2 ml L (i : Nat) (.long x)).map (fun L' => (pc + 1, L', r, wd)) | _ => none
  | .astore_n i => match st with | .ref x :: r => if x = 1000003 then none else (sm_st1 ml L (i : Nat) (.ref x)).map (fun L' => (pc + 1, L', r, wd)) | _ => none
  | .iinc i n => match L[i]? with | some (some (.int x)) => (sm_st1 ml L i (.int (x + Int32.ofInt n))).map (fun L' => (pc + 3, L', st, wd)) | _ => none
  | _ => none
/-- the default value of a field -/
def sm_df (ty : FieldType) : Value := defaultValue ty
/-- cells -/
def sm_mem (xs : List Int32) (d : Nat) (e : sm_I) (pc : Nat) (L : sm_L) (st : List Value) (wd : sm_W) : sm_O := match e.1 with
  | .getfield _ => match st with
    | .ref k :: r =>
      if e.2.1 = 100 then (if k = 1000001 then some (pc + 3, L, (if e.2.2.1 = 0 then .int 0 else .ref 1000002) :: r, wd) else none)
      else match wd[k]? with
        | some (.inr (.inr (ci, fs))) => if ci = e.2.1 then (match fs[e.2.2.1]? with
          | some v => some (pc + 3, L, v :: r, wd)
          | none => none) else none
        | _ => none
    | _ => none
  | .putfield _ => match st with
    | v :: .ref k :: r => match wd[k]? with
      | some (.inr (.inr (ci, fs))) => if ci = e.2.1 ∧ e.2.2.1 < fs.length ∧ narrow (sm_ty e.2.1 e.2.2.1) v = v ∧ fits (sm_ty e.2.1 e.2.2.1) v = true then some (pc + 3, L, r, wd.set k (.inr (.inr (ci, fs.set e.2.2.1 v)))) else none
      | _ => none
    | _ => none
  | .getstatic _ => if e.2.1 = 0 then some (pc + 3, L, .int 1 :: st, wd) else if e.2.1 = 1 then some (pc + 3, L, .ref 1000003 :: st, wd) else none
  | .iaload => match st with
    | .int i :: .ref k :: r => if k = 1000004 then (match sm_ix xs i with
        | some x => some (pc + 1, L, .int x :: r, wd)
        | none => none)
      else match wd[k]? with
        | some (.inl (0, l)) => (match sm_ix l i with
          | some x => some (pc + 1, L, .int x :: r, wd)
          | none => none)
        | _ => none
    | _ => none
  | .caload => match st with
    | .int i :: .ref k :: r => match wd[k]? with
      | some (.inl (1, l)) => (match sm_ix l i with
        | some x => some (pc + 1, L, .int x :: r, wd)
        | none => none)
      | _ => none
    | _ => none
  | .baload => match st with
    | .int i :: .ref k :: r => if k = 1000002 then (match sm_ix sm_text i with
        | some x => some (pc + 1, L, .int x :: r, wd)
        | none => none) else none
    | _ => none
  | .laload => match st with
    | .int i :: .ref k :: r => match wd[k]? with
      | some (.inr (.inl l)) => (match sm_ix l i with
        | some x => some (pc + 1, L, .long x :: r, wd)
        | none => none)
      | _ => none
    | _ => none
  | .iastore => match st with
    | .int x :: .int i :: .ref k :: r => match wd[k]? with
      | some (.inl (0, l)) => if i < 0 ∨ l.length ≤ i.toNatClampNeg then none else some (pc + 1, L, r, wd.set k (.inl (0, l.set i.toNatClampNeg x)))
      | _ => none
    | _ => none
  | .castore => match st with
    | .int x :: .int i :: .ref k :: r => match wd[k]? with
      | some (.inl (1, l)) => if i < 0 ∨ l.length ≤ i.toNatClampNeg then none else some (pc + 1, L, r, wd.set k (.inl (1, l.set i.toNatClampNeg (vp_nar .char x))))
      | _ => none
    | _ => none
  | .lastore => match st with
    | .long x :: .int i :: .ref k :: r => match wd[k]? with
      | some (.inr (.inl l)) => if i < 0 ∨ l.length ≤ i.toNatClampNeg then none else some (pc + 1, L, r, wd.set k (.inr (.inl (l.set i.toNatClampNeg x))))
      | _ => none
    | _ => none
  | .arraylength => match st with
    | .ref k :: r => if k = 1000002 then some (pc + 1, L, .int (Int32.ofNat sm_text.length) :: r, wd) else if k = 1000004 then some (pc + 1, L, .int (Int32.ofNat xs.length) :: r, wd)
      else match wd[k]? with
        | some (.inl (_, l)) => some (pc + 1, L, .int (Int32.ofNat l.length) :: r, wd)
        | some (.inr (.inl l)) => some (pc + 1, L, .int (Int32.ofNat l.length) :: r, wd)
        | _ => none
    | _ => none
  | .new _ => if e.2.1 < 8 ∧ wd.length < 1000000 then some (pc + 3, L, .ref wd.length :: st, wd ++ [.inr (.inr (e.2.1, (List.range (sm_nf e.2.1)).map (fun k => defaultValue (sm_ty e.2.1 k))))]) else none
  | .newarray _ => match st with
    | .int n :: r => if n < 0 ∨ 100000 < n.toNatClampNeg ∨ 1000000 ≤ wd.length then none
      else if e.2.1 = 2 then some (pc + 2, L, .ref wd.length :: r, wd ++ [.inr (.inl (List.replicate n.toNatClampNeg 0))])
      else some (pc + 2, L, .ref wd.length :: r, wd ++ [.inl (e.2.1, List.replicate n.toNatClampNeg 0)])
    | _ => none
  | .invokespecial _ => match st with
    | .ref k :: r => if e.2.1 = 9999 ∧ 1 ≤ d ∧ k < 1000000 ∧ (r.map fun v => v.category).sum ≤ 8 then some (pc + 3, L, r, wd) else none
    | _ => none
  | .invokestatic _ => match st with
    | .int y :: .int x :: r => if 1 ≤ d ∧ (r.map fun v => v.category).sum ≤ 8 then (if e.2.1 = 9997 then some (pc + 3, L, .int (if x < y then y else x) :: r, wd) else if e.2.1 = 9996 then some (pc + 3, L, .int (if y < x then y else x) :: r, wd) else none) else none
    | _ => none
  | _ => none
/-- which of the tables an instruction belongs to -/
def sm_cls (i : Instr) : Nat := match i with
  | .goto _ | .ifCond _ _ | .if_icmp _ _ | .tableswitch .. | .lookupswitch .. => 1
  | .iconst _ | .bipush _ | .sipush _ | .lconst _ | .ldc _ | .ldc_w _ | .ldc2_w _ | .iload _ | .iload_n _ | .lload _ | .lload_n _ | .aload _ | .aload_n _ | .istore _ | .istore_n _ | .lstore _ | .lstore_n _ | .astore_n _ | .iinc _ _ => 2
  | .getfield _ | .putfield _ | .getstatic _ | .iaload | .caload | .baload | .laload | .iastore | .castore | .lastore | .arraylength | .new _ | .newarray _ | .invokespecial _ | .invokestatic _ => 3
  | _ => 0
def sm_step (xs : List Int32) (d ml : Nat) (e : sm_I) (pc : Nat) (L : sm_L) (st : List Value) (wd : sm_W) : sm_O := match sm_cls e.1 with
  | 0 => (sm_pure e.1 st).map (fun st' => (pc + 1, L, st', wd))
  | 1 => sm_jump e pc L st wd
  | 2 => sm_loc ml e pc L st wd
  | _ => sm_mem xs d e pc L st wd
def sm_exp : List Value → sm_L
  | [] => []
  | v :: r => if v.category = 2 then some v :: none :: sm_exp r else some v :: sm_exp r
def sm_ent (ml : Nat) (as : List Value) : sm_L := sm_exp as ++ List.replicate (ml - (sm_exp as).length) none
/-- a call of a method of the tables: which -/
def sm_call (e : sm_I) : Bool := match e.1 with
  | .invokevirtual _ | .invokestatic _ | .invokespecial _ => decide (e.2.1 < sm_N)
  | _ => false
def sm_recv (j n : Nat) (st : List Value) (wd : sm_W) : Bool := match sm_kd j with
  | 0 => true
  | 1 => match st[n - 1]? with
    | some (.ref k) => (match wd[k]? with
      | some (.inr (.inr (ci, _))) => decide (ci = sm_ci j)
      | _ => false)
    | _ => false
  | 2 => match st[n - 1]? with
    | some (.ref k) => decide (k < 1000000)
    | _ => false
  | _ => match st[n - 1]? with
    | some (.ref k) => decide (k = 1000001)
    | _ => false
def sm_ret (j : Nat) (i : Instr) (st : List Value) : Option (Option Value) := match i with
  | .ireturn => match st with
    | [.int v] => (match sm_rt j with
      | some ty => if narrow ty (.int v) = .int v ∧ ty ≠ .long then some (some (.int v)) else none
      | none => none)
    | _ => none
  | .lreturn => match st with
    | [.long v] => if sm_rt j = some .long then some (some (.long v)) else none
    | _ => none
  | .return_ => match st with
    | [] => if sm_rt j = none then some none else none
    | _ => none
  | _ => none
def sm_push (r : Option Value) (st : List Value) : List Value := match r with
  | some v => v :: st
  | none => st
def sm_run (xs : List Int32) : Nat → Nat → Nat → Nat → sm_L → List Value → sm_W → Option (Option Value × sm_W)
  | 0, _, _, _, _, _, _ => none
  | f + 1, d, j, pc, L, st, wd => match sm_ic j pc with
    | none => none
    | some e => match sm_call e with
      | true => match d with
        | 0 => none
        | d' + 1 => if sm_recv e.2.1 e.2.2.1 st wd = true ∧ e.2.2.1 ≤ st.length ∧ (sm_exp (st.take e.2.2.1).reverse).length ≤ sm_ml e.2.1 ∧ ((st.drop e.2.2.1).map fun v => v.category).sum ≤ 8 then
            match sm_run xs f d' e.2.1 0 (sm_ent (sm_ml e.2.1) (st.take e.2.2.1).reverse) [] wd with
            | none => none
            | some q => sm_run xs f (d' + 1) j (pc + 3) L (sm_push q.1 (st.drop e.2.2.1)) q.2
          else none
      | false => match sm_ret j e.1 st with
        | some r => some (r, wd)
        | none => match sm_step xs d (sm_ml j) e pc L st wd with
          | none => none
          | some q => sm_run xs f d j q.1 q.2.1 q.2.2.1 q.2.2.2
