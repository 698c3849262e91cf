/-! THE ABSTRACT MACHINE: a world of cells that are numbered in the order in which they are made; what they hold is five functions; a method's steps by its resolved instructions -/
abbrev tw_S : Type := (Nat → Int32) × (Nat → Int64) × (Nat → Nat → Nat) × (Nat → Nat → Int32) × (Nat → Nat → Int64) × Nat
abbrev tw_Ls : Type := List (Option Value)
abbrev tw_C : Type := Nat × tw_Ls × List Value × tw_S
def tw_m0 : tw_M := (yL_law, code, 0, none, 0, 0, 0, [])
def tw_mt (y : Nat) : tw_M := tw_mtl.getD y tw_m0
def tw_nm (y : Nat) : MethodName := (tw_mt y).1
def tw_by (y : Nat) : ByteArray := (tw_mt y).2.1
def tw_ml (y : Nat) : Nat := (tw_mt y).2.2.1
def tw_rt (y : Nat) : Option FieldType := (tw_mt y).2.2.2.1
def tw_na (y : Nat) : Nat := (tw_mt y).2.2.2.2.1
def tw_fr (y : Nat) : Nat := (tw_mt y).2.2.2.2.2.1
def tw_lo (y : Nat) : Nat := (tw_mt y).2.2.2.2.2.2.1
def tw_code (y : Nat) : List tw_E := (tw_mt y).2.2.2.2.2.2.2
def tw_sh (k : Nat) : Nat × Nat := tw_shl.getD k (99, 0)
def tw_tc (c j : Nat) : Nat := (tw_tcl.getD c []).getD j 0
/-- locals -/
def tw_get (ls : tw_Ls) (i : Nat) : Option Value := match ls[i]? with
  | some (some v) => some v
  | _ => none
def tw_clr (ls : tw_Ls) (i : Nat) : tw_Ls := match i with
  | 0 => ls
  | j + 1 => match ls[j]? with
    | some (some v) => if v.category = 2 then ls.set j none else ls
    | _ => ls
def tw_set1 (ls : tw_Ls) (i : Nat) (v : Value) : Option tw_Ls := if i < ls.length then some ((tw_clr ls i).set i (some v)) else none
def tw_set2 (ls : tw_Ls) (i : Nat) (v : Value) : Option tw_Ls := if i + 1 < ls.length then some (((tw_clr ls i).set i (some v)).set (i + 1) none) else none
def tw_al : List Value → tw_Ls
  | [] => []
  | v :: r => if v.category = 2 then some v :: none :: tw_al r else some v :: tw_al r
def tw_args (as : List Value) (n : Nat) : tw_Ls := tw_al as ++ List.replicate (n - (tw_al as).length) none
/-- references that are there -/
def tw_vok1 (nc : Nat) (v : Value) : Bool := match v with
  | .ref k => decide (k < nc) || decide (900 ≤ k)
  | _ => true
def tw_vok (nc : Nat) (ls : tw_Ls) (st : List Value) : Bool := ls.all (fun o => match o with
  | some v => tw_vok1 nc v
  | none => true) && st.all (tw_vok1 nc)
def tw_rf (r : Nat) : Value := match r with
  | 0 => .null
  | k + 1 => .ref k
def tw_fv (σ : tw_S) (k b t : Nat) : Value := match t with
  | 0 => .int (σ.1 (100 * k + b))
  | 1 => .long (σ.2.1 (100 * k + b))
  | _ => tw_rf (σ.2.2.1 k b)
def tw_put (σ : tw_S) (k b t : Nat) (z : Int32) (x : Value) : Option tw_S := match σ with
  | (I, L, P, A, J, nc) => match t, x with
    | 0, .int x => if z = 0 ∨ x = 0 ∨ x = 1 then some (upd I (100 * k + b) x, L, P, A, J, nc) else none
    | 1, .long x => some (I, vp_updL L (100 * k + b) x, P, A, J, nc)
    | 2, .ref q => if q < nc then some (I, L, va_up P k (va_up (P k) b (q + 1)), A, J, nc) else none
    | _, _ => none
def tw_lenS (k : Nat) : Nat := (tw_byt.getD (k - 1000) []).length
def tw_chr (k j : Nat) : Int32 := (tw_byt.getD (k - 1000) []).getD j 0
def tw_out1 (i : Int32) (n : Nat) : Prop := i < 0 ∨ n ≤ i.toNatClampNeg
def tw_lenA (σ : tw_S) (k : Nat) : Option Int32 := if k < σ.2.2.2.2.2 ∧ 10 ≤ (tw_sh k).1 ∧ (tw_sh k).1 ≤ 12 then some (Int32.ofNat (tw_sh k).2) else if k = 900 then some (σ.1 90000) else none
def tw_ald (σ : tw_S) (kd k : Nat) (i : Int32) : Option Int32 :=
  if k < σ.2.2.2.2.2 ∧ (tw_sh k).1 = kd then (if i < 0 ∨ (tw_sh k).2 ≤ i.toNatClampNeg then none else some (σ.2.2.2.1 k i.toNatClampNeg))
  else if k = 900 ∧ kd = 11 then (if i < 0 ∨ (σ.1 90000).toNatClampNeg ≤ i.toNatClampNeg then none else some (σ.2.2.2.1 900 i.toNatClampNeg)) else none
def tw_ast (σ : tw_S) (kd k : Nat) (i : Int32) (x : Int32) : Option tw_S := match σ with
  | (I, L, P, A, J, nc) => if k < nc ∧ (tw_sh k).1 = kd then (if i < 0 ∨ (tw_sh k).2 ≤ i.toNatClampNeg then none else some (I, L, P, va_up A k (upd (A k) i.toNatClampNeg x), J, nc)) else none
def tw_new (σ : tw_S) (kd : Nat) : Option tw_S := match σ with
  | (I, L, P, A, J, nc) => if nc < 900 ∧ (tw_sh nc).1 = kd ∧ kd < 10 then some (fun q => if 100 * nc ≤ q ∧ q < 100 * nc + 100 then 0 else I q, fun q => if 100 * nc ≤ q ∧ q < 100 * nc + 100 then 0 else L q, va_up P nc (fun _ => 0), A, J, nc + 1) else none
def tw_newa (σ : tw_S) (kd : Nat) (n : Int32) : Option tw_S := match σ with
  | (I, L, P, A, J, nc) => if nc < 900 ∧ (tw_sh nc).1 = kd ∧ ¬ n < 0 ∧ n.toNatClampNeg = (tw_sh nc).2 then (match kd with
    | 10 => some (I, L, va_up P nc (fun _ => 0), va_up A nc (fun _ => 0), J, nc + 1)
    | 11 => some (I, L, va_up P nc (fun _ => 0), va_up A nc (fun _ => 0), J, nc + 1)
    | 12 => some (I, L, va_up P nc (fun _ => 0), A, va_up J nc (fun _ => 0), nc + 1)
    | _ => none) else none
def tw_copy (σ : tw_S) (s d : Nat) (sp dp n : Int32) : Option tw_S := match σ with
  | (I, L, P, A, J, nc) => if s < nc ∧ (tw_sh s).1 = 11 ∧ d < nc ∧ (tw_sh d).1 = 11 ∧ ¬ sp < 0 ∧ ¬ dp < 0 ∧ ¬ n < 0 ∧ sp.toNatClampNeg + n.toNatClampNeg ≤ (tw_sh s).2 ∧ dp.toNatClampNeg + n.toNatClampNeg ≤ (tw_sh d).2 then some (I, L, P, va_up A d (va_cpy (A s) (A d) sp.toNatClampNeg dp.toNatClampNeg n.toNatClampNeg), J, nc) else none
/-- where a switch goes: places of the code, by the places of its bytes -/
def tw_ix (cd : List tw_E) (pc : Nat) : Nat := cd.findIdx (fun e => e.1 == pc)
/-- one instruction that is no call and no return; k is its place in the code -/
def tw_s1 (cd : List tw_E) (e : tw_E) (k : Nat) (ls : tw_Ls) (st : List Value) (σ : tw_S) : Option tw_C :=
  match e with
  | (pc, i, _, a, b, t, v, w) => match i, st with
    | .iconst _, st => some (k + 1, ls, .int v :: st, σ)
    | .bipush _, st => some (k + 1, ls, .int v :: st, σ)
    | .sipush _, st => some (k + 1, ls, .int v :: st, σ)
    | .ldc _, st => if t = 9 then some (k + 1, ls, .ref a :: st, σ) else some (k + 1, ls, .int v :: st, σ)
    | .ldc_w _, st => if t = 0 then some (k + 1, ls, .int v :: st, σ) else none
    | .ldc2_w _, st => some (k + 1, ls, .long w :: st, σ)
    | .lconst _, st => some (k + 1, ls, .long w :: st, σ)
    | .iload j, st => (match tw_get ls j with
      | some (.int x) => some (k + 1, ls, .int x :: st, σ)
      | _ => none)
    | .iload_n j, st => (match tw_get ls j.val with
      | some (.int x) => some (k + 1, ls, .int x :: st, σ)
      | _ => none)
    | .lload j, st => (match tw_get ls j with
      | some (.long x) => some (k + 1, ls, .long x :: st, σ)
      | _ => none)
    | .lload_n j, st => (match tw_get ls j.val with
      | some (.long x) => some (k + 1, ls, .long x :: st, σ)
      | _ => none)
    | .aload_n j, st => (match tw_get ls j.val with
      | some (.ref x) => some (k + 1, ls, .ref x :: st, σ)
      | _ => none)
    | .istore j, .int x :: r => (tw_set1 ls j (.int x)).map (fun l => (k + 1, l, r, σ))
    | .istore_n j, .int x :: r => (tw_set1 ls j.val (.int x)).map (fun l => (k + 1, l, r, σ))
    | .lstore j, .long x :: r => (tw_set2 ls j (.long x)).map (fun l => (k + 1, l, r, σ))
    | .lstore_n j, .long x :: r => (tw_set2 ls j.val (.long x)).map (fun l => (k + 1, l, r, σ))
    | .astore_n j, .ref x :: r => (tw_set1 ls j.val (.ref x)).map (fun l => (k + 1, l, r, σ))
    | .iinc j _, st => (match tw_get ls j with
      | some (.int x) => (tw_set1 ls j (.int (x + v))).map (fun l => (k + 1, l, st, σ))
      | _ => none)
    | .iadd, .int y :: .int x :: r => some (k + 1, ls, .int (x + y) :: r, σ)
    | .isub, .int y :: .int x :: r => some (k + 1, ls, .int (x - y) :: r, σ)
    | .imul, .int y :: .int x :: r => some (k + 1, ls, .int (x * y) :: r, σ)
    | .iand, .int y :: .int x :: r => some (k + 1, ls, .int (x &&& y) :: r, σ)
    | .ior, .int y :: .int x :: r => some (k + 1, ls, .int (x ||| y) :: r, σ)
    | .ixor, .int y :: .int x :: r => some (k + 1, ls, .int (x ^^^ y) :: r, σ)
    | .ishl, .int y :: .int x :: r => some (k + 1, ls, .int (x <<< (y &&& 31)) :: r, σ)
    | .ishr, .int y :: .int x :: r => some (k + 1, ls, .int (x >>> (y &&& 31)) :: r, σ)
    | .iushr, .int y :: .int x :: r => some (k + 1, ls, .int ((x.toUInt32 >>> (y.toUInt32 &&& Int32.toUInt32 31)).toInt32) :: r, σ)
    | .idiv, .int y :: .int x :: r => if y = 0 then none else some (k + 1, ls, .int (x / y) :: r, σ)
    | .irem, .int y :: .int x :: r => if y = 0 then none else some (k + 1, ls, .int (x - x / y * y) :: r, σ)
    | .ineg, .int x :: r => some (k + 1, ls, .int (-x) :: r, σ)
    | .ladd, .long y :: .long x :: r => some (k + 1, ls, .long (x + y) :: r, σ)
    | .lsub, .long y :: .long x :: r => some (k + 1, ls, .long (x - y) :: r, σ)
    | .lmul, .long y :: .long x :: r => some (k + 1, ls, .long (x * y) :: r, σ)
    | .ldiv, .long y :: .long x :: r => if y = 0 then none else some (k + 1, ls, .long (x / y) :: r, σ)
    | .lrem, .long y :: .long x :: r => if y = 0 then none else some (k + 1, ls, .long (x - x / y * y) :: r, σ)
    | .lshl, .int y :: .long x :: r => some (k + 1, ls, .long (x <<< (y.toInt64 &&& 63)) :: r, σ)
    | .lcmp, .long y :: .long x :: r => some (k + 1, ls, .int (lg_cmp x y) :: r, σ)
    | .i2l, .int x :: r => some (k + 1, ls, .long x.toInt64 :: r, σ)
    | .l2i, .long x :: r => some (k + 1, ls, .int x.toInt32 :: r, σ)
    | .i2b, .int x :: r => some (k + 1, ls, .int x.toInt8.toInt32 :: r, σ)
    | .dup, x :: r => if x.category = 1 then some (k + 1, ls, x :: x :: r, σ) else none
    | .dup2, x :: y :: r => if x.category = 1 ∧ y.category = 1 then some (k + 1, ls, x :: y :: x :: y :: r, σ) else none
    | .pop, x :: r => if x.category = 1 then some (k + 1, ls, r, σ) else none
    | .goto _, st => some (a, ls, st, σ)
    | .ifCond .eq _, .int x :: r => if x = 0 then some (a, ls, r, σ) else some (k + 1, ls, r, σ)
    | .ifCond .ne _, .int x :: r => if x = 0 then some (k + 1, ls, r, σ) else some (a, ls, r, σ)
    | .ifCond .lt _, .int x :: r => if x < 0 then some (a, ls, r, σ) else some (k + 1, ls, r, σ)
    | .ifCond .ge _, .int x :: r => if 0 ≤ x then some (a, ls, r, σ) else some (k + 1, ls, r, σ)
    | .ifCond .gt _, .int x :: r => if 0 < x then some (a, ls, r, σ) else some (k + 1, ls, r, σ)
    | .ifCond .le _, .int x :: r => if x ≤ 0 then some (a, ls, r, σ) else some (k + 1, ls, r, σ)
    | .if_icmp .eq _, .int y :: .int x :: r => if x = y then some (a, ls, r, σ) else some (k + 1, ls, r, σ)
    | .if_icmp .ne _, .int y :: .int x :: r => if x = y then some (k + 1, ls, r, σ) else some (a, ls, r, σ)
    | .if_icmp .lt _, .int y :: .int x :: r => if x < y then some (a, ls, r, σ) else some (k + 1, ls, r, σ)
    | .if_icmp .ge _, .int y :: .int x :: r => if y ≤ x then some (a, ls, r, σ) else some (k + 1, ls, r, σ)
    | .if_icmp .gt _, .int y :: .int x :: r => if y < x then some (a, ls, r, σ) else some (k + 1, ls, r, σ)
    | .if_icmp .le _, .int y :: .int x :: r => if x ≤ y then some (a, ls, r, σ) else some (k + 1, ls, r, σ)
    | .ifnull _, .ref _ :: r => some (k + 1, ls, r, σ)
    | .ifnull _, .null :: r => some (a, ls, r, σ)
    | .getfield _, .ref q :: r => if q < σ.2.2.2.2.2 ∧ (tw_sh q).1 = a then some (k + 1, ls, tw_fv σ q b t :: r, σ) else none
    | .putfield _, x :: .ref q :: r => if q < σ.2.2.2.2.2 ∧ (tw_sh q).1 = a then (tw_put σ q b t v x).map (fun s => (k + 1, ls, r, s)) else none
    | .iaload, .int i :: .ref q :: r => (tw_ald σ 11 q i).map (fun x => (k + 1, ls, .int x :: r, σ))
    | .baload, .int i :: .ref q :: r => (tw_ald σ 10 q i).map (fun x => (k + 1, ls, .int x :: r, σ))
    | .iastore, .int x :: .int i :: .ref q :: r => (tw_ast σ 11 q i x).map (fun s => (k + 1, ls, r, s))
    | .bastore, .int x :: .int i :: .ref q :: r => (tw_ast σ 10 q i (vp_nar .byte x)).map (fun s => (k + 1, ls, r, s))
    | .laload, .int i :: .ref q :: r => (match σ with
      | (I, L, P, A, J, nc) => if q < nc ∧ (tw_sh q).1 = 12 then (if i < 0 ∨ (tw_sh q).2 ≤ i.toNatClampNeg then none else some (k + 1, ls, .long (J q i.toNatClampNeg) :: r, (I, L, P, A, J, nc))) else none)
    | .lastore, .long x :: .int i :: .ref q :: r => (match σ with
      | (I, L, P, A, J, nc) => if q < nc ∧ (tw_sh q).1 = 12 then (if i < 0 ∨ (tw_sh q).2 ≤ i.toNatClampNeg then none else some (k + 1, ls, r, (I, L, P, A, va_up J q (vp_updL (J q) i.toNatClampNeg x), nc))) else none)
    | .arraylength, .ref q :: r => (tw_lenA σ q).map (fun x => (k + 1, ls, .int x :: r, σ))
    | .newarray _, .int n :: r => if tw_vok σ.2.2.2.2.2 ls r = true then (tw_newa σ t n).map (fun s => (k + 1, ls, .ref σ.2.2.2.2.2 :: r, s)) else none
    | .new _, r => if t = 0 ∧ tw_vok σ.2.2.2.2.2 ls r = true then (tw_new σ a).map (fun s => (k + 1, ls, .ref σ.2.2.2.2.2 :: r, s)) else none
    | .lookupswitch d ps, .int x :: r => some (tw_ix cd ((pc : Int) + Op.lookupswitch.offset ps.toList d x.toInt).toNat, ls, r, σ)
    | .tableswitch d lo hi offs, .int x :: r => if x.toInt < lo ∨ hi < x.toInt then some (tw_ix cd ((pc : Int) + d).toNat, ls, r, σ) else (match offs[(x.toInt - lo).toNat]? with
      | some o => some (tw_ix cd ((pc : Int) + o).toNat, ls, r, σ)
      | none => none)
    | .invokespecial _, .ref _ :: r => if t = 3 ∧ (r.map Value.category).sum ≤ 8 then some (k + 1, ls, r, σ) else none
    | .invokevirtual _, .ref q :: r => if t = 4 ∧ 1000 ≤ q ∧ q < 1019 ∧ (r.map Value.category).sum ≤ 8 then some (k + 1, ls, .int (Int32.ofNat (tw_lenS q)) :: r, σ) else none
    | .invokevirtual _, .int i :: .ref q :: r => if t = 5 ∧ 1000 ≤ q ∧ q < 1019 ∧ (r.map Value.category).sum ≤ 8 then (if i < 0 ∨ tw_lenS q ≤ i.toNatClampNeg then none else some (k + 1, ls, .int (tw_chr q i.toNatClampNeg) :: r, σ)) else none
    | .invokestatic _, .int z :: r => if t = 4 ∧ (r.map Value.category).sum ≤ 8 then some (k + 1, ls, .int (if 0 ≤ z then z else 0 - z) :: r, σ)
      else if t = 5 then (match r with
        | .int x :: r2 => if (r2.map Value.category).sum ≤ 8 then some (k + 1, ls, .int (if x < z then z else x) :: r2, σ) else none
        | _ => none)
      else if t = 6 then (match r with
        | .int dp :: .ref d :: .int sp :: .ref s :: r2 => if (r2.map Value.category).sum ≤ 8 then (tw_copy σ s d sp dp z).map (fun u => (k + 1, ls, r2, u)) else none
        | _ => none)
      else none
    | _, _ => none
/-- what ends a run: a return, or the making of an exception -/
def tw_end (e : tw_E) : Bool := match e.2.1 with
  | .ireturn => true
  | .lreturn => true
  | .return_ => true
  | .new _ => e.2.2.2.2.2.1 == 99
  | _ => false
def tw_call (e : tw_E) : Bool := match e.2.1 with
  | .invokestatic _ => e.2.2.2.2.2.1 == 0
  | .invokevirtual _ => e.2.2.2.2.2.1 % 10 == 1
  | .invokespecial _ => e.2.2.2.2.2.1 % 10 == 2 || e.2.2.2.2.2.1 % 10 == 8
  | _ => false
/-- a call's arguments, and what stays on the stack -/
def tw_pre (e : tw_E) (st : List Value) (nc : Nat) : Option (List Value × List Value) := match e with
  | (_, _, _, _, b, t, _, _) =>
    if t = 0 then (if b ≤ st.length ∧ ((st.drop b).map Value.category).sum ≤ 8 then some ((st.take b).reverse, st.drop b) else none)
    else (if ((st.drop (b + 1)).map Value.category).sum ≤ 8 then (match st[b]? with
      | some (.ref q) => if q < nc ∧ (tw_sh q).1 = t / 10 then some (.ref q :: (st.take b).reverse, st.drop (b + 1)) else none
      | _ => none) else none)
/-- what a method's end hands over -/
def tw_out (y : Nat) (c : tw_C) : Option (Option Value × tw_S) := match c with
  | (k, _, st, σ) => match (tw_code y)[k]? with
    | some (_, .ireturn, _) => (match st, tw_rt y with
      | [.int v], some .int => some (some (.int v), σ)
      | [.int v], some .boolean => if v = 0 ∨ v = 1 then some (some (.int v), σ) else none
      | _, _ => none)
    | some (_, .lreturn, _) => (match st, tw_rt y with
      | [.long v], some .long => some (some (.long v), σ)
      | _, _ => none)
    | some (_, .return_, _) => (match st, tw_rt y with
      | [], none => some (none, σ)
      | _, _ => none)
    | _ => none
def tw_run : Nat → Nat → tw_C → Option tw_C
  | 0, _, _ => none
  | n + 1, y, (k, ls, st, σ) => match (tw_code y)[k]? with
    | none => none
    | some e => if tw_end e = true then some (k, ls, st, σ)
      else if tw_call e = true then (match tw_pre e st σ.2.2.2.2.2 with
        | none => none
        | some (as, rest) => if (tw_al as).length ≤ tw_ml e.2.2.2.1 then (match tw_run n e.2.2.2.1 (0, tw_args as (tw_ml e.2.2.2.1), [], σ) with
          | none => none
          | some c => (match tw_out e.2.2.2.1 c with
            | none => none
            | some (r, σ') => if σ'.2.2.2.2.2 = σ.2.2.2.2.2 ∨ tw_vok σ.2.2.2.2.2 ls rest = true then tw_run n y (k + 1, ls, r.toList ++ rest, σ') else none)) else none)
      else (match tw_s1 (tw_code y) e k ls st σ with
        | none => none
        | some c => tw_run n y c)
