/-! what each instruction takes from the tables, and what is checked of it -/
def tw_cw (y : Nat) : Cond := .code (tw_nm y) (tw_by y) (tw_ml y) (tw_rt y)
def tw_cg (a : Nat) : vw_C := tw_cl.getD a (RX0, TX0, 0)
def tw_ew (own : String) (e : tw_E) : List Cond := match e with
  | (_, i, _, a, b, t, v, w) => match i with
    | .getfield x => [.fieldLink own x ((tw_cg a).2.1 b).1 ((tw_cg a).2.1 b).2.1 ((tw_cg a).2.1 b).2.2.1]
    | .putfield x => [.fieldLink own x ((tw_cg a).2.1 b).1 ((tw_cg a).2.1 b).2.1 ((tw_cg a).2.1 b).2.2.1]
    | .ldc x => if t = 9 then [] else [.constant own x v]
    | .ldc_w x => if t = 0 then [.constant own x v] else []
    | .ldc2_w x => [.constantLong own x w]
    | .new x => if t = 99 then [] else [.classLink own x (tw_cg a).1, .instantiable (tw_cg a).1 (tw_cg a).2.2, .initialized (tw_cg a).1]
    | .newarray ty => [.arrayClass (newarray.typeOf ty)]
    | .invokestatic x => if t = 0 then [.methodLink own x (tw_nm a), .static (tw_nm a), .initialized (tw_nm a).cls, tw_cw a] else if t = 4 then [.methodLink own x Lib.Math.abs.name, .static Lib.Math.abs.name, .initialized "java/lang/Math", .code Lib.Math.abs.name Lib.Math.abs.code 1 (some .int)]
      else if t = 5 then [.methodLink own x Lib.Math.max.name, .static Lib.Math.max.name, .initialized "java/lang/Math", .code Lib.Math.max.name Lib.Math.max.code 2 (some .int)]
      else if t = 6 then [.methodLink own x arraycopyName, .native arraycopyName, .static arraycopyName, .initialized "java/lang/System"] else []
    | .invokevirtual x => if t % 10 = 1 then [.methodLink own x (tw_nm a), .instanceMethod (tw_nm a), .selects (tw_nm a).cls (tw_nm a) (tw_nm a), .initialized (tw_nm a).cls, tw_cw a]
      else if t = 4 then [.methodLink own x yJ0_length_8abf5] else if t = 5 then [.methodLink own x yJ0_charAt_5068e] else []
    | .invokespecial x => if t = 3 then [.methodLink own x objectInit, .instanceMethod objectInit, .code objectInit ⟨#[0xb1]⟩ 1 none]
      else if t % 10 = 2 then [.methodLink own x (tw_nm a), .instanceMethod (tw_nm a), .initialized (tw_nm a).cls, tw_cw a]
      else if t % 10 = 8 then [.instanceMethod (tw_nm a), .initialized (tw_nm a).cls, tw_cw a] else []
    | _ => []
/-- the words of the JDK's methods on String constants -/
def tw_jdkW : List Cond := [.instanceMethod yJ0_length_8abf5, .selects RJ0 yJ0_length_8abf5 yJ0_length_8abf5, .initialized RJ0, .code yJ0_length_8abf5 cJ0_length_8abf5 1 (some .int), .fieldLink RJ0 9 "java/lang/String" "value" "[B", .methodLink RJ0 335 yJ0_coder_7d493, .instanceMethod yJ0_coder_7d493, .selects RJ0 yJ0_coder_7d493 yJ0_coder_7d493, .code yJ0_coder_7d493 cJ0_coder_7d493 1 (some .byte), .fieldLink RJ0 38 "java/lang/String" "COMPACT_STRINGS" "Z", .fieldLink RJ0 15 "java/lang/String" "code\x72" "B", .instanceMethod yJ0_charAt_5068e, .selects RJ0 yJ0_charAt_5068e yJ0_charAt_5068e, .code yJ0_charAt_5068e cJ0_charAt_5068e 2 (some .char), .methodLink RJ0 492 yJ0_isLatin1_aae02, .instanceMethod yJ0_isLatin1_aae02, .selects RJ0 yJ0_isLatin1_aae02 yJ0_isLatin1_aae02, .code yJ0_isLatin1_aae02 cJ0_isLatin1_aae02 1 (some .boolean), .methodLink RJ0 495 yJ1_charAt_3b067, .static yJ1_charAt_3b067, .initialized RJ1, .code yJ1_charAt_3b067 cJ1_charAt_3b067 2 (some .char), .methodLink RJ1 9 yJ0_checkIndex_df160, .static yJ0_checkIndex_df160, .code yJ0_checkIndex_df160 cJ0_checkIndex_df160 2 none, .fieldLink RJ0 1053 "jdk/internal/util/Preconditions" "SIOOBE_FORMATTE\x52" "Ljava/util/function/BiFunction;", .methodLink RJ0 1059 yJ3_checkIndex_8e157, .static yJ3_checkIndex_8e157, .initialized RJ3, .code yJ3_checkIndex_8e157 cJ3_checkIndex_8e157 3 (some .int)]
def tw_NM : Nat := 324
def tw_mW (y : Nat) : List Cond := (tw_code y).flatMap (tw_ew (tw_nm y).cls)
def tw_clW : List Cond := tw_cl.flatMap (fun q => u_ws q.1 q.2.1 q.2.2)
def tw_WALL : List Cond := tw_jdkW ++ (tw_clW ++ (List.range tw_NM).flatMap tw_mW)
def tw_ws (y : Nat) : List Cond := tw_cw y :: tw_WALL
def tw_pc (y k : Nat) : Nat := match (tw_code y)[k]? with
  | some e => e.1
  | none => 0
def tw_okT (y : Nat) (q : Int) : Bool := decide ((tw_pc y (tw_ix (tw_code y) q.toNat) : Int) = q)
/-- a callee: its room, its name, its arguments -/
def tw_okC (y a b n : Nat) : Bool := decide (a < tw_NM ∧ b = n ∧ tw_fr a + 1 ≤ tw_fr y ∧ 8 + (tw_ml a + 11) + tw_lo a ≤ tw_lo y ∧ (tw_nm a).cls ≠ "java/lang/invoke/MethodHandle" ∧ (tw_nm a).cls ≠ "java/lang/invoke/VarHandle" ∧ (parseMethodDescriptor (tw_nm a).desc).map (fun d => d.parameters.length) = some n)
def tw_tyo (a b : Nat) : FieldType := tw_tys.getD a tyX0 b
def tw_isR (ty : FieldType) : Bool := match ty with
  | .object _ => true
  | .array _ => true
  | _ => false
def tw_okI (y k pc : Nat) (i : Instr) (len a b t : Nat) (v : Int32) (w : Int64) : Bool := match i with
  | .iconst n => decide (len = 1 ∧ tw_pc y (k + 1) = pc + 1 ∧ Int32.ofInt n = v)
  | .bipush n => decide (len = 2 ∧ tw_pc y (k + 1) = pc + 2 ∧ (Int8.ofInt n).toInt32 = v)
  | .sipush n => decide (len = 3 ∧ tw_pc y (k + 1) = pc + 3 ∧ (Int16.ofInt n).toInt32 = v)
  | .ldc x => decide (len = 2 ∧ tw_pc y (k + 1) = pc + 2 ∧ (t = 9 → 1000 ≤ a ∧ a < 1019 ∧ ((tw_nm y).cls, x, a - 1000) ∈ tw_strs))
  | .ldc_w _ => decide (len = 3 ∧ tw_pc y (k + 1) = pc + 3)
  | .ldc2_w _ => decide (len = 3 ∧ tw_pc y (k + 1) = pc + 3)
  | .lconst n => decide (len = 1 ∧ tw_pc y (k + 1) = pc + 1 ∧ Int64.ofNat (n : Nat) = w)
  | .iload _ => decide (len = 2 ∧ tw_pc y (k + 1) = pc + 2)
  | .lload _ => decide (len = 2 ∧ tw_pc y (k + 1) = pc + 2)
  | .istore _ => decide (len = 2 ∧ tw_pc y (k + 1) = pc + 2)
  | .lstore _ => decide (len = 2 ∧ tw_pc y (k + 1) = pc + 2)
  | .iinc _ n => decide (len = 3 ∧ tw_pc y (k + 1) = pc + 3 ∧ Int32.ofInt n = v)
  | .goto off => decide (len = 3 ∧ (pc : Int) + off = (tw_pc y a : Int))
  | .ifCond _ off => decide (len = 3 ∧ tw_pc y (k + 1) = pc + 3 ∧ (pc : Int) + off = (tw_pc y a : Int))
  | .if_icmp _ off => decide (len = 3 ∧ tw_pc y (k + 1) = pc + 3 ∧ (pc : Int) + off = (tw_pc y a : Int))
  | .ifnull off => decide (len = 3 ∧ tw_pc y (k + 1) = pc + 3 ∧ (pc : Int) + off = (tw_pc y a : Int))
  | .getfield _ => decide (len = 3 ∧ tw_pc y (k + 1) = pc + 3 ∧ a < 10 ∧ b < (tw_cg a).2.2 ∧ t = tw_tc a b)
  | .putfield _ => decide (len = 3 ∧ tw_pc y (k + 1) = pc + 3 ∧ a < 10 ∧ b < (tw_cg a).2.2 ∧ t = tw_tc a b ∧ ((tw_cg a).2.1 b).2.2.2 = decide (w = 1) ∧ (w = 1 → ((tw_cg a).2.1 b).1 = (tw_nm y).cls ∧ (tw_nm y).name = "<init>") ∧ (t = 0 → v = 0 → tw_tyo a b = .int) ∧ (t = 0 → v ≠ 0 → tw_tyo a b = .boolean) ∧ (t = 1 → tw_tyo a b = .long) ∧ (t = 2 → tw_isR (tw_tyo a b) = true))
  | .newarray ty => decide (len = 2 ∧ tw_pc y (k + 1) = pc + 2 ∧ ((t = 10 ∧ ty = .byte) ∨ (t = 11 ∧ ty = .int) ∨ (t = 12 ∧ ty = .long)))
  | .new _ => decide (t = 99 ∨ (len = 3 ∧ tw_pc y (k + 1) = pc + 3 ∧ a < 10))
  | .lookupswitch d ps => (ps.toList.zip (ps.toList.drop 1)).all (fun (a, next) => a.1 < next.1) && (tw_okT y ((pc : Int) + d) && ps.toList.all (fun q => tw_okT y ((pc : Int) + q.2)))
  | .tableswitch d _ _ offs => tw_okT y ((pc : Int) + d) && offs.toList.all (fun o => tw_okT y ((pc : Int) + o))
  | .invokestatic _ => decide (t ≠ 0 ∧ t ≠ 4 ∧ t ≠ 5 ∧ t ≠ 6) || (decide (len = 3 ∧ tw_pc y (k + 1) = pc + 3) && (if t = 0 then tw_okC y a b b else if t = 4 ∨ t = 5 then decide (1 ≤ tw_fr y ∧ 21 ≤ tw_lo y) else decide (1 ≤ tw_fr y ∧ 8 + (nativeFrameWords "java/lang/System" "arraycopy" 5 + 11) ≤ tw_lo y)))
  | .invokevirtual _ => decide (t % 10 ≠ 1 ∧ t ≠ 4 ∧ t ≠ 5) || (decide (len = 3 ∧ tw_pc y (k + 1) = pc + 3) && (if t % 10 = 1 then tw_okC y a b b && decide ((tw_cg (t / 10)).1 = (tw_nm a).cls ∧ t / 10 < 10) else if t = 4 then decide (2 ≤ tw_fr y ∧ 40 ≤ tw_lo y) else decide (4 ≤ tw_fr y ∧ 85 ≤ tw_lo y)))
  | .invokespecial x => decide (t ≠ 3 ∧ t % 10 ≠ 2 ∧ t % 10 ≠ 8) || (decide (len = 3 ∧ tw_pc y (k + 1) = pc + 3) && (if t = 3 then decide (1 ≤ tw_fr y ∧ 20 ≤ tw_lo y) else tw_okC y a b b && decide ((tw_nm a).name = "<init>" ∧ tw_rt a = none ∧ (t % 10 = 8 → (tw_nm y).cls = RX9 ∧ ((x = 15 ∧ tw_nm a = yX8_init) ∨ (x = 34 ∧ tw_nm a = yX0_init))))))
  | .ireturn => decide (len = 1)
  | .lreturn => decide (len = 1)
  | .return_ => decide (len = 1)
  | .athrow => true
  | _ => decide (len = 1 ∧ tw_pc y (k + 1) = pc + 1)
def tw_okE (y k : Nat) (e : tw_E) : Bool := match e with
  | (pc, i, len, a, b, t, v, w) => decide (decode (tw_by y) pc = .ok (i, len)) && tw_okI y k pc i len a b t v w
def tw_chk (y : Nat) : Bool := (List.range (tw_code y).length).all (fun k => match (tw_code y)[k]? with
  | some e => tw_okE y k e
  | none => false)
def tw_chkR (y a n : Nat) : Bool := (List.range' a n).all (fun k => match (tw_code y)[k]? with
  | some e => tw_okE y k e
  | none => true)
