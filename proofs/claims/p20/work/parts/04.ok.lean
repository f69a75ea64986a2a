/-- the length of an instruction; 0: not said -/
def mm_len : Instr → Nat
  | .iconst _ => 1
  | .bipush _ => 2
  | .sipush _ => 3
  | .lconst _ => 1
  | .iload_n _ => 1
  | .iload _ => 2
  | .lload_n _ => 1
  | .lload _ => 2
  | .aload_n _ => 1
  | .aload _ => 2
  | .istore_n _ => 1
  | .istore _ => 2
  | .lstore_n _ => 1
  | .lstore _ => 2
  | .astore_n _ => 1
  | .astore _ => 2
  | .iinc _ _ => 3
  | .iadd => 1
  | .isub => 1
  | .imul => 1
  | .idiv => 1
  | .irem => 1
  | .ineg => 1
  | .iand => 1
  | .ior => 1
  | .ixor => 1
  | .ishl => 1
  | .ishr => 1
  | .iushr => 1
  | .ladd => 1
  | .lsub => 1
  | .lmul => 1
  | .ldiv => 1
  | .lrem => 1
  | .lcmp => 1
  | .i2l => 1
  | .i2c => 1
  | .i2b => 1
  | .pop => 1
  | .pop2 => 1
  | .baload => 1
  | .getstatic _ => 3
  | .dup => 1
  | .dup2 => 1
  | .goto _ => 3
  | .if_icmp _ _ => 3
  | .ifCond _ _ => 3
  | .ldc _ => 2
  | .ldc_w _ => 3
  | .ldc2_w _ => 3
  | .getfield _ => 3
  | .putfield _ => 3
  | .iaload => 1
  | .iastore => 1
  | .aaload => 1
  | .aastore => 1
  | .arraylength => 1
  | .new _ => 3
  | .newarray _ => 2
  | .anewarray _ => 3
  | .invokestatic _ => 3
  | .invokespecial _ => 3
  | .invokevirtual _ => 3
  | .ireturn => 1
  | .lreturn => 1
  | .areturn => 1
  | .return_ => 1
  | _ => 0
/-! ===== what the tables say of each instruction of the code trees ===== -/
def mm_rtk (k : Nat) (t : Option FieldType) : Bool := match k, t with
  | 0, none => true
  | 1, some .int => true
  | 2, some .long => true
  | 4, some .boolean => true
  | 5, some .byte => true
  | 6, some .char => true
  | 3, some (.object _) => true
  | 3, some (.array _) => true
  | _, _ => false
def mm_call (z y : Nat) : Bool := Nat.ble 1 y && (Nat.blt y mm_NM && (Nat.ble ((mm_rf y).1 + 1) (mm_rf z).1 && Nat.ble (8 + ((mm_i y).1 + 11) + (mm_rf y).2.1) (mm_rf z).2.1))
def mm_tyk (tk : Nat) (ty : FieldType) : Prop := match tk with
  | 0 => ty = .int
  | 1 => ty = .boolean
  | _ => (∃ t, ty = .array t) ∨ ∃ c, ty = .object c
def mm_fin (z fin : Nat) (r : vw_C) (k : Nat) : Prop := match fin with
  | 0 => (r.2.1 k).2.2.2 = false
  | _ => (r.2.1 k).2.2.2 = true ∧ (mm_y z).name = "<init>" ∧ (r.2.1 k).1 = (mm_y z).cls
/-- the texts: entry, letters -/
def mm_six : Nat → Nat
  | 0 => 37
  | 1 => 39
  | 2 => 41
  | 3 => 43
  | 4 => 45
  | _ => 47
def mm_stx : Nat → String
  | 0 => "999;"
  | 1 => "K9;"
  | 2 => "9;"
  | 3 => "99;"
  | 4 => ""
  | _ => "mlsdro"
def mm_byt : List (List Int32) := [[57, 57, 57, 59], [75, 57, 59], [57, 59], [57, 57, 59], [], [109, 108, 115, 100, 114, 111]]
def mm_sln : List Nat := [4, 3, 2, 3, 0, 6]
def mm_cn (ci : Nat) : Option String := cond (Nat.beq ci 11) (some "java/lang/String") ((vwCl[ci]?).map (fun r => r.1))
def mm_vok (z idx : Nat) (x : MethodName) (e : Nat × Nat) : Prop := ∃ r, vwCl[e.1]? = some r ∧ Cond.selects r.1 x (mm_y e.2) ∈ lw_tbl ∧ Cond.instanceMethod (mm_y e.2) ∈ lw_tbl ∧ mm_call z e.2 = true
def mm_ok (z pc : Nat) (i : Instr) (ex : List (Nat × Nat)) : Prop := match i with
  | .goto off => match ex with
    | [(t, _)] => (pc : Int) + off = (t : Int)
    | _ => True
  | .if_icmp _ off => match ex with
    | [(t, _)] => (pc : Int) + off = (t : Int)
    | _ => True
  | .ifCond _ off => match ex with
    | [(t, _)] => (pc : Int) + off = (t : Int)
    | _ => True
  | .lookupswitch _ ps => (ps.toList.zip (ps.toList.drop 1)).all (fun (a, next) => a.1 < next.1) = true
  | .ldc idx => match ex with
    | [(0, v)] => Cond.constant (mm_y z).cls idx (Int32.ofNat v) ∈ lw_tbl
    | [(1, k)] => (mm_y z).cls = "SovereignInBarrow$Telling" ∧ idx = mm_six k
    | _ => True
  | .getstatic idx => match ex with
    | [(0, v)] => Cond.fieldLink (mm_y z).cls idx "java/lang/String" "COMPACT_STRINGS" "Z" ∈ lw_tbl ∧ v = 1
    | [(1, v)] => Cond.fieldLink (mm_y z).cls idx "jdk/internal/util/Preconditions" "SIOOBE_FORMATTER" "Ljava/util/function/BiFunction;" ∈ lw_tbl ∧ v = v
    | _ => True
  | .ldc_w idx => match ex with
    | [(0, v)] => Cond.constant (mm_y z).cls idx (Int32.ofNat v) ∈ lw_tbl
    | _ => True
  | .ldc2_w idx => match ex with
    | [(0, v)] => Cond.constantLong (mm_y z).cls idx (Int64.ofNat v) ∈ lw_tbl
    | _ => True
  | .getfield idx => match ex with
    | [(11, 0)] => Cond.fieldLink (mm_y z).cls idx "java/lang/String" "value" "[B" ∈ lw_tbl
    | [(11, 1)] => Cond.fieldLink (mm_y z).cls idx "java/lang/String" "coder" "B" ∈ lw_tbl
    | [(ci, k)] => ∃ r, vwCl[ci]? = some r ∧ k < r.2.2 ∧ Cond.fieldLink (mm_y z).cls idx (r.2.1 k).1 (r.2.1 k).2.1 (r.2.1 k).2.2.1 ∈ lw_tbl
    | _ => True
  | .putfield idx => match ex with
    | [(ci, k), (tk, fin)] => ∃ r, vwCl[ci]? = some r ∧ k < r.2.2 ∧ Cond.fieldLink (mm_y z).cls idx (r.2.1 k).1 (r.2.1 k).2.1 (r.2.1 k).2.2.1 ∈ lw_tbl ∧ ∃ ty, parseFieldDescriptor (r.2.1 k).2.2.1 = some ty ∧ mm_tyk tk ty ∧ mm_fin z fin r k
    | _ => True
  | .new idx => match ex with
    | [(ci, _)] => ∃ r, vwCl[ci]? = some r ∧ Cond.classLink (mm_y z).cls idx r.1 ∈ lw_tbl
    | _ => True
  | .anewarray idx => Cond.classLink (mm_y z).cls idx "SovereignInBarrow$Minister" ∈ lw_tbl
  | .invokestatic idx => match ex with
    | [(0, y)] => (Cond.methodLink (mm_y z).cls idx (mm_y y) ∈ lw_tbl ∨ ∃ host, Cond.methodLinkNest (mm_y z).cls idx (mm_y y) host ∈ lw_tbl) ∧ Cond.static (mm_y y) ∈ lw_tbl ∧ mm_call z y = true
    | [(3, _)] => Cond.methodLink (mm_y z).cls idx Lib.Math.abs.name ∈ lw_tbl ∧ 1 ≤ (mm_rf z).1 ∧ 21 ≤ (mm_rf z).2.1
    | [(4, _)] => Cond.methodLink (mm_y z).cls idx Lib.Math.max.name ∈ lw_tbl ∧ 1 ≤ (mm_rf z).1 ∧ 21 ≤ (mm_rf z).2.1
    | [(5, _)] => Cond.methodLink (mm_y z).cls idx Lib.Math.min.name ∈ lw_tbl ∧ 1 ≤ (mm_rf z).1 ∧ 21 ≤ (mm_rf z).2.1
    | [(1, _)] => Cond.methodLink (mm_y z).cls idx arraycopyName ∈ lw_tbl ∧ 1 ≤ (mm_rf z).1 ∧ nativeFrameWords "java/lang/System" "arraycopy" 5 + 11 ≤ (mm_rf z).2.1
    | _ => True
  | .invokespecial idx => match ex with
    | [(2, _)] => Cond.methodLink (mm_y z).cls idx objectInit ∈ lw_tbl ∧ 1 ≤ (mm_rf z).1 ∧ 20 ≤ (mm_rf z).2.1
    | [(0, y)] => (Cond.methodLink (mm_y z).cls idx (mm_y y) ∈ lw_tbl ∨ ∃ host, Cond.methodLinkNest (mm_y z).cls idx (mm_y y) host ∈ lw_tbl) ∧ Cond.instanceMethod (mm_y y) ∈ lw_tbl ∧ (mm_y y).name = "<init>" ∧ mm_rt y = none ∧ mm_call z y = true
    | [(1, y)] => ∃ C, Cond.methodLink (mm_y z).cls idx ⟨C, (mm_y y).name, (mm_y y).desc⟩ ∈ lw_tbl ∧ Cond.sameMethod C (mm_y y).cls (mm_y y).name (mm_y y).desc ∈ lw_tbl ∧ Cond.superclass (mm_y z).cls C ∈ lw_tbl ∧ (C = (mm_y y).cls ∨ Cond.superclass C (mm_y y).cls ∈ lw_tbl) ∧ (mm_y y).name ≠ "<init>" ∧ Cond.instanceMethod (mm_y y) ∈ lw_tbl ∧ mm_call z y = true
    | _ => True
  | .invokevirtual idx => match ex with
    | [] => True
    | [(ci, y)] => ∃ C, mm_cn ci = some C ∧ Cond.methodLink (mm_y z).cls idx (mm_y y) ∈ lw_tbl ∧ Cond.instanceMethod (mm_y y) ∈ lw_tbl ∧ Cond.selects C (mm_y y) (mm_y y) ∈ lw_tbl ∧ mm_call z y = true
    | e0 :: es => Cond.methodLink (mm_y z).cls idx (mm_y e0.2) ∈ lw_tbl ∧ Cond.sameMethod (mm_y e0.2).cls (mm_y e0.2).cls (mm_y e0.2).name (mm_y e0.2).desc ∈ lw_tbl ∧ 0 < e0.2 ∧ e0.2 < mm_NM ∧ ∀ e ∈ e0 :: es, mm_vok z idx (mm_y e0.2) e ∧ (mm_rf e.2).2.2 = (mm_rf e0.2).2.2
  | _ => True
def mm_K (z pc : Nat) (x : Instr × List (Nat × Nat)) : Prop := (∃ ln, decode (mm_by z) pc = .ok (x.1, ln) ∧ (mm_len x.1 = ln ∨ mm_len x.1 = 0)) ∧ mm_ok z pc x.1 x.2
def mm_Mok (z : Nat) : Prop := Cond.code (mm_y z) (mm_by z) (mm_i z).1 (mm_rt z) ∈ lw_tbl ∧ Cond.initialized (mm_y z).cls ∈ lw_tbl ∧ plainName (mm_y z).cls = true ∧ ((mm_y z).cls ≠ "java/lang/invoke/MethodHandle" ∧ (mm_y z).cls ≠ "java/lang/invoke/VarHandle") ∧ (parseMethodDescriptor (mm_y z).desc).map (fun d => d.parameters.length) = some (mm_rf z).2.2 ∧ mm_rtk (mm_i z).2.2.1 (mm_rt z) = true
