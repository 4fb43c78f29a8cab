/-- is the entry what the bytes say, and do the words that it needs stand in the tables -/
def mj_ckw (j k : Nat) (e : mj_E) : Bool := match e with
  | (ins, nx, a, b, c) => match ins with
    | .ifCond _ off => decide ((k : Int) + off = (a : Int))
    | .if_icmp _ off => decide ((k : Int) + off = (a : Int))
    | .goto off => decide ((k : Int) + off = (a : Int))
    | .getfield i => decide (a < 13) && decide (b < mj_N a) && decide (lw_tbl[c]? = some (Jvm.Cond.fieldLink (mj_nm (mj_mx j).2.1) i (mj_nm a) (mj_T a b).2.1 (mj_T a b).2.2.1)) && decide ((mj_T a b).1 = mj_nm a)
    | .putfield i => decide (a < 13) && decide (b < mj_N a) && decide (lw_tbl[c]? = some (Jvm.Cond.fieldLink (mj_nm (mj_mx j).2.1) i (mj_nm a) (mj_T a b).2.1 (mj_T a b).2.2.1)) && decide ((mj_T a b).1 = mj_nm a) && ((mj_T a b).2.2.2 == false || (decide (a = (mj_mx j).2.1) && decide ((mj_y j).name = "<init>")))
    | .getstatic i => decide (a < 2) && decide (lw_tbl[c]? = some (Jvm.Cond.fieldLink (mj_nm (mj_mx j).2.1) i "ActBench" (bif Nat.beq a 0 then "PARTINGS_OF_TWO" else "PARTINGS_OF_THREE") "[I"))
    | .invokevirtual i => decide (a < mj_M) && decide (0 < a) && Nat.beq b 0 && decide (lw_tbl[c]? = some (Jvm.Cond.methodLink (mj_nm (mj_mx j).2.1) i (mj_y a))) && decide (lw_tbl[(mj_hi a).2.1]? = some (Jvm.Cond.instanceMethod (mj_y a))) && decide (lw_tbl[(mj_hi a).2.2.1]? = some (Jvm.Cond.selects (mj_y a).cls (mj_y a) (mj_y a)))
    | .invokestatic i => decide (a < mj_M) && decide (0 < a) && Nat.beq b 1 && decide (lw_tbl[c]? = some (Jvm.Cond.methodLink (mj_nm (mj_mx j).2.1) i (mj_y a))) && decide (lw_tbl[(mj_hi a).2.1]? = some (Jvm.Cond.static (mj_y a)))
    | .invokespecial i => bif Nat.beq b 4 then decide (lw_tbl[c]? = some (Jvm.Cond.methodLink (mj_nm (mj_mx j).2.1) i Jvm.Lib.objectInit)) else
        (decide (a < mj_M) && decide (0 < a) && (Nat.beq b 2 || Nat.beq b 3) && decide ((mj_y a).name = "<init>") && decide (mj_rt a = none) && decide (lw_tbl[(mj_hi a).2.1]? = some (Jvm.Cond.instanceMethod (mj_y a))) && (bif Nat.beq b 2 then decide (lw_tbl[c]? = some (Jvm.Cond.methodLink (mj_nm (mj_mx j).2.1) i (mj_y a))) else decide (lw_tbl[c]? = some (Jvm.Cond.methodLinkNest (mj_nm (mj_mx j).2.1) i (mj_y a) mj_host))))
    | .new i => decide (a < 13) && decide (lw_tbl[c]? = some (Jvm.Cond.classLink (mj_nm (mj_mx j).2.1) i (mj_nm a)))
    | .anewarray i => ((Nat.beq a 0 && Nat.beq b 15) || (Nat.beq a 4 && Nat.beq b 16) || (Nat.beq a 6 && Nat.beq b 17)) && decide (lw_tbl[c]? = some (Jvm.Cond.classLink (mj_nm (mj_mx j).2.1) i (mj_nm a)))
    | .ldc i => decide (lw_tbl[c]? = some (Jvm.Cond.constant (mj_nm (mj_mx j).2.1) i (Int32.ofNat a)))
    | .ldc_w i => decide (lw_tbl[c]? = some (Jvm.Cond.constant (mj_nm (mj_mx j).2.1) i (Int32.ofNat a)))
    | .ldc2_w i => decide (lw_tbl[c]? = some (Jvm.Cond.constantLong (mj_nm (mj_mx j).2.1) i (Int64.ofNat a)))
    | _ => true
def mj_ckp (j k : Nat) : Bool := match mj_code j k with
  | none => true
  | some e => decide (decode (mj_cc j) k = .ok (e.1, e.2.1 - k)) && decide (k < e.2.1) && mj_ckw j k e
def mj_chunk (j a n : Nat) : Bool := (List.range' a n).all (mj_ckp j)
theorem mj_ch {j a n : Nat} (h : mj_chunk j a n = true) : ∀ k, a ≤ k → k < a + n → mj_ckp j k = true := fun k h1 h2 => List.all_eq_true.mp h k (List.mem_range'_1.mpr ⟨h1, h2⟩)
theorem mj_ch0 {j n : Nat} (h : mj_chunk j 0 n = true) : ∀ k, k < n → mj_ckp j k = true := fun k h2 => List.all_eq_true.mp h k (List.mem_range'_1.mpr ⟨Nat.zero_le _, by omega⟩)
theorem mj_cj {j a n b : Nat} (h1 : ∀ k, k < a → mj_ckp j k = true) (h2 : ∀ k, a ≤ k → k < a + n → mj_ckp j k = true) (hb : b = a + n := by rfl) : ∀ k, k < b → mj_ckp j k = true := fun k hk => if h : k < a then h1 k h else h2 k (by omega) (by omega)
/-- a method's own words -/
def mj_ckm (j : Nat) : Bool := Nat.beq j 0 || (decide (lw_tbl[(mj_hi j).1]? = some (Jvm.Cond.code (mj_y j) (mj_cc j) (mj_mx j).1 (mj_rt j))) && decide (lw_tbl[(mj_hi j).2.2.2]? = some (Jvm.Cond.initialized (mj_y j).cls)) && decide ((mj_y j).cls = mj_nm (mj_mx j).2.1) && decide ((parseMethodDescriptor (mj_y j).desc).map (fun d => d.parameters.length) = some (mj_mx j).2.2) && plainFor (mj_y j) && decide ((mj_y j).cls ≠ "java/lang/invoke/MethodHandle") && decide ((mj_y j).cls ≠ "java/lang/invoke/VarHandle") && decide ((mj_mx j).1 ≤ 21))
/-- a class's own words -/
def mj_ckc (c : Nat) : Bool := decide (lw_tbl[mj_hn c]? = some (Jvm.Cond.instantiable (mj_nm c) (mj_N c))) && decide (lw_tbl[mj_hz c]? = some (Jvm.Cond.initialized (mj_nm c))) && (List.range (mj_N c)).all (fun k => lw_tbl.contains (u_lay (mj_nm c) (mj_T c) k) && decide (parseFieldDescriptor (mj_T c k).2.2.1 = some (mj_ty c k))) 
/-- how long an instruction is -/
def mj_il : Instr → Nat
  | .iconst _ | .lconst _ | .iload_n _ | .lload_n _ | .aload_n _ | .istore_n _ | .lstore_n _ | .astore_n _ => 1
  | .iadd | .isub | .imul | .iand | .ior | .ixor | .ishl | .ishr | .iushr | .idiv | .irem | .ladd | .lsub | .lmul | .land | .lor | .ldiv | .lrem | .lshl | .lshr | .lushr | .lcmp | .i2l | .i2b | .i2s | .l2i | .dup | .dup_x1 | .dup2 => 1
  | .iaload | .laload | .aaload | .iastore | .lastore | .aastore | .arraylength | .ireturn | .lreturn | .areturn | .return_ => 1
  | .bipush _ | .ldc _ | .iload _ | .lload _ | .aload _ | .istore _ | .lstore _ | .astore _ | .newarray _ => 2
  | _ => 3
def mj_isTs : Instr → Bool
  | .tableswitch _ _ _ _ => true
  | _ => false
def mj_ckl (j k : Nat) : Bool := match mj_code j k with
  | none => true
  | some e => mj_isTs e.1 || Nat.beq e.2.1 (k + mj_il e.1)
def mj_chl (j a n : Nat) : Bool := (List.range' a n).all (mj_ckl j)
theorem mj_l0 {j n : Nat} (h : mj_chl j 0 n = true) : ∀ k, k < n → mj_ckl j k = true := fun k h2 => List.all_eq_true.mp h k (List.mem_range'_1.mpr ⟨Nat.zero_le _, by omega⟩)
theorem mj_lh {j a n : Nat} (h : mj_chl j a n = true) : ∀ k, a ≤ k → k < a + n → mj_ckl j k = true := fun k h1 h2 => List.all_eq_true.mp h k (List.mem_range'_1.mpr ⟨h1, h2⟩)
theorem mj_lj {j a n b : Nat} (h1 : ∀ k, k < a → mj_ckl j k = true) (h2 : ∀ k, a ≤ k → k < a + n → mj_ckl j k = true) (hb : b = a + n := by rfl) : ∀ k, k < b → mj_ckl j k = true := fun k hk => if h : k < a then h1 k h else h2 k (by omega) (by omega)
theorem mj_ck_all : ∀ j, j < mj_M → ∀ k, k < mj_len j → mj_ckp j k = true := sorry
theorem mj_cm_all : ∀ j, j < mj_M → mj_ckm j = true := sorry
theorem mj_cl_all : ∀ j, j < mj_M → ∀ k, k < mj_len j → mj_ckl j k = true := sorry
set_option maxRecDepth 100000 in
theorem mj_cw_all : ∀ c, c < 13 → mj_ckc c = true := by decide +kernel
set_option maxRecDepth 100000 in
theorem mj_w_oi : Jvm.Cond.instanceMethod Jvm.Lib.objectInit ∈ lw_tbl := by decide +kernel
set_option maxRecDepth 100000 in
theorem mj_w_oc : Jvm.Cond.code Jvm.Lib.objectInit ⟨#[0xb1]⟩ 1 none ∈ lw_tbl := by decide +kernel
set_option maxRecDepth 100000 in
theorem mj_w_ai : Jvm.Cond.arrayClass .int ∈ lw_tbl := by decide +kernel
set_option maxRecDepth 100000 in
theorem mj_w_al : Jvm.Cond.arrayClass .long ∈ lw_tbl := by decide +kernel
set_option maxRecDepth 100000 in
theorem mj_w_o0 : Jvm.Cond.arrayOver (.object (mj_nm 0)) ∈ lw_tbl := by decide +kernel
set_option maxRecDepth 100000 in
theorem mj_w_o4 : Jvm.Cond.arrayOver (.object (mj_nm 4)) ∈ lw_tbl := by decide +kernel
set_option maxRecDepth 100000 in
theorem mj_w_o6 : Jvm.Cond.arrayOver (.object (mj_nm 6)) ∈ lw_tbl := by decide +kernel
set_option maxRecDepth 100000 in
theorem mj_w_nm : ∀ c, c < 13 → ∀ a, a < mj_N c → ∀ b, b < mj_N c → a ≠ b → (mj_T c a).2.1 ≠ (mj_T c b).2.1 := by decide +kernel
