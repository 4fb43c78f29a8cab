/-- is the entry what the bytes say, and do the words that it needs stand in the tables -/
def mj_ckw (j k : Nat) (e : mj_E) : Bool := match e with
  | (ins, nx, a, b, c) => match ins with
    | .ifCond _ off => decide ((k : Int) + off = (a : Int))
    | .if_icmp _ off => decide ((k : Int) + off = (a : Int))
    | .goto off => decide ((k : Int) + off = (a : Int))
    | .getfield i => decide (a < 13) && decide (b < mj_N a) && decide (lw_tbl[c]? = some (Jvm.Cond.fieldLink (mj_nm (mj_mx j).2.1) i (mj_nm a) (mj_T a b).2.1 (mj_T a b).2.2.1)) && decide ((mj_T a b).1 = mj_nm a)
    | .putfield i => decide (a < 13) && decide (b < mj_N a) && decide (lw_tbl[c]? = some (Jvm.Cond.fieldLink (mj_nm (mj_mx j).2.1) i (mj_nm a) (mj_T a b).2.1 (mj_T a b).2.2.1)) && decide ((mj_T a b).1 = mj_nm a) && ((mj_T a b).2.2.2 == false || (decide (a = (mj_mx j).2.1) && decide ((mj_y j).name = "<init>")))
    | .getstatic i => decide (a < 2) && decide (lw_tbl[c]? = some (Jvm.Cond.fieldLink (mj_nm (mj_mx j).2.1) i "ActBench" (bif Nat.beq a 0 then "PARTINGS_OF_TWO" else "PARTINGS_OF_THREE") "[I"))
    | .invokevirtual i => decide (a < mj_M) && decide (0 < a) && Nat.beq b 0 && decide (lw_tbl[c]? = some (Jvm.Cond.methodLink (mj_nm (mj_mx j).2.1) i (mj_y a))) && decide (lw_tbl[(mj_hi a).2.1]? = some (Jvm.Cond.instanceMethod (mj_y a))) && decide (lw_tbl[(mj_hi a).2.2.1]? = some (Jvm.Cond.selects (mj_y a).cls (mj_y a) (mj_y a)))
    | .invokestatic i => decide (a < mj_M) && decide (0 < a) && Nat.beq b 1 && decide (lw_tbl[c]? = some (Jvm.Cond.methodLink (mj_nm (mj_mx j).2.1) i (mj_y a))) && decide (lw_tbl[(mj_hi a).2.1]? = some (Jvm.Cond.static (mj_y a)))
    | .invokespecial i => bif Nat.beq b 4 then decide (lw_tbl[c]? = some (Jvm.Cond.methodLink (mj_nm (mj_mx j).2.1) i Jvm.Lib.objectInit)) else
        (decide (a < mj_M) && decide (0 < a) && (Nat.beq b 2 || Nat.beq b 3) && decide ((mj_y a).name = "<init>") && decide (mj_rt a = none) && decide (lw_tbl[(mj_hi a).2.1]? = some (Jvm.Cond.instanceMethod (mj_y a))) && (bif Nat.beq b 2 then decide (lw_tbl[c]? = some (Jvm.Cond.methodLink (mj_nm (mj_mx j).2.1) i (mj_y a))) else decide (lw_tbl[c]? = some (Jvm.Cond.methodLinkNest (mj_nm (mj_mx j).2.1) i (mj_y a) mj_host))))
    | .new i => decide (a < 13) && decide (lw_tbl[c]? = some (Jvm.Cond.classLink (mj_nm (mj_mx j).2.1) i (mj_nm a)))
    | .anewarray i => ((Nat.beq a 0 && Nat.beq b 15) || (Nat.beq a 4 && Nat.beq b 16) || (Nat.beq a 6 && Nat.beq b 17)) && decide (lw_tbl[c]? = some (Jvm.Cond.classLink (mj_nm (mj_mx j).2.1) i (mj_nm a)))
    | .ldc i => decide (lw_tbl[c]? = some (Jvm.Cond.constant (mj_nm (mj_mx j).2.1) i (Int32.ofNat a)))
    | .ldc_w i => decide (lw_tbl[c]? = some (Jvm.Cond.constant (mj_nm (mj_mx j).2.1) i (Int32.ofNat a)))
    | .ldc2_w i => decide (lw_tbl[c]? = some (Jvm.Cond.constantLong (mj_nm (mj_mx j).2.1) i (Int64.ofNat a)))
    | _ => true
def mj_ckp (j k : Nat) : Bool := match mj_code j k with
  | none => true
  | some e => decide (decode (mj_cc j) k = .ok (e.1, e.2.1 - k)) && decide (k < e.2.1) && mj_ckw j k e
def mj_chunk (j a n : Nat) : Bool := (List.range' a n).all (mj_ckp j)
theorem mj_ch {j a n : Nat} (h : mj_chunk j a n = true) : ∀ k, a ≤ k → k < a + n → mj_ckp j k = true := fun k h1 h2 => List.all_eq_true.mp h k (List.mem_range'_1.mpr ⟨h1, h2⟩)
theorem mj_ch0 {j n : Nat} (h : mj_chunk j 0 n = true) : ∀ k, k < n → mj_ckp j k = true := fun k h2 => List.all_eq_true.mp h k (List.mem_range'_1.mpr ⟨Nat.zero_le _, by omega⟩)
theorem mj_cj {j a n b : Nat} (h1 : ∀ k, k < a → mj_ckp j k = true) (h2 : ∀ k, a ≤ k → k < a + n → mj_ckp j k = true) (hb : b = a + n := by rfl) : ∀ k, k < b → mj_ckp j k = true := fun k hk => if h : k < a then h1 k h else h2 k (by omega) (by omega)
/-- a method's own words -/
def mj_ckm (j : Nat) : Bool := Nat.beq j 0 || (decide (lw_tbl[(mj_hi j).1]? = some (Jvm.Cond.code (mj_y j) (mj_cc j) (mj_mx j).1 (mj_rt j))) && decide (lw_tbl[(mj_hi j).2.2.2]? = some (Jvm.Cond.initialized (mj_y j).cls)) && decide ((mj_y j).cls = mj_nm (mj_mx j).2.1) && decide ((parseMethodDescriptor (mj_y j).desc).map (fun d => d.parameters.length) = some (mj_mx j).2.2) && plainFor (mj_y j) && decide ((mj_y j).cls ≠ "java/lang/invoke/MethodHandle") && decide ((mj_y j).cls ≠ "java/lang/invoke/VarHandle") && decide ((mj_mx j).1 ≤ 21))
/-- a class's own words -/
def mj_ckc (c : Nat) : Bool := decide (lw_tbl[mj_hn c]? = some (Jvm.Cond.instantiable (mj_nm c) (mj_N c))) && decide (lw_tbl[mj_hz c]? = some (Jvm.Cond.initialized (mj_nm c))) && (List.range (mj_N c)).all (fun k => lw_tbl.contains (u_lay (mj_nm c) (mj_T c) k) && decide (parseFieldDescriptor (mj_T c k).2.2.1 = some (mj_ty c k))) 
/-- how long an instruction is -/
def mj_il : Instr → Nat
  | .iconst _ | .lconst _ | .iload_n _ | .lload_n _ | .aload_n _ | .istore_n _ | .lstore_n _ | .astore_n _ => 1
  | .iadd | .isub | .imul | .iand | .ior | .ixor | .ishl | .ishr | .iushr | .idiv | .irem | .ladd | .lsub | .lmul | .land | .lor | .ldiv | .lrem | .lshl | .lshr | .lushr | .lcmp | .i2l | .i2b | .i2s | .l2i | .dup | .dup_x1 | .dup2 | .pop | .pop2 => 1
  | .iaload | .laload | .aaload | .iastore | .lastore | .aastore | .arraylength | .ireturn | .lreturn | .areturn | .return_ => 1
  | .bipush _ | .ldc _ | .iload _ | .lload _ | .aload _ | .istore _ | .lstore _ | .astore _ | .newarray _ => 2
  | _ => 3
def mj_isTs : Instr → Bool
  | .tableswitch _ _ _ _ => true
  | _ => false
def mj_ckl (j k : Nat) : Bool := match mj_code j k with
  | none => true
  | some e => mj_isTs e.1 || Nat.beq e.2.1 (k + mj_il e.1)
def mj_chl (j a n : Nat) : Bool := (List.range' a n).all (mj_ckl j)
theorem mj_l0 {j n : Nat} (h : mj_chl j 0 n = true) : ∀ k, k < n → mj_ckl j k = true := fun k h2 => List.all_eq_true.mp h k (List.mem_range'_1.mpr ⟨Nat.zero_le _, by omega⟩)
theorem mj_lh {j a n : Nat} (h : mj_chl j a n = true) : ∀ k, a ≤ k → k < a + n → mj_ckl j k = true := fun k h1 h2 => List.all_eq_true.mp h k (List.mem_range'_1.mpr ⟨h1, h2⟩)
theorem mj_lj {j a n b : Nat} (h1 : ∀ k, k < a → mj_ckl j k = true) (h2 : ∀ k, a ≤ k → k < a + n → mj_ckl j k = true) (hb : b = a + n := by rfl) : ∀ k, k < b → mj_ckl j k = true := fun k hk => if h : k < a then h1 k h else h2 k (by omega) (by omega)

set_option maxRecDepth 100000 in
theorem mjk_0_0 : mj_chunk 0 0 40 = true := by decide +kernel
set_option maxRecDepth 100000 in
theorem mjk_0_40 : mj_chunk 0 40 40 = true := by decide +kernel
set_option maxRecDepth 100000 in
theorem mjk_0_80 : mj_chunk 0 80 40 = true := by decide +kernel
set_option maxRecDepth 100000 in
theorem mjk_0_120 : mj_chunk 0 120 40 = true := by decide +kernel
set_option maxRecDepth 100000 in
theorem mjk_0_160 : mj_chunk 0 160 40 = true := by decide +kernel
set_option maxRecDepth 100000 in
theorem mjk_0_200 : mj_chunk 0 200 40 = true := by decide +kernel
set_option maxRecDepth 100000 in
theorem mjk_0_240 : mj_chunk 0 240 40 = true := by decide +kernel
set_option maxRecDepth 100000 in
theorem mjk_0_280 : mj_chunk 0 280 40 = true := by decide +kernel
set_option maxRecDepth 100000 in
theorem mjk_0_320 : mj_chunk 0 320 40 = true := by decide +kernel
set_option maxRecDepth 100000 in
theorem mjk_0_360 : mj_chunk 0 360 40 = true := by decide +kernel
set_option maxRecDepth 100000 in
theorem mjk_0_400 : mj_chunk 0 400 40 = true := by decide +kernel
set_option maxRecDepth 100000 in
theorem mjk_0_440 : mj_chunk 0 440 40 = true := by decide +kernel
set_option maxRecDepth 100000 in
theorem mjk_0_480 : mj_chunk 0 480 40 = true := by decide +kernel
set_option maxRecDepth 100000 in
theorem mjk_0_520 : mj_chunk 0 520 40 = true := by decide +kernel
set_option maxRecDepth 100000 in
theorem mjk_0_560 : mj_chunk 0 560 40 = true := by decide +kernel
set_option maxRecDepth 100000 in
theorem mjk_0_600 : mj_chunk 0 600 40 = true := by decide +kernel
set_option maxRecDepth 100000 in
theorem mjk_0_640 : mj_chunk 0 640 40 = true := by decide +kernel
set_option maxRecDepth 100000 in
theorem mjk_0_680 : mj_chunk 0 680 40 = true := by decide +kernel
set_option maxRecDepth 100000 in
theorem mjk_0_720 : mj_chunk 0 720 40 = true := by decide +kernel
set_option maxRecDepth 100000 in
theorem mjk_0_760 : mj_chunk 0 760 40 = true := by decide +kernel
set_option maxRecDepth 100000 in
theorem mjk_0_800 : mj_chunk 0 800 40 = true := by decide +kernel
set_option maxRecDepth 100000 in
theorem mjk_0_840 : mj_chunk 0 840 40 = true := by decide +kernel
set_option maxRecDepth 100000 in
theorem mjk_0_880 : mj_chunk 0 880 40 = true := by decide +kernel
set_option maxRecDepth 100000 in
theorem mjk_0_920 : mj_chunk 0 920 40 = true := by decide +kernel
set_option maxRecDepth 100000 in
theorem mjk_0_960 : mj_chunk 0 960 39 = true := by decide +kernel
set_option maxRecDepth 100000 in
theorem mjl_0_0 : mj_chl 0 0 120 = true := by decide +kernel
set_option maxRecDepth 100000 in
theorem mjl_0_120 : mj_chl 0 120 120 = true := by decide +kernel
set_option maxRecDepth 100000 in
theorem mjl_0_240 : mj_chl 0 240 120 = true := by decide +kernel
set_option maxRecDepth 100000 in
theorem mjl_0_360 : mj_chl 0 360 120 = true := by decide +kernel
set_option maxRecDepth 100000 in
theorem mjl_0_480 : mj_chl 0 480 120 = true := by decide +kernel
set_option maxRecDepth 100000 in
theorem mjl_0_600 : mj_chl 0 600 120 = true := by decide +kernel
set_option maxRecDepth 100000 in
theorem mjl_0_720 : mj_chl 0 720 120 = true := by decide +kernel
set_option maxRecDepth 100000 in
theorem mjl_0_840 : mj_chl 0 840 120 = true := by decide +kernel
set_option maxRecDepth 100000 in
theorem mjl_0_960 : mj_chl 0 960 39 = true := by decide +kernel
set_option maxRecDepth 100000 in
theorem mjl_0 : ∀ k, k < mj_len 0 → mj_ckl 0 k = true := mj_lj (mj_lj (mj_lj (mj_lj (mj_lj (mj_lj (mj_lj (mj_lj (mj_l0 mjl_0_0) (mj_lh mjl_0_120)) (mj_lh mjl_0_240)) (mj_lh mjl_0_360)) (mj_lh mjl_0_480)) (mj_lh mjl_0_600)) (mj_lh mjl_0_720)) (mj_lh mjl_0_840)) (mj_lh mjl_0_960)
set_option maxRecDepth 100000 in
theorem mjk_0 : ∀ k, k < mj_len 0 → mj_ckp 0 k = true := mj_cj (mj_cj (mj_cj (mj_cj (mj_cj (mj_cj (mj_cj (mj_cj (mj_cj (mj_cj (mj_cj (mj_cj (mj_cj (mj_cj (mj_cj (mj_cj (mj_cj (mj_cj (mj_cj (mj_cj (mj_cj (mj_cj (mj_cj (mj_cj (mj_ch0 mjk_0_0) (mj_ch mjk_0_40)) (mj_ch mjk_0_80)) (mj_ch mjk_0_120)) (mj_ch mjk_0_160)) (mj_ch mjk_0_200)) (mj_ch mjk_0_240)) (mj_ch mjk_0_280)) (mj_ch mjk_0_320)) (mj_ch mjk_0_360)) (mj_ch mjk_0_400)) (mj_ch mjk_0_440)) (mj_ch mjk_0_480)) (mj_ch mjk_0_520)) (mj_ch mjk_0_560)) (mj_ch mjk_0_600)) (mj_ch mjk_0_640)) (mj_ch mjk_0_680)) (mj_ch mjk_0_720)) (mj_ch mjk_0_760)) (mj_ch mjk_0_800)) (mj_ch mjk_0_840)) (mj_ch mjk_0_880)) (mj_ch mjk_0_920)) (mj_ch mjk_0_960)
set_option maxRecDepth 100000 in
theorem mjm_0 : mj_ckm 0 = true := by decide +kernel
set_option maxRecDepth 100000 in
theorem mjk_1_0 : mj_chunk 1 0 21 = true := by decide +kernel
set_option maxRecDepth 100000 in
theorem mjl_1_0 : mj_chl 1 0 21 = true := by decide +kernel
set_option maxRecDepth 100000 in
theorem mjl_1 : ∀ k, k < mj_len 1 → mj_ckl 1 k = true := mj_l0 mjl_1_0
set_option maxRecDepth 100000 in
theorem mjk_1 : ∀ k, k < mj_len 1 → mj_ckp 1 k = true := mj_ch0 mjk_1_0
set_option maxRecDepth 100000 in
theorem mjm_1 : mj_ckm 1 = true := by decide +kernel
set_option maxRecDepth 100000 in
theorem mjk_2_0 : mj_chunk 2 0 40 = true := by decide +kernel
set_option maxRecDepth 100000 in
theorem mjk_2_40 : mj_chunk 2 40 40 = true := by decide +kernel
set_option maxRecDepth 100000 in
theorem mjk_2_80 : mj_chunk 2 80 40 = true := by decide +kernel
set_option maxRecDepth 100000 in
theorem mjk_2_120 : mj_chunk 2 120 15 = true := by decide +kernel
set_option maxRecDepth 100000 in
theorem mjl_2_0 : mj_chl 2 0 120 = true := by decide +kernel
set_option maxRecDepth 100000 in
theorem mjl_2_120 : mj_chl 2 120 15 = true := by decide +kernel
set_option maxRecDepth 100000 in
theorem mjl_2 : ∀ k, k < mj_len 2 → mj_ckl 2 k = true := mj_lj (mj_l0 mjl_2_0) (mj_lh mjl_2_120)
set_option maxRecDepth 100000 in
theorem mjk_2 : ∀ k, k < mj_len 2 → mj_ckp 2 k = true := mj_cj (mj_cj (mj_cj (mj_ch0 mjk_2_0) (mj_ch mjk_2_40)) (mj_ch mjk_2_80)) (mj_ch mjk_2_120)
set_option maxRecDepth 100000 in
theorem mjm_2 : mj_ckm 2 = true := by decide +kernel
set_option maxRecDepth 100000 in
theorem mjk_3_0 : mj_chunk 3 0 40 = true := by decide +kernel
set_option maxRecDepth 100000 in
theorem mjk_3_40 : mj_chunk 3 40 13 = true := by decide +kernel
set_option maxRecDepth 100000 in
theorem mjl_3_0 : mj_chl 3 0 53 = true := by decide +kernel
set_option maxRecDepth 100000 in
theorem mjl_3 : ∀ k, k < mj_len 3 → mj_ckl 3 k = true := mj_l0 mjl_3_0
set_option maxRecDepth 100000 in
theorem mjk_3 : ∀ k, k < mj_len 3 → mj_ckp 3 k = true := mj_cj (mj_ch0 mjk_3_0) (mj_ch mjk_3_40)
set_option maxRecDepth 100000 in
theorem mjm_3 : mj_ckm 3 = true := by decide +kernel
set_option maxRecDepth 100000 in
theorem mjk_4_0 : mj_chunk 4 0 40 = true := by decide +kernel
set_option maxRecDepth 100000 in
theorem mjk_4_40 : mj_chunk 4 40 40 = true := by decide +kernel
set_option maxRecDepth 100000 in
theorem mjk_4_80 : mj_chunk 4 80 12 = true := by decide +kernel
set_option maxRecDepth 100000 in
theorem mjl_4_0 : mj_chl 4 0 92 = true := by decide +kernel
set_option maxRecDepth 100000 in
theorem mjl_4 : ∀ k, k < mj_len 4 → mj_ckl 4 k = true := mj_l0 mjl_4_0
set_option maxRecDepth 100000 in
theorem mjk_4 : ∀ k, k < mj_len 4 → mj_ckp 4 k = true := mj_cj (mj_cj (mj_ch0 mjk_4_0) (mj_ch mjk_4_40)) (mj_ch mjk_4_80)
set_option maxRecDepth 100000 in
theorem mjm_4 : mj_ckm 4 = true := by decide +kernel
set_option maxRecDepth 100000 in
theorem mjk_5_0 : mj_chunk 5 0 40 = true := by decide +kernel
set_option maxRecDepth 100000 in
theorem mjk_5_40 : mj_chunk 5 40 31 = true := by decide +kernel
set_option maxRecDepth 100000 in
theorem mjl_5_0 : mj_chl 5 0 71 = true := by decide +kernel
set_option maxRecDepth 100000 in
theorem mjl_5 : ∀ k, k < mj_len 5 → mj_ckl 5 k = true := mj_l0 mjl_5_0
set_option maxRecDepth 100000 in
theorem mjk_5 : ∀ k, k < mj_len 5 → mj_ckp 5 k = true := mj_cj (mj_ch0 mjk_5_0) (mj_ch mjk_5_40)
set_option maxRecDepth 100000 in
theorem mjm_5 : mj_ckm 5 = true := by decide +kernel
set_option maxRecDepth 100000 in
theorem mjk_6_0 : mj_chunk 6 0 8 = true := by decide +kernel
set_option maxRecDepth 100000 in
theorem mjl_6_0 : mj_chl 6 0 8 = true := by decide +kernel
set_option maxRecDepth 100000 in
theorem mjl_6 : ∀ k, k < mj_len 6 → mj_ckl 6 k = true := mj_l0 mjl_6_0
set_option maxRecDepth 100000 in
theorem mjk_6 : ∀ k, k < mj_len 6 → mj_ckp 6 k = true := mj_ch0 mjk_6_0
set_option maxRecDepth 100000 in
theorem mjm_6 : mj_ckm 6 = true := by decide +kernel
set_option maxRecDepth 100000 in
theorem mjk_7_0 : mj_chunk 7 0 40 = true := by decide +kernel
set_option maxRecDepth 100000 in
theorem mjk_7_40 : mj_chunk 7 40 14 = true := by decide +kernel
set_option maxRecDepth 100000 in
theorem mjl_7_0 : mj_chl 7 0 54 = true := by decide +kernel
set_option maxRecDepth 100000 in
theorem mjl_7 : ∀ k, k < mj_len 7 → mj_ckl 7 k = true := mj_l0 mjl_7_0
set_option maxRecDepth 100000 in
theorem mjk_7 : ∀ k, k < mj_len 7 → mj_ckp 7 k = true := mj_cj (mj_ch0 mjk_7_0) (mj_ch mjk_7_40)
set_option maxRecDepth 100000 in
theorem mjm_7 : mj_ckm 7 = true := by decide +kernel
set_option maxRecDepth 100000 in
theorem mjk_8_0 : mj_chunk 8 0 40 = true := by decide +kernel
set_option maxRecDepth 100000 in
theorem mjk_8_40 : mj_chunk 8 40 2 = true := by decide +kernel
set_option maxRecDepth 100000 in
theorem mjl_8_0 : mj_chl 8 0 42 = true := by decide +kernel
set_option maxRecDepth 100000 in
theorem mjl_8 : ∀ k, k < mj_len 8 → mj_ckl 8 k = true := mj_l0 mjl_8_0
set_option maxRecDepth 100000 in
theorem mjk_8 : ∀ k, k < mj_len 8 → mj_ckp 8 k = true := mj_cj (mj_ch0 mjk_8_0) (mj_ch mjk_8_40)
set_option maxRecDepth 100000 in
theorem mjm_8 : mj_ckm 8 = true := by decide +kernel
set_option maxRecDepth 100000 in
theorem mjk_9_0 : mj_chunk 9 0 40 = true := by decide +kernel
set_option maxRecDepth 100000 in
theorem mjk_9_40 : mj_chunk 9 40 36 = true := by decide +kernel
set_option maxRecDepth 100000 in
theorem mjl_9_0 : mj_chl 9 0 76 = true := by decide +kernel
set_option maxRecDepth 100000 in
theorem mjl_9 : ∀ k, k < mj_len 9 → mj_ckl 9 k = true := mj_l0 mjl_9_0
set_option maxRecDepth 100000 in
theorem mjk_9 : ∀ k, k < mj_len 9 → mj_ckp 9 k = true := mj_cj (mj_ch0 mjk_9_0) (mj_ch mjk_9_40)
set_option maxRecDepth 100000 in
theorem mjm_9 : mj_ckm 9 = true := by decide +kernel
set_option maxRecDepth 100000 in
theorem mjk_10_0 : mj_chunk 10 0 40 = true := by decide +kernel
set_option maxRecDepth 100000 in
theorem mjl_10_0 : mj_chl 10 0 40 = true := by decide +kernel
set_option maxRecDepth 100000 in
theorem mjl_10 : ∀ k, k < mj_len 10 → mj_ckl 10 k = true := mj_l0 mjl_10_0
set_option maxRecDepth 100000 in
theorem mjk_10 : ∀ k, k < mj_len 10 → mj_ckp 10 k = true := mj_ch0 mjk_10_0
set_option maxRecDepth 100000 in
theorem mjm_10 : mj_ckm 10 = true := by decide +kernel
set_option maxRecDepth 100000 in
theorem mjk_11_0 : mj_chunk 11 0 40 = true := by decide +kernel
set_option maxRecDepth 100000 in
theorem mjk_11_40 : mj_chunk 11 40 40 = true := by decide +kernel
set_option maxRecDepth 100000 in
theorem mjk_11_80 : mj_chunk 11 80 24 = true := by decide +kernel
set_option maxRecDepth 100000 in
theorem mjl_11_0 : mj_chl 11 0 104 = true := by decide +kernel
set_option maxRecDepth 100000 in
theorem mjl_11 : ∀ k, k < mj_len 11 → mj_ckl 11 k = true := mj_l0 mjl_11_0
set_option maxRecDepth 100000 in
theorem mjk_11 : ∀ k, k < mj_len 11 → mj_ckp 11 k = true := mj_cj (mj_cj (mj_ch0 mjk_11_0) (mj_ch mjk_11_40)) (mj_ch mjk_11_80)
set_option maxRecDepth 100000 in
theorem mjm_11 : mj_ckm 11 = true := by decide +kernel
set_option maxRecDepth 100000 in
theorem mjk_12_0 : mj_chunk 12 0 24 = true := by decide +kernel
set_option maxRecDepth 100000 in
theorem mjl_12_0 : mj_chl 12 0 24 = true := by decide +kernel
set_option maxRecDepth 100000 in
theorem mjl_12 : ∀ k, k < mj_len 12 → mj_ckl 12 k = true := mj_l0 mjl_12_0
set_option maxRecDepth 100000 in
theorem mjk_12 : ∀ k, k < mj_len 12 → mj_ckp 12 k = true := mj_ch0 mjk_12_0
set_option maxRecDepth 100000 in
theorem mjm_12 : mj_ckm 12 = true := by decide +kernel
set_option maxRecDepth 100000 in
theorem mjk_13_0 : mj_chunk 13 0 28 = true := by decide +kernel
set_option maxRecDepth 100000 in
theorem mjl_13_0 : mj_chl 13 0 28 = true := by decide +kernel
set_option maxRecDepth 100000 in
theorem mjl_13 : ∀ k, k < mj_len 13 → mj_ckl 13 k = true := mj_l0 mjl_13_0
set_option maxRecDepth 100000 in
theorem mjk_13 : ∀ k, k < mj_len 13 → mj_ckp 13 k = true := mj_ch0 mjk_13_0
set_option maxRecDepth 100000 in
theorem mjm_13 : mj_ckm 13 = true := by decide +kernel
set_option maxRecDepth 100000 in
theorem mjk_14_0 : mj_chunk 14 0 10 = true := by decide +kernel
set_option maxRecDepth 100000 in
theorem mjl_14_0 : mj_chl 14 0 10 = true := by decide +kernel
set_option maxRecDepth 100000 in
theorem mjl_14 : ∀ k, k < mj_len 14 → mj_ckl 14 k = true := mj_l0 mjl_14_0
set_option maxRecDepth 100000 in
theorem mjk_14 : ∀ k, k < mj_len 14 → mj_ckp 14 k = true := mj_ch0 mjk_14_0
set_option maxRecDepth 100000 in
theorem mjm_14 : mj_ckm 14 = true := by decide +kernel
set_option maxRecDepth 100000 in
theorem mjk_15_0 : mj_chunk 15 0 9 = true := by decide +kernel
set_option maxRecDepth 100000 in
theorem mjl_15_0 : mj_chl 15 0 9 = true := by decide +kernel
set_option maxRecDepth 100000 in
theorem mjl_15 : ∀ k, k < mj_len 15 → mj_ckl 15 k = true := mj_l0 mjl_15_0
set_option maxRecDepth 100000 in
theorem mjk_15 : ∀ k, k < mj_len 15 → mj_ckp 15 k = true := mj_ch0 mjk_15_0
set_option maxRecDepth 100000 in
theorem mjm_15 : mj_ckm 15 = true := by decide +kernel
set_option maxRecDepth 100000 in
theorem mjk_16_0 : mj_chunk 16 0 40 = true := by decide +kernel
set_option maxRecDepth 100000 in
theorem mjk_16_40 : mj_chunk 16 40 3 = true := by decide +kernel
set_option maxRecDepth 100000 in
theorem mjl_16_0 : mj_chl 16 0 43 = true := by decide +kernel
set_option maxRecDepth 100000 in
theorem mjl_16 : ∀ k, k < mj_len 16 → mj_ckl 16 k = true := mj_l0 mjl_16_0
set_option maxRecDepth 100000 in
theorem mjk_16 : ∀ k, k < mj_len 16 → mj_ckp 16 k = true := mj_cj (mj_ch0 mjk_16_0) (mj_ch mjk_16_40)
set_option maxRecDepth 100000 in
theorem mjm_16 : mj_ckm 16 = true := by decide +kernel
set_option maxRecDepth 100000 in
theorem mjk_17_0 : mj_chunk 17 0 33 = true := by decide +kernel
set_option maxRecDepth 100000 in
theorem mjl_17_0 : mj_chl 17 0 33 = true := by decide +kernel
set_option maxRecDepth 100000 in
theorem mjl_17 : ∀ k, k < mj_len 17 → mj_ckl 17 k = true := mj_l0 mjl_17_0
set_option maxRecDepth 100000 in
theorem mjk_17 : ∀ k, k < mj_len 17 → mj_ckp 17 k = true := mj_ch0 mjk_17_0
set_option maxRecDepth 100000 in
theorem mjm_17 : mj_ckm 17 = true := by decide +kernel
set_option maxRecDepth 100000 in
theorem mjk_18_0 : mj_chunk 18 0 40 = true := by decide +kernel
set_option maxRecDepth 100000 in
theorem mjk_18_40 : mj_chunk 18 40 40 = true := by decide +kernel
set_option maxRecDepth 100000 in
theorem mjl_18_0 : mj_chl 18 0 80 = true := by decide +kernel
set_option maxRecDepth 100000 in
theorem mjl_18 : ∀ k, k < mj_len 18 → mj_ckl 18 k = true := mj_l0 mjl_18_0
set_option maxRecDepth 100000 in
theorem mjk_18 : ∀ k, k < mj_len 18 → mj_ckp 18 k = true := mj_cj (mj_ch0 mjk_18_0) (mj_ch mjk_18_40)
set_option maxRecDepth 100000 in
theorem mjm_18 : mj_ckm 18 = true := by decide +kernel
set_option maxRecDepth 100000 in
theorem mjk_19_0 : mj_chunk 19 0 18 = true := by decide +kernel
set_option maxRecDepth 100000 in
theorem mjl_19_0 : mj_chl 19 0 18 = true := by decide +kernel
set_option maxRecDepth 100000 in
theorem mjl_19 : ∀ k, k < mj_len 19 → mj_ckl 19 k = true := mj_l0 mjl_19_0
set_option maxRecDepth 100000 in
theorem mjk_19 : ∀ k, k < mj_len 19 → mj_ckp 19 k = true := mj_ch0 mjk_19_0
set_option maxRecDepth 100000 in
theorem mjm_19 : mj_ckm 19 = true := by decide +kernel
set_option maxRecDepth 100000 in
theorem mjk_20_0 : mj_chunk 20 0 40 = true := by decide +kernel
set_option maxRecDepth 100000 in
theorem mjk_20_40 : mj_chunk 20 40 8 = true := by decide +kernel
set_option maxRecDepth 100000 in
theorem mjl_20_0 : mj_chl 20 0 48 = true := by decide +kernel
set_option maxRecDepth 100000 in
theorem mjl_20 : ∀ k, k < mj_len 20 → mj_ckl 20 k = true := mj_l0 mjl_20_0
set_option maxRecDepth 100000 in
theorem mjk_20 : ∀ k, k < mj_len 20 → mj_ckp 20 k = true := mj_cj (mj_ch0 mjk_20_0) (mj_ch mjk_20_40)
set_option maxRecDepth 100000 in
theorem mjm_20 : mj_ckm 20 = true := by decide +kernel
set_option maxRecDepth 100000 in
theorem mjk_21_0 : mj_chunk 21 0 40 = true := by decide +kernel
set_option maxRecDepth 100000 in
theorem mjk_21_40 : mj_chunk 21 40 40 = true := by decide +kernel
set_option maxRecDepth 100000 in
theorem mjk_21_80 : mj_chunk 21 80 30 = true := by decide +kernel
set_option maxRecDepth 100000 in
theorem mjl_21_0 : mj_chl 21 0 110 = true := by decide +kernel
set_option maxRecDepth 100000 in
theorem mjl_21 : ∀ k, k < mj_len 21 → mj_ckl 21 k = true := mj_l0 mjl_21_0
set_option maxRecDepth 100000 in
theorem mjk_21 : ∀ k, k < mj_len 21 → mj_ckp 21 k = true := mj_cj (mj_cj (mj_ch0 mjk_21_0) (mj_ch mjk_21_40)) (mj_ch mjk_21_80)
set_option maxRecDepth 100000 in
theorem mjm_21 : mj_ckm 21 = true := by decide +kernel
set_option maxRecDepth 100000 in
theorem mjk_22_0 : mj_chunk 22 0 40 = true := by decide +kernel
set_option maxRecDepth 100000 in
theorem mjk_22_40 : mj_chunk 22 40 40 = true := by decide +kernel
set_option maxRecDepth 100000 in
theorem mjk_22_80 : mj_chunk 22 80 28 = true := by decide +kernel
set_option maxRecDepth 100000 in
theorem mjl_22_0 : mj_chl 22 0 108 = true := by decide +kernel
set_option maxRecDepth 100000 in
theorem mjl_22 : ∀ k, k < mj_len 22 → mj_ckl 22 k = true := mj_l0 mjl_22_0
set_option maxRecDepth 100000 in
theorem mjk_22 : ∀ k, k < mj_len 22 → mj_ckp 22 k = true := mj_cj (mj_cj (mj_ch0 mjk_22_0) (mj_ch mjk_22_40)) (mj_ch mjk_22_80)
set_option maxRecDepth 100000 in
theorem mjm_22 : mj_ckm 22 = true := by decide +kernel
set_option maxRecDepth 100000 in
theorem mjk_23_0 : mj_chunk 23 0 40 = true := by decide +kernel
set_option maxRecDepth 100000 in
theorem mjk_23_40 : mj_chunk 23 40 31 = true := by decide +kernel
set_option maxRecDepth 100000 in
theorem mjl_23_0 : mj_chl 23 0 71 = true := by decide +kernel
set_option maxRecDepth 100000 in
theorem mjl_23 : ∀ k, k < mj_len 23 → mj_ckl 23 k = true := mj_l0 mjl_23_0
set_option maxRecDepth 100000 in
theorem mjk_23 : ∀ k, k < mj_len 23 → mj_ckp 23 k = true := mj_cj (mj_ch0 mjk_23_0) (mj_ch mjk_23_40)
set_option maxRecDepth 100000 in
theorem mjm_23 : mj_ckm 23 = true := by decide +kernel
set_option maxRecDepth 100000 in
theorem mjk_24_0 : mj_chunk 24 0 28 = true := by decide +kernel
set_option maxRecDepth 100000 in
theorem mjl_24_0 : mj_chl 24 0 28 = true := by decide +kernel
set_option maxRecDepth 100000 in
theorem mjl_24 : ∀ k, k < mj_len 24 → mj_ckl 24 k = true := mj_l0 mjl_24_0
set_option maxRecDepth 100000 in
theorem mjk_24 : ∀ k, k < mj_len 24 → mj_ckp 24 k = true := mj_ch0 mjk_24_0
set_option maxRecDepth 100000 in
theorem mjm_24 : mj_ckm 24 = true := by decide +kernel
set_option maxRecDepth 100000 in
theorem mjk_25_0 : mj_chunk 25 0 40 = true := by decide +kernel
set_option maxRecDepth 100000 in
theorem mjk_25_40 : mj_chunk 25 40 40 = true := by decide +kernel
set_option maxRecDepth 100000 in
theorem mjk_25_80 : mj_chunk 25 80 13 = true := by decide +kernel
set_option maxRecDepth 100000 in
theorem mjl_25_0 : mj_chl 25 0 93 = true := by decide +kernel
set_option maxRecDepth 100000 in
theorem mjl_25 : ∀ k, k < mj_len 25 → mj_ckl 25 k = true := mj_l0 mjl_25_0
set_option maxRecDepth 100000 in
theorem mjk_25 : ∀ k, k < mj_len 25 → mj_ckp 25 k = true := mj_cj (mj_cj (mj_ch0 mjk_25_0) (mj_ch mjk_25_40)) (mj_ch mjk_25_80)
set_option maxRecDepth 100000 in
theorem mjm_25 : mj_ckm 25 = true := by decide +kernel
set_option maxRecDepth 100000 in
theorem mjk_26_0 : mj_chunk 26 0 40 = true := by decide +kernel
set_option maxRecDepth 100000 in
theorem mjk_26_40 : mj_chunk 26 40 6 = true := by decide +kernel
set_option maxRecDepth 100000 in
theorem mjl_26_0 : mj_chl 26 0 46 = true := by decide +kernel
set_option maxRecDepth 100000 in
theorem mjl_26 : ∀ k, k < mj_len 26 → mj_ckl 26 k = true := mj_l0 mjl_26_0
set_option maxRecDepth 100000 in
theorem mjk_26 : ∀ k, k < mj_len 26 → mj_ckp 26 k = true := mj_cj (mj_ch0 mjk_26_0) (mj_ch mjk_26_40)
set_option maxRecDepth 100000 in
theorem mjm_26 : mj_ckm 26 = true := by decide +kernel
set_option maxRecDepth 100000 in
theorem mjk_27_0 : mj_chunk 27 0 29 = true := by decide +kernel
set_option maxRecDepth 100000 in
theorem mjl_27_0 : mj_chl 27 0 29 = true := by decide +kernel
set_option maxRecDepth 100000 in
theorem mjl_27 : ∀ k, k < mj_len 27 → mj_ckl 27 k = true := mj_l0 mjl_27_0
set_option maxRecDepth 100000 in
theorem mjk_27 : ∀ k, k < mj_len 27 → mj_ckp 27 k = true := mj_ch0 mjk_27_0
set_option maxRecDepth 100000 in
theorem mjm_27 : mj_ckm 27 = true := by decide +kernel
set_option maxRecDepth 100000 in
theorem mjk_28_0 : mj_chunk 28 0 40 = true := by decide +kernel
set_option maxRecDepth 100000 in
theorem mjl_28_0 : mj_chl 28 0 40 = true := by decide +kernel
set_option maxRecDepth 100000 in
theorem mjl_28 : ∀ k, k < mj_len 28 → mj_ckl 28 k = true := mj_l0 mjl_28_0
set_option maxRecDepth 100000 in
theorem mjk_28 : ∀ k, k < mj_len 28 → mj_ckp 28 k = true := mj_ch0 mjk_28_0
set_option maxRecDepth 100000 in
theorem mjm_28 : mj_ckm 28 = true := by decide +kernel
set_option maxRecDepth 100000 in
theorem mjk_29_0 : mj_chunk 29 0 16 = true := by decide +kernel
set_option maxRecDepth 100000 in
theorem mjl_29_0 : mj_chl 29 0 16 = true := by decide +kernel
set_option maxRecDepth 100000 in
theorem mjl_29 : ∀ k, k < mj_len 29 → mj_ckl 29 k = true := mj_l0 mjl_29_0
set_option maxRecDepth 100000 in
theorem mjk_29 : ∀ k, k < mj_len 29 → mj_ckp 29 k = true := mj_ch0 mjk_29_0
set_option maxRecDepth 100000 in
theorem mjm_29 : mj_ckm 29 = true := by decide +kernel
set_option maxRecDepth 100000 in
theorem mjk_30_0 : mj_chunk 30 0 21 = true := by decide +kernel
set_option maxRecDepth 100000 in
theorem mjl_30_0 : mj_chl 30 0 21 = true := by decide +kernel
set_option maxRecDepth 100000 in
theorem mjl_30 : ∀ k, k < mj_len 30 → mj_ckl 30 k = true := mj_l0 mjl_30_0
set_option maxRecDepth 100000 in
theorem mjk_30 : ∀ k, k < mj_len 30 → mj_ckp 30 k = true := mj_ch0 mjk_30_0
set_option maxRecDepth 100000 in
theorem mjm_30 : mj_ckm 30 = true := by decide +kernel
set_option maxRecDepth 100000 in
theorem mjk_31_0 : mj_chunk 31 0 14 = true := by decide +kernel
set_option maxRecDepth 100000 in
theorem mjl_31_0 : mj_chl 31 0 14 = true := by decide +kernel
set_option maxRecDepth 100000 in
theorem mjl_31 : ∀ k, k < mj_len 31 → mj_ckl 31 k = true := mj_l0 mjl_31_0
set_option maxRecDepth 100000 in
theorem mjk_31 : ∀ k, k < mj_len 31 → mj_ckp 31 k = true := mj_ch0 mjk_31_0
set_option maxRecDepth 100000 in
theorem mjm_31 : mj_ckm 31 = true := by decide +kernel
set_option maxRecDepth 100000 in
theorem mjk_32_0 : mj_chunk 32 0 40 = true := by decide +kernel
set_option maxRecDepth 100000 in
theorem mjk_32_40 : mj_chunk 32 40 4 = true := by decide +kernel
set_option maxRecDepth 100000 in
theorem mjl_32_0 : mj_chl 32 0 44 = true := by decide +kernel
set_option maxRecDepth 100000 in
theorem mjl_32 : ∀ k, k < mj_len 32 → mj_ckl 32 k = true := mj_l0 mjl_32_0
set_option maxRecDepth 100000 in
theorem mjk_32 : ∀ k, k < mj_len 32 → mj_ckp 32 k = true := mj_cj (mj_ch0 mjk_32_0) (mj_ch mjk_32_40)
set_option maxRecDepth 100000 in
theorem mjm_32 : mj_ckm 32 = true := by decide +kernel
set_option maxRecDepth 100000 in
theorem mjk_33_0 : mj_chunk 33 0 40 = true := by decide +kernel
set_option maxRecDepth 100000 in
theorem mjk_33_40 : mj_chunk 33 40 34 = true := by decide +kernel
set_option maxRecDepth 100000 in
theorem mjl_33_0 : mj_chl 33 0 74 = true := by decide +kernel
set_option maxRecDepth 100000 in
theorem mjl_33 : ∀ k, k < mj_len 33 → mj_ckl 33 k = true := mj_l0 mjl_33_0
set_option maxRecDepth 100000 in
theorem mjk_33 : ∀ k, k < mj_len 33 → mj_ckp 33 k = true := mj_cj (mj_ch0 mjk_33_0) (mj_ch mjk_33_40)
set_option maxRecDepth 100000 in
theorem mjm_33 : mj_ckm 33 = true := by decide +kernel
set_option maxRecDepth 100000 in
theorem mjk_34_0 : mj_chunk 34 0 40 = true := by decide +kernel
set_option maxRecDepth 100000 in
theorem mjk_34_40 : mj_chunk 34 40 3 = true := by decide +kernel
set_option maxRecDepth 100000 in
theorem mjl_34_0 : mj_chl 34 0 43 = true := by decide +kernel
set_option maxRecDepth 100000 in
theorem mjl_34 : ∀ k, k < mj_len 34 → mj_ckl 34 k = true := mj_l0 mjl_34_0
set_option maxRecDepth 100000 in
theorem mjk_34 : ∀ k, k < mj_len 34 → mj_ckp 34 k = true := mj_cj (mj_ch0 mjk_34_0) (mj_ch mjk_34_40)
set_option maxRecDepth 100000 in
theorem mjm_34 : mj_ckm 34 = true := by decide +kernel
set_option maxRecDepth 100000 in
theorem mjk_35_0 : mj_chunk 35 0 13 = true := by decide +kernel
set_option maxRecDepth 100000 in
theorem mjl_35_0 : mj_chl 35 0 13 = true := by decide +kernel
set_option maxRecDepth 100000 in
theorem mjl_35 : ∀ k, k < mj_len 35 → mj_ckl 35 k = true := mj_l0 mjl_35_0
set_option maxRecDepth 100000 in
theorem mjk_35 : ∀ k, k < mj_len 35 → mj_ckp 35 k = true := mj_ch0 mjk_35_0
set_option maxRecDepth 100000 in
theorem mjm_35 : mj_ckm 35 = true := by decide +kernel
set_option maxRecDepth 100000 in
theorem mjk_36_0 : mj_chunk 36 0 40 = true := by decide +kernel
set_option maxRecDepth 100000 in
theorem mjk_36_40 : mj_chunk 36 40 24 = true := by decide +kernel
set_option maxRecDepth 100000 in
theorem mjl_36_0 : mj_chl 36 0 64 = true := by decide +kernel
set_option maxRecDepth 100000 in
theorem mjl_36 : ∀ k, k < mj_len 36 → mj_ckl 36 k = true := mj_l0 mjl_36_0
set_option maxRecDepth 100000 in
theorem mjk_36 : ∀ k, k < mj_len 36 → mj_ckp 36 k = true := mj_cj (mj_ch0 mjk_36_0) (mj_ch mjk_36_40)
set_option maxRecDepth 100000 in
theorem mjm_36 : mj_ckm 36 = true := by decide +kernel
set_option maxRecDepth 100000 in
theorem mjk_37_0 : mj_chunk 37 0 21 = true := by decide +kernel
set_option maxRecDepth 100000 in
theorem mjl_37_0 : mj_chl 37 0 21 = true := by decide +kernel
set_option maxRecDepth 100000 in
theorem mjl_37 : ∀ k, k < mj_len 37 → mj_ckl 37 k = true := mj_l0 mjl_37_0
set_option maxRecDepth 100000 in
theorem mjk_37 : ∀ k, k < mj_len 37 → mj_ckp 37 k = true := mj_ch0 mjk_37_0
set_option maxRecDepth 100000 in
theorem mjm_37 : mj_ckm 37 = true := by decide +kernel
set_option maxRecDepth 100000 in
theorem mjk_38_0 : mj_chunk 38 0 40 = true := by decide +kernel
set_option maxRecDepth 100000 in
theorem mjk_38_40 : mj_chunk 38 40 40 = true := by decide +kernel
set_option maxRecDepth 100000 in
theorem mjk_38_80 : mj_chunk 38 80 40 = true := by decide +kernel
set_option maxRecDepth 100000 in
theorem mjk_38_120 : mj_chunk 38 120 1 = true := by decide +kernel
set_option maxRecDepth 100000 in
theorem mjl_38_0 : mj_chl 38 0 120 = true := by decide +kernel
set_option maxRecDepth 100000 in
theorem mjl_38_120 : mj_chl 38 120 1 = true := by decide +kernel
set_option maxRecDepth 100000 in
theorem mjl_38 : ∀ k, k < mj_len 38 → mj_ckl 38 k = true := mj_lj (mj_l0 mjl_38_0) (mj_lh mjl_38_120)
set_option maxRecDepth 100000 in
theorem mjk_38 : ∀ k, k < mj_len 38 → mj_ckp 38 k = true := mj_cj (mj_cj (mj_cj (mj_ch0 mjk_38_0) (mj_ch mjk_38_40)) (mj_ch mjk_38_80)) (mj_ch mjk_38_120)
set_option maxRecDepth 100000 in
theorem mjm_38 : mj_ckm 38 = true := by decide +kernel
set_option maxRecDepth 100000 in
theorem mjk_39_0 : mj_chunk 39 0 40 = true := by decide +kernel
set_option maxRecDepth 100000 in
theorem mjk_39_40 : mj_chunk 39 40 40 = true := by decide +kernel
set_option maxRecDepth 100000 in
theorem mjk_39_80 : mj_chunk 39 80 40 = true := by decide +kernel
set_option maxRecDepth 100000 in
theorem mjk_39_120 : mj_chunk 39 120 10 = true := by decide +kernel
set_option maxRecDepth 100000 in
theorem mjl_39_0 : mj_chl 39 0 120 = true := by decide +kernel
set_option maxRecDepth 100000 in
theorem mjl_39_120 : mj_chl 39 120 10 = true := by decide +kernel
set_option maxRecDepth 100000 in
theorem mjl_39 : ∀ k, k < mj_len 39 → mj_ckl 39 k = true := mj_lj (mj_l0 mjl_39_0) (mj_lh mjl_39_120)
set_option maxRecDepth 100000 in
theorem mjk_39 : ∀ k, k < mj_len 39 → mj_ckp 39 k = true := mj_cj (mj_cj (mj_cj (mj_ch0 mjk_39_0) (mj_ch mjk_39_40)) (mj_ch mjk_39_80)) (mj_ch mjk_39_120)
set_option maxRecDepth 100000 in
theorem mjm_39 : mj_ckm 39 = true := by decide +kernel
set_option maxRecDepth 100000 in
theorem mjk_40_0 : mj_chunk 40 0 40 = true := by decide +kernel
set_option maxRecDepth 100000 in
theorem mjk_40_40 : mj_chunk 40 40 15 = true := by decide +kernel
set_option maxRecDepth 100000 in
theorem mjl_40_0 : mj_chl 40 0 55 = true := by decide +kernel
set_option maxRecDepth 100000 in
theorem mjl_40 : ∀ k, k < mj_len 40 → mj_ckl 40 k = true := mj_l0 mjl_40_0
set_option maxRecDepth 100000 in
theorem mjk_40 : ∀ k, k < mj_len 40 → mj_ckp 40 k = true := mj_cj (mj_ch0 mjk_40_0) (mj_ch mjk_40_40)
set_option maxRecDepth 100000 in
theorem mjm_40 : mj_ckm 40 = true := by decide +kernel
set_option maxRecDepth 100000 in
theorem mjk_41_0 : mj_chunk 41 0 21 = true := by decide +kernel
set_option maxRecDepth 100000 in
theorem mjl_41_0 : mj_chl 41 0 21 = true := by decide +kernel
set_option maxRecDepth 100000 in
theorem mjl_41 : ∀ k, k < mj_len 41 → mj_ckl 41 k = true := mj_l0 mjl_41_0
set_option maxRecDepth 100000 in
theorem mjk_41 : ∀ k, k < mj_len 41 → mj_ckp 41 k = true := mj_ch0 mjk_41_0
set_option maxRecDepth 100000 in
theorem mjm_41 : mj_ckm 41 = true := by decide +kernel
set_option maxRecDepth 100000 in
theorem mjk_42_0 : mj_chunk 42 0 40 = true := by decide +kernel
set_option maxRecDepth 100000 in
theorem mjk_42_40 : mj_chunk 42 40 13 = true := by decide +kernel
set_option maxRecDepth 100000 in
theorem mjl_42_0 : mj_chl 42 0 53 = true := by decide +kernel
set_option maxRecDepth 100000 in
theorem mjl_42 : ∀ k, k < mj_len 42 → mj_ckl 42 k = true := mj_l0 mjl_42_0
set_option maxRecDepth 100000 in
theorem mjk_42 : ∀ k, k < mj_len 42 → mj_ckp 42 k = true := mj_cj (mj_ch0 mjk_42_0) (mj_ch mjk_42_40)
set_option maxRecDepth 100000 in
theorem mjm_42 : mj_ckm 42 = true := by decide +kernel
set_option maxRecDepth 100000 in
theorem mjk_43_0 : mj_chunk 43 0 13 = true := by decide +kernel
set_option maxRecDepth 100000 in
theorem mjl_43_0 : mj_chl 43 0 13 = true := by decide +kernel
set_option maxRecDepth 100000 in
theorem mjl_43 : ∀ k, k < mj_len 43 → mj_ckl 43 k = true := mj_l0 mjl_43_0
set_option maxRecDepth 100000 in
theorem mjk_43 : ∀ k, k < mj_len 43 → mj_ckp 43 k = true := mj_ch0 mjk_43_0
set_option maxRecDepth 100000 in
theorem mjm_43 : mj_ckm 43 = true := by decide +kernel
set_option maxRecDepth 100000 in
theorem mjk_44_0 : mj_chunk 44 0 24 = true := by decide +kernel
set_option maxRecDepth 100000 in
theorem mjl_44_0 : mj_chl 44 0 24 = true := by decide +kernel
set_option maxRecDepth 100000 in
theorem mjl_44 : ∀ k, k < mj_len 44 → mj_ckl 44 k = true := mj_l0 mjl_44_0
set_option maxRecDepth 100000 in
theorem mjk_44 : ∀ k, k < mj_len 44 → mj_ckp 44 k = true := mj_ch0 mjk_44_0
set_option maxRecDepth 100000 in
theorem mjm_44 : mj_ckm 44 = true := by decide +kernel
set_option maxRecDepth 100000 in
theorem mjk_45_0 : mj_chunk 45 0 40 = true := by decide +kernel
set_option maxRecDepth 100000 in
theorem mjk_45_40 : mj_chunk 45 40 40 = true := by decide +kernel
set_option maxRecDepth 100000 in
theorem mjk_45_80 : mj_chunk 45 80 40 = true := by decide +kernel
set_option maxRecDepth 100000 in
theorem mjk_45_120 : mj_chunk 45 120 40 = true := by decide +kernel
set_option maxRecDepth 100000 in
theorem mjk_45_160 : mj_chunk 45 160 28 = true := by decide +kernel
set_option maxRecDepth 100000 in
theorem mjl_45_0 : mj_chl 45 0 120 = true := by decide +kernel
set_option maxRecDepth 100000 in
theorem mjl_45_120 : mj_chl 45 120 68 = true := by decide +kernel
set_option maxRecDepth 100000 in
theorem mjl_45 : ∀ k, k < mj_len 45 → mj_ckl 45 k = true := mj_lj (mj_l0 mjl_45_0) (mj_lh mjl_45_120)
set_option maxRecDepth 100000 in
theorem mjk_45 : ∀ k, k < mj_len 45 → mj_ckp 45 k = true := mj_cj (mj_cj (mj_cj (mj_cj (mj_ch0 mjk_45_0) (mj_ch mjk_45_40)) (mj_ch mjk_45_80)) (mj_ch mjk_45_120)) (mj_ch mjk_45_160)
set_option maxRecDepth 100000 in
theorem mjm_45 : mj_ckm 45 = true := by decide +kernel
set_option maxRecDepth 100000 in
theorem mjk_46_0 : mj_chunk 46 0 23 = true := by decide +kernel
set_option maxRecDepth 100000 in
theorem mjl_46_0 : mj_chl 46 0 23 = true := by decide +kernel
set_option maxRecDepth 100000 in
theorem mjl_46 : ∀ k, k < mj_len 46 → mj_ckl 46 k = true := mj_l0 mjl_46_0
set_option maxRecDepth 100000 in
theorem mjk_46 : ∀ k, k < mj_len 46 → mj_ckp 46 k = true := mj_ch0 mjk_46_0
set_option maxRecDepth 100000 in
theorem mjm_46 : mj_ckm 46 = true := by decide +kernel
set_option maxRecDepth 100000 in
theorem mjk_47_0 : mj_chunk 47 0 36 = true := by decide +kernel
set_option maxRecDepth 100000 in
theorem mjl_47_0 : mj_chl 47 0 36 = true := by decide +kernel
set_option maxRecDepth 100000 in
theorem mjl_47 : ∀ k, k < mj_len 47 → mj_ckl 47 k = true := mj_l0 mjl_47_0
set_option maxRecDepth 100000 in
theorem mjk_47 : ∀ k, k < mj_len 47 → mj_ckp 47 k = true := mj_ch0 mjk_47_0
set_option maxRecDepth 100000 in
theorem mjm_47 : mj_ckm 47 = true := by decide +kernel
set_option maxRecDepth 100000 in
theorem mjk_48_0 : mj_chunk 48 0 40 = true := by decide +kernel
set_option maxRecDepth 100000 in
theorem mjk_48_40 : mj_chunk 48 40 40 = true := by decide +kernel
set_option maxRecDepth 100000 in
theorem mjk_48_80 : mj_chunk 48 80 23 = true := by decide +kernel
set_option maxRecDepth 100000 in
theorem mjl_48_0 : mj_chl 48 0 103 = true := by decide +kernel
set_option maxRecDepth 100000 in
theorem mjl_48 : ∀ k, k < mj_len 48 → mj_ckl 48 k = true := mj_l0 mjl_48_0
set_option maxRecDepth 100000 in
theorem mjk_48 : ∀ k, k < mj_len 48 → mj_ckp 48 k = true := mj_cj (mj_cj (mj_ch0 mjk_48_0) (mj_ch mjk_48_40)) (mj_ch mjk_48_80)
set_option maxRecDepth 100000 in
theorem mjm_48 : mj_ckm 48 = true := by decide +kernel
set_option maxRecDepth 100000 in
theorem mjk_49_0 : mj_chunk 49 0 40 = true := by decide +kernel
set_option maxRecDepth 100000 in
theorem mjk_49_40 : mj_chunk 49 40 40 = true := by decide +kernel
set_option maxRecDepth 100000 in
theorem mjk_49_80 : mj_chunk 49 80 37 = true := by decide +kernel
set_option maxRecDepth 100000 in
theorem mjl_49_0 : mj_chl 49 0 117 = true := by decide +kernel
set_option maxRecDepth 100000 in
theorem mjl_49 : ∀ k, k < mj_len 49 → mj_ckl 49 k = true := mj_l0 mjl_49_0
set_option maxRecDepth 100000 in
theorem mjk_49 : ∀ k, k < mj_len 49 → mj_ckp 49 k = true := mj_cj (mj_cj (mj_ch0 mjk_49_0) (mj_ch mjk_49_40)) (mj_ch mjk_49_80)
set_option maxRecDepth 100000 in
theorem mjm_49 : mj_ckm 49 = true := by decide +kernel
set_option maxRecDepth 100000 in
theorem mjk_50_0 : mj_chunk 50 0 40 = true := by decide +kernel
set_option maxRecDepth 100000 in
theorem mjk_50_40 : mj_chunk 50 40 40 = true := by decide +kernel
set_option maxRecDepth 100000 in
theorem mjk_50_80 : mj_chunk 50 80 40 = true := by decide +kernel
set_option maxRecDepth 100000 in
theorem mjk_50_120 : mj_chunk 50 120 12 = true := by decide +kernel
set_option maxRecDepth 100000 in
theorem mjl_50_0 : mj_chl 50 0 120 = true := by decide +kernel
set_option maxRecDepth 100000 in
theorem mjl_50_120 : mj_chl 50 120 12 = true := by decide +kernel
set_option maxRecDepth 100000 in
theorem mjl_50 : ∀ k, k < mj_len 50 → mj_ckl 50 k = true := mj_lj (mj_l0 mjl_50_0) (mj_lh mjl_50_120)
set_option maxRecDepth 100000 in
theorem mjk_50 : ∀ k, k < mj_len 50 → mj_ckp 50 k = true := mj_cj (mj_cj (mj_cj (mj_ch0 mjk_50_0) (mj_ch mjk_50_40)) (mj_ch mjk_50_80)) (mj_ch mjk_50_120)
set_option maxRecDepth 100000 in
theorem mjm_50 : mj_ckm 50 = true := by decide +kernel
set_option maxRecDepth 100000 in
theorem mjk_51_0 : mj_chunk 51 0 27 = true := by decide +kernel
set_option maxRecDepth 100000 in
theorem mjl_51_0 : mj_chl 51 0 27 = true := by decide +kernel
set_option maxRecDepth 100000 in
theorem mjl_51 : ∀ k, k < mj_len 51 → mj_ckl 51 k = true := mj_l0 mjl_51_0
set_option maxRecDepth 100000 in
theorem mjk_51 : ∀ k, k < mj_len 51 → mj_ckp 51 k = true := mj_ch0 mjk_51_0
set_option maxRecDepth 100000 in
theorem mjm_51 : mj_ckm 51 = true := by decide +kernel
set_option maxRecDepth 100000 in
theorem mjk_52_0 : mj_chunk 52 0 18 = true := by decide +kernel
set_option maxRecDepth 100000 in
theorem mjl_52_0 : mj_chl 52 0 18 = true := by decide +kernel
set_option maxRecDepth 100000 in
theorem mjl_52 : ∀ k, k < mj_len 52 → mj_ckl 52 k = true := mj_l0 mjl_52_0
set_option maxRecDepth 100000 in
theorem mjk_52 : ∀ k, k < mj_len 52 → mj_ckp 52 k = true := mj_ch0 mjk_52_0
set_option maxRecDepth 100000 in
theorem mjm_52 : mj_ckm 52 = true := by decide +kernel
set_option maxRecDepth 100000 in
theorem mjk_53_0 : mj_chunk 53 0 35 = true := by decide +kernel
set_option maxRecDepth 100000 in
theorem mjl_53_0 : mj_chl 53 0 35 = true := by decide +kernel
set_option maxRecDepth 100000 in
theorem mjl_53 : ∀ k, k < mj_len 53 → mj_ckl 53 k = true := mj_l0 mjl_53_0
set_option maxRecDepth 100000 in
theorem mjk_53 : ∀ k, k < mj_len 53 → mj_ckp 53 k = true := mj_ch0 mjk_53_0
set_option maxRecDepth 100000 in
theorem mjm_53 : mj_ckm 53 = true := by decide +kernel
set_option maxRecDepth 100000 in
theorem mjk_54_0 : mj_chunk 54 0 40 = true := by decide +kernel
set_option maxRecDepth 100000 in
theorem mjk_54_40 : mj_chunk 54 40 40 = true := by decide +kernel
set_option maxRecDepth 100000 in
theorem mjk_54_80 : mj_chunk 54 80 40 = true := by decide +kernel
set_option maxRecDepth 100000 in
theorem mjk_54_120 : mj_chunk 54 120 40 = true := by decide +kernel
set_option maxRecDepth 100000 in
theorem mjk_54_160 : mj_chunk 54 160 11 = true := by decide +kernel
set_option maxRecDepth 100000 in
theorem mjl_54_0 : mj_chl 54 0 120 = true := by decide +kernel
set_option maxRecDepth 100000 in
theorem mjl_54_120 : mj_chl 54 120 51 = true := by decide +kernel
set_option maxRecDepth 100000 in
theorem mjl_54 : ∀ k, k < mj_len 54 → mj_ckl 54 k = true := mj_lj (mj_l0 mjl_54_0) (mj_lh mjl_54_120)
set_option maxRecDepth 100000 in
theorem mjk_54 : ∀ k, k < mj_len 54 → mj_ckp 54 k = true := mj_cj (mj_cj (mj_cj (mj_cj (mj_ch0 mjk_54_0) (mj_ch mjk_54_40)) (mj_ch mjk_54_80)) (mj_ch mjk_54_120)) (mj_ch mjk_54_160)
set_option maxRecDepth 100000 in
theorem mjm_54 : mj_ckm 54 = true := by decide +kernel
set_option maxRecDepth 100000 in
theorem mjk_55_0 : mj_chunk 55 0 40 = true := by decide +kernel
set_option maxRecDepth 100000 in
theorem mjk_55_40 : mj_chunk 55 40 40 = true := by decide +kernel
set_option maxRecDepth 100000 in
theorem mjk_55_80 : mj_chunk 55 80 40 = true := by decide +kernel
set_option maxRecDepth 100000 in
theorem mjk_55_120 : mj_chunk 55 120 40 = true := by decide +kernel
set_option maxRecDepth 100000 in
theorem mjk_55_160 : mj_chunk 55 160 40 = true := by decide +kernel
set_option maxRecDepth 100000 in
theorem mjk_55_200 : mj_chunk 55 200 40 = true := by decide +kernel
set_option maxRecDepth 100000 in
theorem mjk_55_240 : mj_chunk 55 240 9 = true := by decide +kernel
set_option maxRecDepth 100000 in
theorem mjl_55_0 : mj_chl 55 0 120 = true := by decide +kernel
set_option maxRecDepth 100000 in
theorem mjl_55_120 : mj_chl 55 120 120 = true := by decide +kernel
set_option maxRecDepth 100000 in
theorem mjl_55_240 : mj_chl 55 240 9 = true := by decide +kernel
set_option maxRecDepth 100000 in
theorem mjl_55 : ∀ k, k < mj_len 55 → mj_ckl 55 k = true := mj_lj (mj_lj (mj_l0 mjl_55_0) (mj_lh mjl_55_120)) (mj_lh mjl_55_240)
set_option maxRecDepth 100000 in
theorem mjk_55 : ∀ k, k < mj_len 55 → mj_ckp 55 k = true := mj_cj (mj_cj (mj_cj (mj_cj (mj_cj (mj_cj (mj_ch0 mjk_55_0) (mj_ch mjk_55_40)) (mj_ch mjk_55_80)) (mj_ch mjk_55_120)) (mj_ch mjk_55_160)) (mj_ch mjk_55_200)) (mj_ch mjk_55_240)
set_option maxRecDepth 100000 in
theorem mjm_55 : mj_ckm 55 = true := by decide +kernel
