set_option maxRecDepth 100000 in
theorem smt170_4 (k : Nat) : ∀ f, mt170_4 k = some f → mo_Sim 170 k f := mt_leaf (ms_ald (e := (.aload_n 0, 1, 0, 0, 0)) rfl (fun _ _ _ => rfl) : mo_Sim 170 0 (ma_lda 0 1)) (mt_leaf (ms_ild (e := (.iload_n 1, 2, 0, 0, 0)) rfl (fun _ _ _ => rfl) : mo_Sim 170 1 (ma_load 0 1 2)) (mt_leaf (ms_invV (p := 1) (e := (.invokevirtual 149, 5, 161, 0, 1212)) rfl rfl (fun _ _ _ => rfl) rfl rfl rfl (by decide) : mo_Sim 170 2 (ma_inv 161 2 2 12 5)) (mt_none)))
set_option maxRecDepth 100000 in
theorem smt170_5 (k : Nat) : ∀ f, mt170_5 k = some f → mo_Sim 170 k f := mt_leaf (ms_if0 (e := (.ifCond .eq 23, 8, 28, 0, 0)) rfl (fun _ _ _ => rfl) : mo_Sim 170 5 (ma_if0 .eq 28 5 8)) (mt_leaf (ms_ild (e := (.iload_n 2, 9, 0, 0, 0)) rfl (fun _ _ _ => rfl) : mo_Sim 170 8 (ma_load 0 2 9)) (mt_leaf (ms_if0 (e := (.ifCond .lt 19, 12, 28, 0, 0)) rfl (fun _ _ _ => rfl) : mo_Sim 170 9 (ma_if0 .lt 28 9 12)) (mt_none)))
set_option maxRecDepth 100000 in
theorem smt170_3 (k : Nat) : ∀ f, mt170_3 k = some f → mo_Sim 170 k f := mt_node (smt170_4 k) (smt170_5 k)
set_option maxRecDepth 100000 in
theorem smt170_7 (k : Nat) : ∀ f, mt170_7 k = some f → mo_Sim 170 k f := mt_leaf (ms_ild (e := (.iload_n 2, 13, 0, 0, 0)) rfl (fun _ _ _ => rfl) : mo_Sim 170 12 (ma_load 0 2 13)) (mt_leaf (ms_ald (e := (.aload_n 0, 14, 0, 0, 0)) rfl (fun _ _ _ => rfl) : mo_Sim 170 13 (ma_lda 0 14)) (mt_leaf (ms_getf (e := (.getfield 7, 17, 12, 0, 1052)) rfl (fun _ _ _ => rfl) : mo_Sim 170 14 (ma_getf 12 0 17)) (mt_none)))
set_option maxRecDepth 100000 in
theorem smt170_8 (k : Nat) : ∀ f, mt170_8 k = some f → mo_Sim 170 k f := mt_leaf (ms_ald (e := (.aload_n 0, 18, 0, 0, 0)) rfl (fun _ _ _ => rfl) : mo_Sim 170 17 (ma_lda 0 18)) (mt_leaf (ms_ild (e := (.iload_n 1, 19, 0, 0, 0)) rfl (fun _ _ _ => rfl) : mo_Sim 170 18 (ma_load 0 1 19)) (mt_leaf (ms_invV (p := 1) (e := (.invokevirtual 133, 22, 162, 0, 1220)) rfl rfl (fun _ _ _ => rfl) rfl rfl rfl (by decide) : mo_Sim 170 19 (ma_inv 162 2 2 12 22)) (mt_leaf (ms_invS (e := (.invokestatic 88, 25, 140, 1, 1155)) rfl rfl (fun _ _ _ => rfl) rfl rfl : mo_Sim 170 22 (ma_inv 140 2 4 20 25)) (mt_none))))
set_option maxRecDepth 100000 in
theorem smt170_6 (k : Nat) : ∀ f, mt170_6 k = some f → mo_Sim 170 k f := mt_node (smt170_7 k) (smt170_8 k)
set_option maxRecDepth 100000 in
theorem smt170_2 (k : Nat) : ∀ f, mt170_2 k = some f → mo_Sim 170 k f := mt_node (smt170_3 k) (smt170_6 k)
set_option maxRecDepth 100000 in
theorem smt170_11 (k : Nat) : ∀ f, mt170_11 k = some f → mo_Sim 170 k f := mt_leaf (ms_if2 (e := (.if_icmp .lt 5, 28, 30, 0, 0)) rfl (fun _ _ _ => rfl) : mo_Sim 170 25 (ma_if2 .lt 30 25 28)) (mt_leaf (ms_pushi (e := (.iconst (-1), 29, 0, 0, 0)) rfl (fun _ _ _ => rfl) (by decide) : mo_Sim 170 28 (ma_push (ma_ci (.negSucc 0)) 29)) (mt_leaf (ms_ret (e := (.ireturn, 30, 0, 0, 0)) rfl (Or.inl ⟨rfl, rfl, (fun _ _ _ => rfl)⟩) : mo_Sim 170 29 (ma_ret 0)) (mt_none)))
set_option maxRecDepth 100000 in
theorem smt170_12 (k : Nat) : ∀ f, mt170_12 k = some f → mo_Sim 170 k f := mt_leaf (ms_ald (e := (.aload_n 0, 31, 0, 0, 0)) rfl (fun _ _ _ => rfl) : mo_Sim 170 30 (ma_lda 0 31)) (mt_leaf (ms_ild (e := (.iload_n 1, 32, 0, 0, 0)) rfl (fun _ _ _ => rfl) : mo_Sim 170 31 (ma_load 0 1 32)) (mt_leaf (ms_invV (p := 1) (e := (.invokevirtual 152, 35, 167, 0, 1216)) rfl rfl (fun _ _ _ => rfl) rfl rfl rfl (by decide) : mo_Sim 170 32 (ma_inv 167 2 8 12 35)) (mt_leaf (ms_ald (e := (.aload_n 0, 36, 0, 0, 0)) rfl (fun _ _ _ => rfl) : mo_Sim 170 35 (ma_lda 0 36)) (mt_none))))
set_option maxRecDepth 100000 in
theorem smt170_10 (k : Nat) : ∀ f, mt170_10 k = some f → mo_Sim 170 k f := mt_node (smt170_11 k) (smt170_12 k)
set_option maxRecDepth 100000 in
theorem smt170_14 (k : Nat) : ∀ f, mt170_14 k = some f → mo_Sim 170 k f := mt_leaf (ms_getf (e := (.getfield 51, 39, 12, 16, 1068)) rfl (fun _ _ _ => rfl) : mo_Sim 170 36 (ma_getf 12 16 39)) (mt_leaf (ms_ild (e := (.iload_n 1, 40, 0, 0, 0)) rfl (fun _ _ _ => rfl) : mo_Sim 170 39 (ma_load 0 1 40)) (mt_leaf (ms_iald (e := (.iaload, 41, 0, 0, 0)) rfl (fun _ _ _ => rfl) : mo_Sim 170 40 (ma_iald 40 41)) (mt_none)))
set_option maxRecDepth 100000 in
theorem smt170_15 (k : Nat) : ∀ f, mt170_15 k = some f → mo_Sim 170 k f := mt_leaf (ms_pushi (e := (.bipush (-8), 43, 0, 0, 0)) rfl (fun _ _ _ => rfl) (by decide) : mo_Sim 170 41 (ma_push (ma_ci (.negSucc 7)) 43)) (mt_leaf (ms_if2 (e := (.if_icmp .ne 6, 46, 49, 0, 0)) rfl (fun _ _ _ => rfl) : mo_Sim 170 43 (ma_if2 .ne 49 43 46)) (mt_leaf (ms_pushi (e := (.bipush (-8), 48, 0, 0, 0)) rfl (fun _ _ _ => rfl) (by decide) : mo_Sim 170 46 (ma_push (ma_ci (.negSucc 7)) 48)) (mt_leaf (ms_ret (e := (.ireturn, 49, 0, 0, 0)) rfl (Or.inl ⟨rfl, rfl, (fun _ _ _ => rfl)⟩) : mo_Sim 170 48 (ma_ret 0)) (mt_none))))
set_option maxRecDepth 100000 in
theorem smt170_13 (k : Nat) : ∀ f, mt170_13 k = some f → mo_Sim 170 k f := mt_node (smt170_14 k) (smt170_15 k)
set_option maxRecDepth 100000 in
theorem smt170_9 (k : Nat) : ∀ f, mt170_9 k = some f → mo_Sim 170 k f := mt_node (smt170_10 k) (smt170_13 k)
set_option maxRecDepth 100000 in
theorem smt170_1 (k : Nat) : ∀ f, mt170_1 k = some f → mo_Sim 170 k f := mt_node (smt170_2 k) (smt170_9 k)
set_option maxRecDepth 100000 in
theorem smt170_19 (k : Nat) : ∀ f, mt170_19 k = some f → mo_Sim 170 k f := mt_leaf (ms_pushi (e := (.iconst 0, 50, 0, 0, 0)) rfl (fun _ _ _ => rfl) (by decide) : mo_Sim 170 49 (ma_push (ma_ci (.ofNat 0)) 50)) (mt_leaf (ms_ist (e := (.istore_n 3, 51, 0, 0, 0)) rfl (fun _ _ _ => rfl) : mo_Sim 170 50 (ma_stor 0 3 51)) (mt_leaf (ms_ild (e := (.iload_n 3, 52, 0, 0, 0)) rfl (fun _ _ _ => rfl) : mo_Sim 170 51 (ma_load 0 3 52)) (mt_none)))
set_option maxRecDepth 100000 in
theorem smt170_20 (k : Nat) : ∀ f, mt170_20 k = some f → mo_Sim 170 k f := mt_leaf (ms_ald (e := (.aload_n 0, 53, 0, 0, 0)) rfl (fun _ _ _ => rfl) : mo_Sim 170 52 (ma_lda 0 53)) (mt_leaf (ms_getf (e := (.getfield 51, 56, 12, 16, 1068)) rfl (fun _ _ _ => rfl) : mo_Sim 170 53 (ma_getf 12 16 56)) (mt_leaf (ms_ild (e := (.iload_n 1, 57, 0, 0, 0)) rfl (fun _ _ _ => rfl) : mo_Sim 170 56 (ma_load 0 1 57)) (mt_none)))
set_option maxRecDepth 100000 in
theorem smt170_18 (k : Nat) : ∀ f, mt170_18 k = some f → mo_Sim 170 k f := mt_node (smt170_19 k) (smt170_20 k)
set_option maxRecDepth 100000 in
theorem smt170_22 (k : Nat) : ∀ f, mt170_22 k = some f → mo_Sim 170 k f := mt_leaf (ms_iald (e := (.iaload, 58, 0, 0, 0)) rfl (fun _ _ _ => rfl) : mo_Sim 170 57 (ma_iald 57 58)) (mt_leaf (ms_if2 (e := (.if_icmp .ge 32, 61, 90, 0, 0)) rfl (fun _ _ _ => rfl) : mo_Sim 170 58 (ma_if2 .ge 90 58 61)) (mt_leaf (ms_ald (e := (.aload_n 0, 62, 0, 0, 0)) rfl (fun _ _ _ => rfl) : mo_Sim 170 61 (ma_lda 0 62)) (mt_none)))
set_option maxRecDepth 100000 in
theorem smt170_23 (k : Nat) : ∀ f, mt170_23 k = some f → mo_Sim 170 k f := mt_leaf (ms_getf (e := (.getfield 45, 65, 12, 14, 1066)) rfl (fun _ _ _ => rfl) : mo_Sim 170 62 (ma_getf 12 14 65)) (mt_leaf (ms_pushi (e := (.sipush 256, 68, 0, 0, 0)) rfl (fun _ _ _ => rfl) (by decide) : mo_Sim 170 65 (ma_push (ma_ci (.ofNat 256)) 68)) (mt_leaf (ms_ild (e := (.iload_n 1, 69, 0, 0, 0)) rfl (fun _ _ _ => rfl) : mo_Sim 170 68 (ma_load 0 1 69)) (mt_leaf (ms_i2 (e := (.imul, 70, 0, 0, 0)) rfl (fun _ _ _ => rfl) hf_mul : mo_Sim 170 69 (ma_i2 ma_fmul 69 70)) (mt_none))))
set_option maxRecDepth 100000 in
theorem smt170_21 (k : Nat) : ∀ f, mt170_21 k = some f → mo_Sim 170 k f := mt_node (smt170_22 k) (smt170_23 k)
set_option maxRecDepth 100000 in
theorem smt170_17 (k : Nat) : ∀ f, mt170_17 k = some f → mo_Sim 170 k f := mt_node (smt170_18 k) (smt170_21 k)
set_option maxRecDepth 100000 in
theorem smt170_26 (k : Nat) : ∀ f, mt170_26 k = some f → mo_Sim 170 k f := mt_leaf (ms_ild (e := (.iload_n 3, 71, 0, 0, 0)) rfl (fun _ _ _ => rfl) : mo_Sim 170 70 (ma_load 0 3 71)) (mt_leaf (ms_iadd (e := (.iadd, 72, 0, 0, 0)) rfl (fun _ _ _ => rfl) : mo_Sim 170 71 (ma_iadd 71 72)) (mt_leaf (ms_iald (e := (.iaload, 73, 0, 0, 0)) rfl (fun _ _ _ => rfl) : mo_Sim 170 72 (ma_iald 72 73)) (mt_none)))
set_option maxRecDepth 100000 in
theorem smt170_27 (k : Nat) : ∀ f, mt170_27 k = some f → mo_Sim 170 k f := mt_leaf (ms_ild (e := (.iload_n 2, 74, 0, 0, 0)) rfl (fun _ _ _ => rfl) : mo_Sim 170 73 (ma_load 0 2 74)) (mt_leaf (ms_if2 (e := (.if_icmp .ne 10, 77, 84, 0, 0)) rfl (fun _ _ _ => rfl) : mo_Sim 170 74 (ma_if2 .ne 84 74 77)) (mt_leaf (ms_ald (e := (.aload_n 0, 78, 0, 0, 0)) rfl (fun _ _ _ => rfl) : mo_Sim 170 77 (ma_lda 0 78)) (mt_leaf (ms_ild (e := (.iload_n 1, 79, 0, 0, 0)) rfl (fun _ _ _ => rfl) : mo_Sim 170 78 (ma_load 0 1 79)) (mt_none))))
set_option maxRecDepth 100000 in
theorem smt170_25 (k : Nat) : ∀ f, mt170_25 k = some f → mo_Sim 170 k f := mt_node (smt170_26 k) (smt170_27 k)
set_option maxRecDepth 100000 in
theorem smt170_29 (k : Nat) : ∀ f, mt170_29 k = some f → mo_Sim 170 k f := mt_leaf (ms_ild (e := (.iload_n 3, 80, 0, 0, 0)) rfl (fun _ _ _ => rfl) : mo_Sim 170 79 (ma_load 0 3 80)) (mt_leaf (ms_invV (p := 2) (e := (.invokevirtual 120, 83, 164, 0, 1232)) rfl rfl (fun _ _ _ => rfl) rfl rfl rfl (by decide) : mo_Sim 170 80 (ma_inv 164 3 3 12 83)) (mt_leaf (ms_ret (e := (.ireturn, 84, 0, 0, 0)) rfl (Or.inl ⟨rfl, rfl, (fun _ _ _ => rfl)⟩) : mo_Sim 170 83 (ma_ret 0)) (mt_none)))
set_option maxRecDepth 100000 in
theorem smt170_30 (k : Nat) : ∀ f, mt170_30 k = some f → mo_Sim 170 k f := mt_leaf (ms_iinc (e := (.iinc 3 1, 87, 0, 0, 0)) rfl (fun _ _ _ => rfl) (by decide) : mo_Sim 170 84 (ma_iinc 3 (.ofNat 1) 84 87)) (mt_leaf (ms_goto (e := (.goto (-36), 90, 51, 0, 0)) rfl (fun _ _ _ => rfl) : mo_Sim 170 87 (ma_goto 51)) (mt_leaf (ms_pushi (e := (.bipush (-7), 92, 0, 0, 0)) rfl (fun _ _ _ => rfl) (by decide) : mo_Sim 170 90 (ma_push (ma_ci (.negSucc 6)) 92)) (mt_leaf (ms_ret (e := (.ireturn, 93, 0, 0, 0)) rfl (Or.inl ⟨rfl, rfl, (fun _ _ _ => rfl)⟩) : mo_Sim 170 92 (ma_ret 0)) (mt_none))))
set_option maxRecDepth 100000 in
theorem smt170_28 (k : Nat) : ∀ f, mt170_28 k = some f → mo_Sim 170 k f := mt_node (smt170_29 k) (smt170_30 k)
set_option maxRecDepth 100000 in
theorem smt170_24 (k : Nat) : ∀ f, mt170_24 k = some f → mo_Sim 170 k f := mt_node (smt170_25 k) (smt170_28 k)
set_option maxRecDepth 100000 in
theorem smt170_16 (k : Nat) : ∀ f, mt170_16 k = some f → mo_Sim 170 k f := mt_node (smt170_17 k) (smt170_24 k)
set_option maxRecDepth 100000 in
theorem smt170_0 (k : Nat) : ∀ f, mt170_0 k = some f → mo_Sim 170 k f := mt_node (smt170_1 k) (smt170_16 k)
set_option maxRecDepth 100000 in
theorem smt171_3 (k : Nat) : ∀ f, mt171_3 k = some f → mo_Sim 171 k f := mt_leaf (ms_lld (e := (.lload_n 1, 1, 0, 0, 0)) rfl (fun _ _ _ => rfl) : mo_Sim 171 0 (ma_load 2 1 1)) (mt_leaf (ms_lst (e := (.lstore 4, 3, 0, 0, 0)) rfl (fun _ _ _ => rfl) : mo_Sim 171 1 (ma_stol 4 3)) (mt_leaf (ms_pushi (e := (.iconst 0, 4, 0, 0, 0)) rfl (fun _ _ _ => rfl) (by decide) : mo_Sim 171 3 (ma_push (ma_ci (.ofNat 0)) 4)) (mt_none)))
set_option maxRecDepth 100000 in
theorem smt171_4 (k : Nat) : ∀ f, mt171_4 k = some f → mo_Sim 171 k f := mt_leaf (ms_ist (e := (.istore 6, 6, 0, 0, 0)) rfl (fun _ _ _ => rfl) : mo_Sim 171 4 (ma_stor 0 6 6)) (mt_leaf (ms_ild (e := (.iload 6, 8, 0, 0, 0)) rfl (fun _ _ _ => rfl) : mo_Sim 171 6 (ma_load 0 6 8)) (mt_leaf (ms_ild (e := (.iload_n 3, 9, 0, 0, 0)) rfl (fun _ _ _ => rfl) : mo_Sim 171 8 (ma_load 0 3 9)) (mt_none)))
set_option maxRecDepth 100000 in
theorem smt171_2 (k : Nat) : ∀ f, mt171_2 k = some f → mo_Sim 171 k f := mt_node (smt171_3 k) (smt171_4 k)
set_option maxRecDepth 100000 in
theorem smt171_6 (k : Nat) : ∀ f, mt171_6 k = some f → mo_Sim 171 k f := mt_leaf (ms_if2 (e := (.if_icmp .ge 35, 12, 44, 0, 0)) rfl (fun _ _ _ => rfl) : mo_Sim 171 9 (ma_if2 .ge 44 9 12)) (mt_leaf (ms_ald (e := (.aload_n 0, 13, 0, 0, 0)) rfl (fun _ _ _ => rfl) : mo_Sim 171 12 (ma_lda 0 13)) (mt_leaf (ms_getf (e := (.getfield 60, 16, 12, 19, 1071)) rfl (fun _ _ _ => rfl) : mo_Sim 171 13 (ma_getf 12 19 16)) (mt_none)))
set_option maxRecDepth 100000 in
theorem smt171_7 (k : Nat) : ∀ f, mt171_7 k = some f → mo_Sim 171 k f := mt_leaf (ms_ild (e := (.iload 6, 18, 0, 0, 0)) rfl (fun _ _ _ => rfl) : mo_Sim 171 16 (ma_load 0 6 18)) (mt_leaf (ms_lld (e := (.lload 4, 20, 0, 0, 0)) rfl (fun _ _ _ => rfl) : mo_Sim 171 18 (ma_load 2 4 20)) (mt_leaf (ms_ald (e := (.aload_n 0, 21, 0, 0, 0)) rfl (fun _ _ _ => rfl) : mo_Sim 171 20 (ma_lda 0 21)) (mt_leaf (ms_getf (e := (.getfield 7, 24, 12, 0, 1052)) rfl (fun _ _ _ => rfl) : mo_Sim 171 21 (ma_getf 12 0 24)) (mt_none))))
set_option maxRecDepth 100000 in
theorem smt171_5 (k : Nat) : ∀ f, mt171_5 k = some f → mo_Sim 171 k f := mt_node (smt171_6 k) (smt171_7 k)
set_option maxRecDepth 100000 in
theorem smt171_1 (k : Nat) : ∀ f, mt171_1 k = some f → mo_Sim 171 k f := mt_node (smt171_2 k) (smt171_5 k)
set_option maxRecDepth 100000 in
theorem smt171_10 (k : Nat) : ∀ f, mt171_10 k = some f → mo_Sim 171 k f := mt_leaf (ms_i2l (e := (.i2l, 25, 0, 0, 0)) rfl (fun _ _ _ => rfl) : mo_Sim 171 24 (ma_i2l 25)) (mt_leaf (ms_ld (e := (.lrem, 26, 0, 0, 0)) rfl (fun _ _ _ => rfl) hg_rem : mo_Sim 171 25 (ma_ld ma_grem 26)) (mt_leaf (ms_l2i (e := (.l2i, 27, 0, 0, 0)) rfl (fun _ _ _ => rfl) : mo_Sim 171 26 (ma_l2i 27)) (mt_none)))
set_option maxRecDepth 100000 in
theorem smt171_11 (k : Nat) : ∀ f, mt171_11 k = some f → mo_Sim 171 k f := mt_leaf (ms_iast (e := (.iastore, 28, 0, 0, 0)) rfl rfl (fun _ _ _ => rfl) : mo_Sim 171 27 (ma_ast 13 0 27 28)) (mt_leaf (ms_lld (e := (.lload 4, 30, 0, 0, 0)) rfl (fun _ _ _ => rfl) : mo_Sim 171 28 (ma_load 2 4 30)) (mt_leaf (ms_ald (e := (.aload_n 0, 31, 0, 0, 0)) rfl (fun _ _ _ => rfl) : mo_Sim 171 30 (ma_lda 0 31)) (mt_none)))
set_option maxRecDepth 100000 in
theorem smt171_9 (k : Nat) : ∀ f, mt171_9 k = some f → mo_Sim 171 k f := mt_node (smt171_10 k) (smt171_11 k)
set_option maxRecDepth 100000 in
theorem smt171_13 (k : Nat) : ∀ f, mt171_13 k = some f → mo_Sim 171 k f := mt_leaf (ms_getf (e := (.getfield 7, 34, 12, 0, 1052)) rfl (fun _ _ _ => rfl) : mo_Sim 171 31 (ma_getf 12 0 34)) (mt_leaf (ms_i2l (e := (.i2l, 35, 0, 0, 0)) rfl (fun _ _ _ => rfl) : mo_Sim 171 34 (ma_i2l 35)) (mt_leaf (ms_ld (e := (.ldiv, 36, 0, 0, 0)) rfl (fun _ _ _ => rfl) hg_div : mo_Sim 171 35 (ma_ld ma_gdiv 36)) (mt_none)))
set_option maxRecDepth 100000 in
theorem smt171_14 (k : Nat) : ∀ f, mt171_14 k = some f → mo_Sim 171 k f := mt_leaf (ms_lst (e := (.lstore 4, 38, 0, 0, 0)) rfl (fun _ _ _ => rfl) : mo_Sim 171 36 (ma_stol 4 38)) (mt_leaf (ms_iinc (e := (.iinc 6 1, 41, 0, 0, 0)) rfl (fun _ _ _ => rfl) (by decide) : mo_Sim 171 38 (ma_iinc 6 (.ofNat 1) 38 41)) (mt_leaf (ms_goto (e := (.goto (-35), 44, 6, 0, 0)) rfl (fun _ _ _ => rfl) : mo_Sim 171 41 (ma_goto 6)) (mt_leaf (ms_retv (e := (.return_, 45, 0, 0, 0)) rfl rfl (fun _ _ _ => rfl) : mo_Sim 171 44 (ma_retv)) (mt_none))))
set_option maxRecDepth 100000 in
theorem smt171_12 (k : Nat) : ∀ f, mt171_12 k = some f → mo_Sim 171 k f := mt_node (smt171_13 k) (smt171_14 k)
set_option maxRecDepth 100000 in
theorem smt171_8 (k : Nat) : ∀ f, mt171_8 k = some f → mo_Sim 171 k f := mt_node (smt171_9 k) (smt171_12 k)
set_option maxRecDepth 100000 in
theorem smt171_0 (k : Nat) : ∀ f, mt171_0 k = some f → mo_Sim 171 k f := mt_node (smt171_1 k) (smt171_8 k)
set_option maxRecDepth 100000 in
theorem smt172_3 (k : Nat) : ∀ f, mt172_3 k = some f → mo_Sim 172 k f := mt_leaf (ms_pushi (e := (.iconst 0, 1, 0, 0, 0)) rfl (fun _ _ _ => rfl) (by decide) : mo_Sim 172 0 (ma_push (ma_ci (.ofNat 0)) 1)) (mt_leaf (ms_ist (e := (.istore_n 3, 2, 0, 0, 0)) rfl (fun _ _ _ => rfl) : mo_Sim 172 1 (ma_stor 0 3 2)) (mt_leaf (ms_ild (e := (.iload_n 3, 3, 0, 0, 0)) rfl (fun _ _ _ => rfl) : mo_Sim 172 2 (ma_load 0 3 3)) (mt_leaf (ms_ald (e := (.aload_n 0, 4, 0, 0, 0)) rfl (fun _ _ _ => rfl) : mo_Sim 172 3 (ma_lda 0 4)) (mt_none))))
set_option maxRecDepth 100000 in
theorem smt172_4 (k : Nat) : ∀ f, mt172_4 k = some f → mo_Sim 172 k f := mt_leaf (ms_getf (e := (.getfield 75, 7, 12, 7, 1059)) rfl (fun _ _ _ => rfl) : mo_Sim 172 4 (ma_getf 12 7 7)) (mt_leaf (ms_if2 (e := (.if_icmp .ge 46, 10, 53, 0, 0)) rfl (fun _ _ _ => rfl) : mo_Sim 172 7 (ma_if2 .ge 53 7 10)) (mt_leaf (ms_ild (e := (.iload_n 2, 11, 0, 0, 0)) rfl (fun _ _ _ => rfl) : mo_Sim 172 10 (ma_load 0 2 11)) (mt_leaf (ms_ild (e := (.iload_n 3, 12, 0, 0, 0)) rfl (fun _ _ _ => rfl) : mo_Sim 172 11 (ma_load 0 3 12)) (mt_none))))
set_option maxRecDepth 100000 in
theorem smt172_2 (k : Nat) : ∀ f, mt172_2 k = some f → mo_Sim 172 k f := mt_node (smt172_3 k) (smt172_4 k)
set_option maxRecDepth 100000 in
theorem smt172_6 (k : Nat) : ∀ f, mt172_6 k = some f → mo_Sim 172 k f := mt_leaf (ms_i2 (e := (.ishr, 13, 0, 0, 0)) rfl (fun _ _ _ => rfl) hf_shr : mo_Sim 172 12 (ma_i2 ma_fshr 12 13)) (mt_leaf (ms_pushi (e := (.iconst 1, 14, 0, 0, 0)) rfl (fun _ _ _ => rfl) (by decide) : mo_Sim 172 13 (ma_push (ma_ci (.ofNat 1)) 14)) (mt_leaf (ms_iand (e := (.iand, 15, 0, 0, 0)) rfl (fun _ _ _ => rfl) : mo_Sim 172 14 (ma_iand 14 15)) (mt_leaf (ms_pushi (e := (.iconst 1, 16, 0, 0, 0)) rfl (fun _ _ _ => rfl) (by decide) : mo_Sim 172 15 (ma_push (ma_ci (.ofNat 1)) 16)) (mt_none))))
set_option maxRecDepth 100000 in
theorem smt172_8 (k : Nat) : ∀ f, mt172_8 k = some f → mo_Sim 172 k f := mt_leaf (ms_if2 (e := (.if_icmp .ne 31, 19, 47, 0, 0)) rfl (fun _ _ _ => rfl) : mo_Sim 172 16 (ma_if2 .ne 47 16 19)) (mt_leaf (ms_ald (e := (.aload_n 0, 20, 0, 0, 0)) rfl (fun _ _ _ => rfl) : mo_Sim 172 19 (ma_lda 0 20)) (mt_none))
set_option maxRecDepth 100000 in
theorem smt172_9 (k : Nat) : ∀ f, mt172_9 k = some f → mo_Sim 172 k f := mt_leaf (ms_ild (e := (.iload_n 1, 21, 0, 0, 0)) rfl (fun _ _ _ => rfl) : mo_Sim 172 20 (ma_load 0 1 21)) (mt_leaf (ms_ald (e := (.aload_n 0, 22, 0, 0, 0)) rfl (fun _ _ _ => rfl) : mo_Sim 172 21 (ma_lda 0 22)) (mt_leaf (ms_getf (e := (.getfield 60, 25, 12, 19, 1071)) rfl (fun _ _ _ => rfl) : mo_Sim 172 22 (ma_getf 12 19 25)) (mt_none)))
set_option maxRecDepth 100000 in
theorem smt172_7 (k : Nat) : ∀ f, mt172_7 k = some f → mo_Sim 172 k f := mt_node (smt172_8 k) (smt172_9 k)
set_option maxRecDepth 100000 in
theorem smt172_5 (k : Nat) : ∀ f, mt172_5 k = some f → mo_Sim 172 k f := mt_node (smt172_6 k) (smt172_7 k)
set_option maxRecDepth 100000 in
theorem smt172_1 (k : Nat) : ∀ f, mt172_1 k = some f → mo_Sim 172 k f := mt_node (smt172_2 k) (smt172_5 k)
set_option maxRecDepth 100000 in
theorem smt172_12 (k : Nat) : ∀ f, mt172_12 k = some f → mo_Sim 172 k f := mt_leaf (ms_pushi (e := (.iconst 0, 26, 0, 0, 0)) rfl (fun _ _ _ => rfl) (by decide) : mo_Sim 172 25 (ma_push (ma_ci (.ofNat 0)) 26)) (mt_leaf (ms_ald (e := (.aload_n 0, 27, 0, 0, 0)) rfl (fun _ _ _ => rfl) : mo_Sim 172 26 (ma_lda 0 27)) (mt_leaf (ms_getf (e := (.getfield 30, 30, 12, 8, 1060)) rfl (fun _ _ _ => rfl) : mo_Sim 172 27 (ma_getf 12 8 30)) (mt_leaf (ms_ild (e := (.iload_n 3, 31, 0, 0, 0)) rfl (fun _ _ _ => rfl) : mo_Sim 172 30 (ma_load 0 3 31)) (mt_none))))
set_option maxRecDepth 100000 in
theorem smt172_14 (k : Nat) : ∀ f, mt172_14 k = some f → mo_Sim 172 k f := mt_leaf (ms_iald (e := (.iaload, 32, 0, 0, 0)) rfl (fun _ _ _ => rfl) : mo_Sim 172 31 (ma_iald 31 32)) (mt_leaf (ms_ald (e := (.aload_n 0, 33, 0, 0, 0)) rfl (fun _ _ _ => rfl) : mo_Sim 172 32 (ma_lda 0 33)) (mt_none))
set_option maxRecDepth 100000 in
theorem smt172_15 (k : Nat) : ∀ f, mt172_15 k = some f → mo_Sim 172 k f := mt_leaf (ms_getf (e := (.getfield 33, 36, 12, 9, 1061)) rfl (fun _ _ _ => rfl) : mo_Sim 172 33 (ma_getf 12 9 36)) (mt_leaf (ms_ild (e := (.iload_n 3, 37, 0, 0, 0)) rfl (fun _ _ _ => rfl) : mo_Sim 172 36 (ma_load 0 3 37)) (mt_leaf (ms_lald (e := (.laload, 38, 0, 0, 0)) rfl (fun _ _ _ => rfl) : mo_Sim 172 37 (ma_lald 38)) (mt_none)))
set_option maxRecDepth 100000 in
theorem smt172_13 (k : Nat) : ∀ f, mt172_13 k = some f → mo_Sim 172 k f := mt_node (smt172_14 k) (smt172_15 k)
set_option maxRecDepth 100000 in
theorem smt172_11 (k : Nat) : ∀ f, mt172_11 k = some f → mo_Sim 172 k f := mt_node (smt172_12 k) (smt172_13 k)
set_option maxRecDepth 100000 in
theorem smt172_17 (k : Nat) : ∀ f, mt172_17 k = some f → mo_Sim 172 k f := mt_leaf (ms_invV (p := 5) (e := (.invokevirtual 104, 41, 154, 0, 1184)) rfl rfl (fun _ _ _ => rfl) rfl rfl rfl (by decide) : mo_Sim 172 38 (ma_inv 154 6 12 12 41)) (mt_leaf (ms_pushi (e := (.iconst (-1), 42, 0, 0, 0)) rfl (fun _ _ _ => rfl) (by decide) : mo_Sim 172 41 (ma_push (ma_ci (.negSucc 0)) 42)) (mt_leaf (ms_if2 (e := (.if_icmp .eq 5, 45, 47, 0, 0)) rfl (fun _ _ _ => rfl) : mo_Sim 172 42 (ma_if2 .eq 47 42 45)) (mt_leaf (ms_pushi (e := (.iconst 0, 46, 0, 0, 0)) rfl (fun _ _ _ => rfl) (by decide) : mo_Sim 172 45 (ma_push (ma_ci (.ofNat 0)) 46)) (mt_none))))
set_option maxRecDepth 100000 in
theorem smt172_19 (k : Nat) : ∀ f, mt172_19 k = some f → mo_Sim 172 k f := mt_leaf (ms_ret (e := (.ireturn, 47, 0, 0, 0)) rfl (Or.inr (Or.inl ⟨rfl, rfl, (fun _ _ _ => rfl)⟩)) : mo_Sim 172 46 (ma_ret 1)) (mt_leaf (ms_iinc (e := (.iinc 3 1, 50, 0, 0, 0)) rfl (fun _ _ _ => rfl) (by decide) : mo_Sim 172 47 (ma_iinc 3 (.ofNat 1) 47 50)) (mt_none))
set_option maxRecDepth 100000 in
theorem smt172_20 (k : Nat) : ∀ f, mt172_20 k = some f → mo_Sim 172 k f := mt_leaf (ms_goto (e := (.goto (-48), 53, 2, 0, 0)) rfl (fun _ _ _ => rfl) : mo_Sim 172 50 (ma_goto 2)) (mt_leaf (ms_pushi (e := (.iconst 1, 54, 0, 0, 0)) rfl (fun _ _ _ => rfl) (by decide) : mo_Sim 172 53 (ma_push (ma_ci (.ofNat 1)) 54)) (mt_leaf (ms_ret (e := (.ireturn, 55, 0, 0, 0)) rfl (Or.inr (Or.inl ⟨rfl, rfl, (fun _ _ _ => rfl)⟩)) : mo_Sim 172 54 (ma_ret 1)) (mt_none)))
set_option maxRecDepth 100000 in
theorem smt172_18 (k : Nat) : ∀ f, mt172_18 k = some f → mo_Sim 172 k f := mt_node (smt172_19 k) (smt172_20 k)
set_option maxRecDepth 100000 in
theorem smt172_16 (k : Nat) : ∀ f, mt172_16 k = some f → mo_Sim 172 k f := mt_node (smt172_17 k) (smt172_18 k)
set_option maxRecDepth 100000 in
theorem smt172_10 (k : Nat) : ∀ f, mt172_10 k = some f → mo_Sim 172 k f := mt_node (smt172_11 k) (smt172_16 k)
set_option maxRecDepth 100000 in
theorem smt172_0 (k : Nat) : ∀ f, mt172_0 k = some f → mo_Sim 172 k f := mt_node (smt172_1 k) (smt172_10 k)
set_option maxRecDepth 100000 in
theorem smt173_4 (k : Nat) : ∀ f, mt173_4 k = some f → mo_Sim 173 k f := mt_leaf (ms_ild (e := (.iload_n 1, 1, 0, 0, 0)) rfl (fun _ _ _ => rfl) : mo_Sim 173 0 (ma_load 0 1 1)) (mt_leaf (ms_pushi (e := (.iconst 1, 2, 0, 0, 0)) rfl (fun _ _ _ => rfl) (by decide) : mo_Sim 173 1 (ma_push (ma_ci (.ofNat 1)) 2)) (mt_leaf (ms_ald (e := (.aload_n 0, 3, 0, 0, 0)) rfl (fun _ _ _ => rfl) : mo_Sim 173 2 (ma_lda 0 3)) (mt_leaf (ms_getf (e := (.getfield 75, 6, 12, 7, 1059)) rfl (fun _ _ _ => rfl) : mo_Sim 173 3 (ma_getf 12 7 6)) (mt_none))))
set_option maxRecDepth 100000 in
theorem smt173_5 (k : Nat) : ∀ f, mt173_5 k = some f → mo_Sim 173 k f := mt_leaf (ms_i2 (e := (.ishl, 7, 0, 0, 0)) rfl (fun _ _ _ => rfl) hf_shl : mo_Sim 173 6 (ma_i2 ma_fshl 6 7)) (mt_leaf (ms_pushi (e := (.iconst 1, 8, 0, 0, 0)) rfl (fun _ _ _ => rfl) (by decide) : mo_Sim 173 7 (ma_push (ma_ci (.ofNat 1)) 8)) (mt_leaf (ms_isub (e := (.isub, 9, 0, 0, 0)) rfl (fun _ _ _ => rfl) : mo_Sim 173 8 (ma_isub 8 9)) (mt_leaf (ms_iand (e := (.iand, 10, 0, 0, 0)) rfl (fun _ _ _ => rfl) : mo_Sim 173 9 (ma_iand 9 10)) (mt_none))))
set_option maxRecDepth 100000 in
theorem smt173_3 (k : Nat) : ∀ f, mt173_3 k = some f → mo_Sim 173 k f := mt_node (smt173_4 k) (smt173_5 k)
set_option maxRecDepth 100000 in
theorem smt173_7 (k : Nat) : ∀ f, mt173_7 k = some f → mo_Sim 173 k f := mt_leaf (ms_ist (e := (.istore_n 3, 11, 0, 0, 0)) rfl (fun _ _ _ => rfl) : mo_Sim 173 10 (ma_stor 0 3 11)) (mt_leaf (ms_ald (e := (.aload_n 0, 12, 0, 0, 0)) rfl (fun _ _ _ => rfl) : mo_Sim 173 11 (ma_lda 0 12)) (mt_leaf (ms_getf (e := (.getfield 63, 15, 12, 20, 1072)) rfl (fun _ _ _ => rfl) : mo_Sim 173 12 (ma_getf 12 20 15)) (mt_leaf (ms_ild (e := (.iload_n 3, 16, 0, 0, 0)) rfl (fun _ _ _ => rfl) : mo_Sim 173 15 (ma_load 0 3 16)) (mt_none))))
set_option maxRecDepth 100000 in
theorem smt173_8 (k : Nat) : ∀ f, mt173_8 k = some f → mo_Sim 173 k f := mt_leaf (ms_if2 (e := (.if_icmp .ne 12, 19, 28, 0, 0)) rfl (fun _ _ _ => rfl) : mo_Sim 173 16 (ma_if2 .ne 28 16 19)) (mt_leaf (ms_ald (e := (.aload_n 0, 20, 0, 0, 0)) rfl (fun _ _ _ => rfl) : mo_Sim 173 19 (ma_lda 0 20)) (mt_leaf (ms_getf (e := (.getfield 156, 23, 12, 21, 1073)) rfl (fun _ _ _ => rfl) : mo_Sim 173 20 (ma_getf 12 21 23)) (mt_leaf (ms_ild (e := (.iload_n 2, 24, 0, 0, 0)) rfl (fun _ _ _ => rfl) : mo_Sim 173 23 (ma_load 0 2 24)) (mt_none))))
set_option maxRecDepth 100000 in
theorem smt173_6 (k : Nat) : ∀ f, mt173_6 k = some f → mo_Sim 173 k f := mt_node (smt173_7 k) (smt173_8 k)
set_option maxRecDepth 100000 in
theorem smt173_2 (k : Nat) : ∀ f, mt173_2 k = some f → mo_Sim 173 k f := mt_node (smt173_3 k) (smt173_6 k)
set_option maxRecDepth 100000 in
theorem smt173_11 (k : Nat) : ∀ f, mt173_11 k = some f → mo_Sim 173 k f := mt_leaf (ms_if2 (e := (.if_icmp .ne 4, 27, 28, 0, 0)) rfl (fun _ _ _ => rfl) : mo_Sim 173 24 (ma_if2 .ne 28 24 27)) (mt_leaf (ms_retv (e := (.return_, 28, 0, 0, 0)) rfl rfl (fun _ _ _ => rfl) : mo_Sim 173 27 (ma_retv)) (mt_leaf (ms_ald (e := (.aload_n 0, 29, 0, 0, 0)) rfl (fun _ _ _ => rfl) : mo_Sim 173 28 (ma_lda 0 29)) (mt_leaf (ms_ild (e := (.iload_n 3, 30, 0, 0, 0)) rfl (fun _ _ _ => rfl) : mo_Sim 173 29 (ma_load 0 3 30)) (mt_none))))
set_option maxRecDepth 100000 in
theorem smt173_12 (k : Nat) : ∀ f, mt173_12 k = some f → mo_Sim 173 k f := mt_leaf (ms_putf (e := (.putfield 63, 33, 12, 20, 1072)) rfl rfl (fun _ _ _ => rfl) (Or.inl ⟨rfl, rfl⟩) : mo_Sim 173 30 (ma_putf 12 20 0 33)) (mt_leaf (ms_ald (e := (.aload_n 0, 34, 0, 0, 0)) rfl (fun _ _ _ => rfl) : mo_Sim 173 33 (ma_lda 0 34)) (mt_leaf (ms_ild (e := (.iload_n 2, 35, 0, 0, 0)) rfl (fun _ _ _ => rfl) : mo_Sim 173 34 (ma_load 0 2 35)) (mt_leaf (ms_putf (e := (.putfield 156, 38, 12, 21, 1073)) rfl rfl (fun _ _ _ => rfl) (Or.inl ⟨rfl, rfl⟩) : mo_Sim 173 35 (ma_putf 12 21 0 38)) (mt_none))))
set_option maxRecDepth 100000 in
theorem smt173_10 (k : Nat) : ∀ f, mt173_10 k = some f → mo_Sim 173 k f := mt_node (smt173_11 k) (smt173_12 k)
set_option maxRecDepth 100000 in
theorem smt173_14 (k : Nat) : ∀ f, mt173_14 k = some f → mo_Sim 173 k f := mt_leaf (ms_ald (e := (.aload_n 0, 39, 0, 0, 0)) rfl (fun _ _ _ => rfl) : mo_Sim 173 38 (ma_lda 0 39)) (mt_leaf (ms_pushi (e := (.iconst 0, 40, 0, 0, 0)) rfl (fun _ _ _ => rfl) (by decide) : mo_Sim 173 39 (ma_push (ma_ci (.ofNat 0)) 40)) (mt_leaf (ms_putf (e := (.putfield 159, 43, 12, 22, 1074)) rfl rfl (fun _ _ _ => rfl) (Or.inl ⟨rfl, rfl⟩) : mo_Sim 173 40 (ma_putf 12 22 0 43)) (mt_leaf (ms_ald (e := (.aload_n 0, 44, 0, 0, 0)) rfl (fun _ _ _ => rfl) : mo_Sim 173 43 (ma_lda 0 44)) (mt_none))))
set_option maxRecDepth 100000 in
theorem smt173_16 (k : Nat) : ∀ f, mt173_16 k = some f → mo_Sim 173 k f := mt_leaf (ms_ild (e := (.iload_n 2, 45, 0, 0, 0)) rfl (fun _ _ _ => rfl) : mo_Sim 173 44 (ma_load 0 2 45)) (mt_leaf (ms_invV (p := 1) (e := (.invokevirtual 133, 48, 162, 0, 1220)) rfl rfl (fun _ _ _ => rfl) rfl rfl rfl (by decide) : mo_Sim 173 45 (ma_inv 162 2 2 12 48)) (mt_none))
set_option maxRecDepth 100000 in
theorem smt173_17 (k : Nat) : ∀ f, mt173_17 k = some f → mo_Sim 173 k f := mt_leaf (ms_ist (e := (.istore 4, 50, 0, 0, 0)) rfl (fun _ _ _ => rfl) : mo_Sim 173 48 (ma_stor 0 4 50)) (mt_leaf (ms_ald (e := (.aload_n 0, 51, 0, 0, 0)) rfl (fun _ _ _ => rfl) : mo_Sim 173 50 (ma_lda 0 51)) (mt_leaf (ms_getf (e := (.getfield 7, 54, 12, 0, 1052)) rfl (fun _ _ _ => rfl) : mo_Sim 173 51 (ma_getf 12 0 54)) (mt_none)))
set_option maxRecDepth 100000 in
theorem smt173_15 (k : Nat) : ∀ f, mt173_15 k = some f → mo_Sim 173 k f := mt_node (smt173_16 k) (smt173_17 k)
set_option maxRecDepth 100000 in
theorem smt173_13 (k : Nat) : ∀ f, mt173_13 k = some f → mo_Sim 173 k f := mt_node (smt173_14 k) (smt173_15 k)
set_option maxRecDepth 100000 in
theorem smt173_9 (k : Nat) : ∀ f, mt173_9 k = some f → mo_Sim 173 k f := mt_node (smt173_10 k) (smt173_13 k)
set_option maxRecDepth 100000 in
theorem smt173_1 (k : Nat) : ∀ f, mt173_1 k = some f → mo_Sim 173 k f := mt_node (smt173_2 k) (smt173_9 k)
set_option maxRecDepth 100000 in
theorem smt173_21 (k : Nat) : ∀ f, mt173_21 k = some f → mo_Sim 173 k f := mt_leaf (ms_ild (e := (.iload 4, 56, 0, 0, 0)) rfl (fun _ _ _ => rfl) : mo_Sim 173 54 (ma_load 0 4 56)) (mt_leaf (ms_invS (e := (.invokestatic 88, 59, 140, 1, 1155)) rfl rfl (fun _ _ _ => rfl) rfl rfl : mo_Sim 173 56 (ma_inv 140 2 4 20 59)) (mt_leaf (ms_ist (e := (.istore 5, 61, 0, 0, 0)) rfl (fun _ _ _ => rfl) : mo_Sim 173 59 (ma_stor 0 5 61)) (mt_leaf (ms_pushi (e := (.iconst 0, 62, 0, 0, 0)) rfl (fun _ _ _ => rfl) (by decide) : mo_Sim 173 61 (ma_push (ma_ci (.ofNat 0)) 62)) (mt_none))))
set_option maxRecDepth 100000 in
theorem smt173_22 (k : Nat) : ∀ f, mt173_22 k = some f → mo_Sim 173 k f := mt_leaf (ms_ist (e := (.istore 6, 64, 0, 0, 0)) rfl (fun _ _ _ => rfl) : mo_Sim 173 62 (ma_stor 0 6 64)) (mt_leaf (ms_ild (e := (.iload 6, 66, 0, 0, 0)) rfl (fun _ _ _ => rfl) : mo_Sim 173 64 (ma_load 0 6 66)) (mt_leaf (ms_ild (e := (.iload 5, 68, 0, 0, 0)) rfl (fun _ _ _ => rfl) : mo_Sim 173 66 (ma_load 0 5 68)) (mt_leaf (ms_if2 (e := (.if_icmp .ge 48, 71, 116, 0, 0)) rfl (fun _ _ _ => rfl) : mo_Sim 173 68 (ma_if2 .ge 116 68 71)) (mt_none))))
set_option maxRecDepth 100000 in
theorem smt173_20 (k : Nat) : ∀ f, mt173_20 k = some f → mo_Sim 173 k f := mt_node (smt173_21 k) (smt173_22 k)
set_option maxRecDepth 100000 in
theorem smt173_24 (k : Nat) : ∀ f, mt173_24 k = some f → mo_Sim 173 k f := mt_leaf (ms_ald (e := (.aload_n 0, 72, 0, 0, 0)) rfl (fun _ _ _ => rfl) : mo_Sim 173 71 (ma_lda 0 72)) (mt_leaf (ms_ild (e := (.iload 6, 74, 0, 0, 0)) rfl (fun _ _ _ => rfl) : mo_Sim 173 72 (ma_load 0 6 74)) (mt_leaf (ms_i2l (e := (.i2l, 75, 0, 0, 0)) rfl (fun _ _ _ => rfl) : mo_Sim 173 74 (ma_i2l 75)) (mt_leaf (ms_ild (e := (.iload 4, 77, 0, 0, 0)) rfl (fun _ _ _ => rfl) : mo_Sim 173 75 (ma_load 0 4 77)) (mt_none))))
set_option maxRecDepth 100000 in
theorem smt173_25 (k : Nat) : ∀ f, mt173_25 k = some f → mo_Sim 173 k f := mt_leaf (ms_invV (p := 2) (e := (.invokevirtual 162, 80, 171, 0, 1262)) rfl rfl (fun _ _ _ => rfl) rfl rfl rfl (by decide) : mo_Sim 173 77 (ma_inv 171 3 7 12 80)) (mt_leaf (ms_ald (e := (.aload_n 0, 81, 0, 0, 0)) rfl (fun _ _ _ => rfl) : mo_Sim 173 80 (ma_lda 0 81)) (mt_leaf (ms_ild (e := (.iload_n 2, 82, 0, 0, 0)) rfl (fun _ _ _ => rfl) : mo_Sim 173 81 (ma_load 0 2 82)) (mt_leaf (ms_ild (e := (.iload_n 3, 83, 0, 0, 0)) rfl (fun _ _ _ => rfl) : mo_Sim 173 82 (ma_load 0 3 83)) (mt_none))))
set_option maxRecDepth 100000 in
theorem smt173_23 (k : Nat) : ∀ f, mt173_23 k = some f → mo_Sim 173 k f := mt_node (smt173_24 k) (smt173_25 k)
set_option maxRecDepth 100000 in
theorem smt173_19 (k : Nat) : ∀ f, mt173_19 k = some f → mo_Sim 173 k f := mt_node (smt173_20 k) (smt173_23 k)
set_option maxRecDepth 100000 in
theorem smt173_28 (k : Nat) : ∀ f, mt173_28 k = some f → mo_Sim 173 k f := mt_leaf (ms_invV (p := 2) (e := (.invokevirtual 166, 86, 172, 0, 1266)) rfl rfl (fun _ _ _ => rfl) rfl rfl rfl (by decide) : mo_Sim 173 83 (ma_inv 172 3 4 12 86)) (mt_leaf (ms_if0 (e := (.ifCond .eq 24, 89, 110, 0, 0)) rfl (fun _ _ _ => rfl) : mo_Sim 173 86 (ma_if0 .eq 110 86 89)) (mt_leaf (ms_ald (e := (.aload_n 0, 90, 0, 0, 0)) rfl (fun _ _ _ => rfl) : mo_Sim 173 89 (ma_lda 0 90)) (mt_leaf (ms_getf (e := (.getfield 66, 93, 12, 23, 1075)) rfl (fun _ _ _ => rfl) : mo_Sim 173 90 (ma_getf 12 23 93)) (mt_none))))
set_option maxRecDepth 100000 in
theorem smt173_29 (k : Nat) : ∀ f, mt173_29 k = some f → mo_Sim 173 k f := mt_leaf (ms_ald (e := (.aload_n 0, 94, 0, 0, 0)) rfl (fun _ _ _ => rfl) : mo_Sim 173 93 (ma_lda 0 94)) (mt_leaf (ms_getf (e := (.getfield 159, 97, 12, 22, 1074)) rfl (fun _ _ _ => rfl) : mo_Sim 173 94 (ma_getf 12 22 97)) (mt_leaf (ms_ild (e := (.iload 6, 99, 0, 0, 0)) rfl (fun _ _ _ => rfl) : mo_Sim 173 97 (ma_load 0 6 99)) (mt_leaf (ms_iast (e := (.iastore, 100, 0, 0, 0)) rfl rfl (fun _ _ _ => rfl) : mo_Sim 173 99 (ma_ast 13 0 99 100)) (mt_none))))
set_option maxRecDepth 100000 in
theorem smt173_27 (k : Nat) : ∀ f, mt173_27 k = some f → mo_Sim 173 k f := mt_node (smt173_28 k) (smt173_29 k)
set_option maxRecDepth 100000 in
theorem smt173_31 (k : Nat) : ∀ f, mt173_31 k = some f → mo_Sim 173 k f := mt_leaf (ms_ald (e := (.aload_n 0, 101, 0, 0, 0)) rfl (fun _ _ _ => rfl) : mo_Sim 173 100 (ma_lda 0 101)) (mt_leaf (ms_dup (e := (.dup, 102, 0, 0, 0)) rfl (fun _ _ _ => rfl) : mo_Sim 173 101 (ma_dup 102)) (mt_leaf (ms_getf (e := (.getfield 159, 105, 12, 22, 1074)) rfl (fun _ _ _ => rfl) : mo_Sim 173 102 (ma_getf 12 22 105)) (mt_leaf (ms_pushi (e := (.iconst 1, 106, 0, 0, 0)) rfl (fun _ _ _ => rfl) (by decide) : mo_Sim 173 105 (ma_push (ma_ci (.ofNat 1)) 106)) (mt_none))))
set_option maxRecDepth 100000 in
theorem smt173_33 (k : Nat) : ∀ f, mt173_33 k = some f → mo_Sim 173 k f := mt_leaf (ms_iadd (e := (.iadd, 107, 0, 0, 0)) rfl (fun _ _ _ => rfl) : mo_Sim 173 106 (ma_iadd 106 107)) (mt_leaf (ms_putf (e := (.putfield 159, 110, 12, 22, 1074)) rfl rfl (fun _ _ _ => rfl) (Or.inl ⟨rfl, rfl⟩) : mo_Sim 173 107 (ma_putf 12 22 0 110)) (mt_none))
set_option maxRecDepth 100000 in
theorem smt173_34 (k : Nat) : ∀ f, mt173_34 k = some f → mo_Sim 173 k f := mt_leaf (ms_iinc (e := (.iinc 6 1, 113, 0, 0, 0)) rfl (fun _ _ _ => rfl) (by decide) : mo_Sim 173 110 (ma_iinc 6 (.ofNat 1) 110 113)) (mt_leaf (ms_goto (e := (.goto (-49), 116, 64, 0, 0)) rfl (fun _ _ _ => rfl) : mo_Sim 173 113 (ma_goto 64)) (mt_leaf (ms_retv (e := (.return_, 117, 0, 0, 0)) rfl rfl (fun _ _ _ => rfl) : mo_Sim 173 116 (ma_retv)) (mt_none)))
set_option maxRecDepth 100000 in
theorem smt173_32 (k : Nat) : ∀ f, mt173_32 k = some f → mo_Sim 173 k f := mt_node (smt173_33 k) (smt173_34 k)
set_option maxRecDepth 100000 in
theorem smt173_30 (k : Nat) : ∀ f, mt173_30 k = some f → mo_Sim 173 k f := mt_node (smt173_31 k) (smt173_32 k)
set_option maxRecDepth 100000 in
theorem smt173_26 (k : Nat) : ∀ f, mt173_26 k = some f → mo_Sim 173 k f := mt_node (smt173_27 k) (smt173_30 k)
set_option maxRecDepth 100000 in
theorem smt173_18 (k : Nat) : ∀ f, mt173_18 k = some f → mo_Sim 173 k f := mt_node (smt173_19 k) (smt173_26 k)
set_option maxRecDepth 100000 in
theorem smt173_0 (k : Nat) : ∀ f, mt173_0 k = some f → mo_Sim 173 k f := mt_node (smt173_1 k) (smt173_18 k)
set_option maxRecDepth 100000 in
theorem smt174_2 (k : Nat) : ∀ f, mt174_2 k = some f → mo_Sim 174 k f := mt_leaf (ms_ald (e := (.aload_n 0, 1, 0, 0, 0)) rfl (fun _ _ _ => rfl) : mo_Sim 174 0 (ma_lda 0 1)) (mt_leaf (ms_ild (e := (.iload_n 2, 2, 0, 0, 0)) rfl (fun _ _ _ => rfl) : mo_Sim 174 1 (ma_load 0 2 2)) (mt_leaf (ms_invV (p := 1) (e := (.invokevirtual 149, 5, 161, 0, 1212)) rfl rfl (fun _ _ _ => rfl) rfl rfl rfl (by decide) : mo_Sim 174 2 (ma_inv 161 2 2 12 5)) (mt_none)))
set_option maxRecDepth 100000 in
theorem smt174_3 (k : Nat) : ∀ f, mt174_3 k = some f → mo_Sim 174 k f := mt_leaf (ms_if0 (e := (.ifCond .ne 5, 8, 10, 0, 0)) rfl (fun _ _ _ => rfl) : mo_Sim 174 5 (ma_if0 .ne 10 5 8)) (mt_leaf (ms_pushi (e := (.iconst (-1), 9, 0, 0, 0)) rfl (fun _ _ _ => rfl) (by decide) : mo_Sim 174 8 (ma_push (ma_ci (.negSucc 0)) 9)) (mt_leaf (ms_ret (e := (.ireturn, 10, 0, 0, 0)) rfl (Or.inl ⟨rfl, rfl, (fun _ _ _ => rfl)⟩) : mo_Sim 174 9 (ma_ret 0)) (mt_none)))
set_option maxRecDepth 100000 in
theorem smt174_1 (k : Nat) : ∀ f, mt174_1 k = some f → mo_Sim 174 k f := mt_node (smt174_2 k) (smt174_3 k)
set_option maxRecDepth 100000 in
theorem smt174_5 (k : Nat) : ∀ f, mt174_5 k = some f → mo_Sim 174 k f := mt_leaf (ms_ald (e := (.aload_n 0, 11, 0, 0, 0)) rfl (fun _ _ _ => rfl) : mo_Sim 174 10 (ma_lda 0 11)) (mt_leaf (ms_ild (e := (.iload_n 1, 12, 0, 0, 0)) rfl (fun _ _ _ => rfl) : mo_Sim 174 11 (ma_load 0 1 12)) (mt_leaf (ms_ild (e := (.iload_n 2, 13, 0, 0, 0)) rfl (fun _ _ _ => rfl) : mo_Sim 174 12 (ma_load 0 2 13)) (mt_none)))
set_option maxRecDepth 100000 in
theorem smt174_6 (k : Nat) : ∀ f, mt174_6 k = some f → mo_Sim 174 k f := mt_leaf (ms_invV (p := 2) (e := (.invokevirtual 170, 16, 173, 0, 1258)) rfl rfl (fun _ _ _ => rfl) rfl rfl rfl (by decide) : mo_Sim 174 13 (ma_inv 173 3 7 12 16)) (mt_leaf (ms_ald (e := (.aload_n 0, 17, 0, 0, 0)) rfl (fun _ _ _ => rfl) : mo_Sim 174 16 (ma_lda 0 17)) (mt_leaf (ms_getf (e := (.getfield 159, 20, 12, 22, 1074)) rfl (fun _ _ _ => rfl) : mo_Sim 174 17 (ma_getf 12 22 20)) (mt_leaf (ms_ret (e := (.ireturn, 21, 0, 0, 0)) rfl (Or.inl ⟨rfl, rfl, (fun _ _ _ => rfl)⟩) : mo_Sim 174 20 (ma_ret 0)) (mt_none))))
set_option maxRecDepth 100000 in
theorem smt174_4 (k : Nat) : ∀ f, mt174_4 k = some f → mo_Sim 174 k f := mt_node (smt174_5 k) (smt174_6 k)
set_option maxRecDepth 100000 in
theorem smt174_0 (k : Nat) : ∀ f, mt174_0 k = some f → mo_Sim 174 k f := mt_node (smt174_1 k) (smt174_4 k)
set_option maxRecDepth 100000 in
theorem smt175_3 (k : Nat) : ∀ f, mt175_3 k = some f → mo_Sim 175 k f := mt_leaf (ms_ald (e := (.aload_n 0, 1, 0, 0, 0)) rfl (fun _ _ _ => rfl) : mo_Sim 175 0 (ma_lda 0 1)) (mt_leaf (ms_ild (e := (.iload_n 2, 2, 0, 0, 0)) rfl (fun _ _ _ => rfl) : mo_Sim 175 1 (ma_load 0 2 2)) (mt_none))
set_option maxRecDepth 100000 in
theorem smt175_4 (k : Nat) : ∀ f, mt175_4 k = some f → mo_Sim 175 k f := mt_leaf (ms_invV (p := 1) (e := (.invokevirtual 149, 5, 161, 0, 1212)) rfl rfl (fun _ _ _ => rfl) rfl rfl rfl (by decide) : mo_Sim 175 2 (ma_inv 161 2 2 12 5)) (mt_leaf (ms_if0 (e := (.ifCond .ne 5, 8, 10, 0, 0)) rfl (fun _ _ _ => rfl) : mo_Sim 175 5 (ma_if0 .ne 10 5 8)) (mt_leaf (ms_pushi (e := (.iconst (-1), 9, 0, 0, 0)) rfl (fun _ _ _ => rfl) (by decide) : mo_Sim 175 8 (ma_push (ma_ci (.negSucc 0)) 9)) (mt_none)))
set_option maxRecDepth 100000 in
theorem smt175_2 (k : Nat) : ∀ f, mt175_2 k = some f → mo_Sim 175 k f := mt_node (smt175_3 k) (smt175_4 k)
set_option maxRecDepth 100000 in
theorem smt175_6 (k : Nat) : ∀ f, mt175_6 k = some f → mo_Sim 175 k f := mt_leaf (ms_ret (e := (.ireturn, 10, 0, 0, 0)) rfl (Or.inl ⟨rfl, rfl, (fun _ _ _ => rfl)⟩) : mo_Sim 175 9 (ma_ret 0)) (mt_leaf (ms_ald (e := (.aload_n 0, 11, 0, 0, 0)) rfl (fun _ _ _ => rfl) : mo_Sim 175 10 (ma_lda 0 11)) (mt_leaf (ms_ild (e := (.iload_n 1, 12, 0, 0, 0)) rfl (fun _ _ _ => rfl) : mo_Sim 175 11 (ma_load 0 1 12)) (mt_none)))
set_option maxRecDepth 100000 in
theorem smt175_7 (k : Nat) : ∀ f, mt175_7 k = some f → mo_Sim 175 k f := mt_leaf (ms_ild (e := (.iload_n 2, 13, 0, 0, 0)) rfl (fun _ _ _ => rfl) : mo_Sim 175 12 (ma_load 0 2 13)) (mt_leaf (ms_invV (p := 2) (e := (.invokevirtual 170, 16, 173, 0, 1258)) rfl rfl (fun _ _ _ => rfl) rfl rfl rfl (by decide) : mo_Sim 175 13 (ma_inv 173 3 7 12 16)) (mt_leaf (ms_ild (e := (.iload_n 3, 17, 0, 0, 0)) rfl (fun _ _ _ => rfl) : mo_Sim 175 16 (ma_load 0 3 17)) (mt_none)))
set_option maxRecDepth 100000 in
theorem smt175_5 (k : Nat) : ∀ f, mt175_5 k = some f → mo_Sim 175 k f := mt_node (smt175_6 k) (smt175_7 k)
set_option maxRecDepth 100000 in
theorem smt175_1 (k : Nat) : ∀ f, mt175_1 k = some f → mo_Sim 175 k f := mt_node (smt175_2 k) (smt175_5 k)
set_option maxRecDepth 100000 in
theorem smt175_10 (k : Nat) : ∀ f, mt175_10 k = some f → mo_Sim 175 k f := mt_leaf (ms_if0 (e := (.ifCond .lt 11, 20, 28, 0, 0)) rfl (fun _ _ _ => rfl) : mo_Sim 175 17 (ma_if0 .lt 28 17 20)) (mt_leaf (ms_ild (e := (.iload_n 3, 21, 0, 0, 0)) rfl (fun _ _ _ => rfl) : mo_Sim 175 20 (ma_load 0 3 21)) (mt_leaf (ms_ald (e := (.aload_n 0, 22, 0, 0, 0)) rfl (fun _ _ _ => rfl) : mo_Sim 175 21 (ma_lda 0 22)) (mt_none)))
set_option maxRecDepth 100000 in
theorem smt175_11 (k : Nat) : ∀ f, mt175_11 k = some f → mo_Sim 175 k f := mt_leaf (ms_getf (e := (.getfield 159, 25, 12, 22, 1074)) rfl (fun _ _ _ => rfl) : mo_Sim 175 22 (ma_getf 12 22 25)) (mt_leaf (ms_if2 (e := (.if_icmp .lt 7, 28, 32, 0, 0)) rfl (fun _ _ _ => rfl) : mo_Sim 175 25 (ma_if2 .lt 32 25 28)) (mt_leaf (ms_pushi (e := (.iconst (-1), 29, 0, 0, 0)) rfl (fun _ _ _ => rfl) (by decide) : mo_Sim 175 28 (ma_push (ma_ci (.negSucc 0)) 29)) (mt_none)))
set_option maxRecDepth 100000 in
theorem smt175_9 (k : Nat) : ∀ f, mt175_9 k = some f → mo_Sim 175 k f := mt_node (smt175_10 k) (smt175_11 k)
set_option maxRecDepth 100000 in
theorem smt175_13 (k : Nat) : ∀ f, mt175_13 k = some f → mo_Sim 175 k f := mt_leaf (ms_goto (e := (.goto 9, 32, 38, 0, 0)) rfl (fun _ _ _ => rfl) : mo_Sim 175 29 (ma_goto 38)) (mt_leaf (ms_ald (e := (.aload_n 0, 33, 0, 0, 0)) rfl (fun _ _ _ => rfl) : mo_Sim 175 32 (ma_lda 0 33)) (mt_leaf (ms_getf (e := (.getfield 66, 36, 12, 23, 1075)) rfl (fun _ _ _ => rfl) : mo_Sim 175 33 (ma_getf 12 23 36)) (mt_none)))
set_option maxRecDepth 100000 in
theorem smt175_14 (k : Nat) : ∀ f, mt175_14 k = some f → mo_Sim 175 k f := mt_leaf (ms_ild (e := (.iload_n 3, 37, 0, 0, 0)) rfl (fun _ _ _ => rfl) : mo_Sim 175 36 (ma_load 0 3 37)) (mt_leaf (ms_iald (e := (.iaload, 38, 0, 0, 0)) rfl (fun _ _ _ => rfl) : mo_Sim 175 37 (ma_iald 37 38)) (mt_leaf (ms_ret (e := (.ireturn, 39, 0, 0, 0)) rfl (Or.inl ⟨rfl, rfl, (fun _ _ _ => rfl)⟩) : mo_Sim 175 38 (ma_ret 0)) (mt_none)))
set_option maxRecDepth 100000 in
theorem smt175_12 (k : Nat) : ∀ f, mt175_12 k = some f → mo_Sim 175 k f := mt_node (smt175_13 k) (smt175_14 k)
set_option maxRecDepth 100000 in
theorem smt175_8 (k : Nat) : ∀ f, mt175_8 k = some f → mo_Sim 175 k f := mt_node (smt175_9 k) (smt175_12 k)
set_option maxRecDepth 100000 in
theorem smt175_0 (k : Nat) : ∀ f, mt175_0 k = some f → mo_Sim 175 k f := mt_node (smt175_1 k) (smt175_8 k)
set_option maxRecDepth 100000 in
theorem smt176_3 (k : Nat) : ∀ f, mt176_3 k = some f → mo_Sim 176 k f := mt_leaf (ms_pushi (e := (.iconst 0, 1, 0, 0, 0)) rfl (fun _ _ _ => rfl) (by decide) : mo_Sim 176 0 (ma_push (ma_ci (.ofNat 0)) 1)) (mt_leaf (ms_ist (e := (.istore_n 1, 2, 0, 0, 0)) rfl (fun _ _ _ => rfl) : mo_Sim 176 1 (ma_stor 0 1 2)) (mt_leaf (ms_pushi (e := (.iconst 1, 3, 0, 0, 0)) rfl (fun _ _ _ => rfl) (by decide) : mo_Sim 176 2 (ma_push (ma_ci (.ofNat 1)) 3)) (mt_none)))
set_option maxRecDepth 100000 in
theorem smt176_4 (k : Nat) : ∀ f, mt176_4 k = some f → mo_Sim 176 k f := mt_leaf (ms_ist (e := (.istore_n 2, 4, 0, 0, 0)) rfl (fun _ _ _ => rfl) : mo_Sim 176 3 (ma_stor 0 2 4)) (mt_leaf (ms_ild (e := (.iload_n 2, 5, 0, 0, 0)) rfl (fun _ _ _ => rfl) : mo_Sim 176 4 (ma_load 0 2 5)) (mt_leaf (ms_pushi (e := (.iconst 1, 6, 0, 0, 0)) rfl (fun _ _ _ => rfl) (by decide) : mo_Sim 176 5 (ma_push (ma_ci (.ofNat 1)) 6)) (mt_none)))
set_option maxRecDepth 100000 in
theorem smt176_2 (k : Nat) : ∀ f, mt176_2 k = some f → mo_Sim 176 k f := mt_node (smt176_3 k) (smt176_4 k)
set_option maxRecDepth 100000 in
theorem smt176_6 (k : Nat) : ∀ f, mt176_6 k = some f → mo_Sim 176 k f := mt_leaf (ms_ald (e := (.aload_n 0, 7, 0, 0, 0)) rfl (fun _ _ _ => rfl) : mo_Sim 176 6 (ma_lda 0 7)) (mt_leaf (ms_getf (e := (.getfield 7, 10, 12, 0, 1052)) rfl (fun _ _ _ => rfl) : mo_Sim 176 7 (ma_getf 12 0 10)) (mt_leaf (ms_i2 (e := (.ishl, 11, 0, 0, 0)) rfl (fun _ _ _ => rfl) hf_shl : mo_Sim 176 10 (ma_i2 ma_fshl 10 11)) (mt_none)))
set_option maxRecDepth 100000 in
theorem smt176_7 (k : Nat) : ∀ f, mt176_7 k = some f → mo_Sim 176 k f := mt_leaf (ms_if2 (e := (.if_icmp .ge 27, 14, 38, 0, 0)) rfl (fun _ _ _ => rfl) : mo_Sim 176 11 (ma_if2 .ge 38 11 14)) (mt_leaf (ms_ild (e := (.iload_n 1, 15, 0, 0, 0)) rfl (fun _ _ _ => rfl) : mo_Sim 176 14 (ma_load 0 1 15)) (mt_leaf (ms_ald (e := (.aload_n 0, 16, 0, 0, 0)) rfl (fun _ _ _ => rfl) : mo_Sim 176 15 (ma_lda 0 16)) (mt_leaf (ms_pushi (e := (.iconst 1, 17, 0, 0, 0)) rfl (fun _ _ _ => rfl) (by decide) : mo_Sim 176 16 (ma_push (ma_ci (.ofNat 1)) 17)) (mt_none))))
set_option maxRecDepth 100000 in
theorem smt176_5 (k : Nat) : ∀ f, mt176_5 k = some f → mo_Sim 176 k f := mt_node (smt176_6 k) (smt176_7 k)
set_option maxRecDepth 100000 in
theorem smt176_1 (k : Nat) : ∀ f, mt176_1 k = some f → mo_Sim 176 k f := mt_node (smt176_2 k) (smt176_5 k)
set_option maxRecDepth 100000 in
theorem smt176_10 (k : Nat) : ∀ f, mt176_10 k = some f → mo_Sim 176 k f := mt_leaf (ms_ild (e := (.iload_n 2, 18, 0, 0, 0)) rfl (fun _ _ _ => rfl) : mo_Sim 176 17 (ma_load 0 2 18)) (mt_leaf (ms_i2l (e := (.i2l, 19, 0, 0, 0)) rfl (fun _ _ _ => rfl) : mo_Sim 176 18 (ma_i2l 19)) (mt_leaf (ms_invV (p := 2) (e := (.invokevirtual 116, 22, 156, 0, 1204)) rfl rfl (fun _ _ _ => rfl) rfl rfl rfl (by decide) : mo_Sim 176 19 (ma_inv 156 3 5 12 22)) (mt_none)))
set_option maxRecDepth 100000 in
theorem smt176_11 (k : Nat) : ∀ f, mt176_11 k = some f → mo_Sim 176 k f := mt_leaf (ms_if0 (e := (.ifCond .eq 7, 25, 29, 0, 0)) rfl (fun _ _ _ => rfl) : mo_Sim 176 22 (ma_if0 .eq 29 22 25)) (mt_leaf (ms_pushi (e := (.iconst 1, 26, 0, 0, 0)) rfl (fun _ _ _ => rfl) (by decide) : mo_Sim 176 25 (ma_push (ma_ci (.ofNat 1)) 26)) (mt_leaf (ms_goto (e := (.goto 4, 29, 30, 0, 0)) rfl (fun _ _ _ => rfl) : mo_Sim 176 26 (ma_goto 30)) (mt_none)))
set_option maxRecDepth 100000 in
theorem smt176_9 (k : Nat) : ∀ f, mt176_9 k = some f → mo_Sim 176 k f := mt_node (smt176_10 k) (smt176_11 k)
set_option maxRecDepth 100000 in
theorem smt176_13 (k : Nat) : ∀ f, mt176_13 k = some f → mo_Sim 176 k f := mt_leaf (ms_pushi (e := (.iconst 0, 30, 0, 0, 0)) rfl (fun _ _ _ => rfl) (by decide) : mo_Sim 176 29 (ma_push (ma_ci (.ofNat 0)) 30)) (mt_leaf (ms_iadd (e := (.iadd, 31, 0, 0, 0)) rfl (fun _ _ _ => rfl) : mo_Sim 176 30 (ma_iadd 30 31)) (mt_leaf (ms_ist (e := (.istore_n 1, 32, 0, 0, 0)) rfl (fun _ _ _ => rfl) : mo_Sim 176 31 (ma_stor 0 1 32)) (mt_none)))
set_option maxRecDepth 100000 in
theorem smt176_14 (k : Nat) : ∀ f, mt176_14 k = some f → mo_Sim 176 k f := mt_leaf (ms_iinc (e := (.iinc 2 1, 35, 0, 0, 0)) rfl (fun _ _ _ => rfl) (by decide) : mo_Sim 176 32 (ma_iinc 2 (.ofNat 1) 32 35)) (mt_leaf (ms_goto (e := (.goto (-31), 38, 4, 0, 0)) rfl (fun _ _ _ => rfl) : mo_Sim 176 35 (ma_goto 4)) (mt_leaf (ms_ild (e := (.iload_n 1, 39, 0, 0, 0)) rfl (fun _ _ _ => rfl) : mo_Sim 176 38 (ma_load 0 1 39)) (mt_leaf (ms_ret (e := (.ireturn, 40, 0, 0, 0)) rfl (Or.inl ⟨rfl, rfl, (fun _ _ _ => rfl)⟩) : mo_Sim 176 39 (ma_ret 0)) (mt_none))))
set_option maxRecDepth 100000 in
theorem smt176_12 (k : Nat) : ∀ f, mt176_12 k = some f → mo_Sim 176 k f := mt_node (smt176_13 k) (smt176_14 k)
set_option maxRecDepth 100000 in
theorem smt176_8 (k : Nat) : ∀ f, mt176_8 k = some f → mo_Sim 176 k f := mt_node (smt176_9 k) (smt176_12 k)
set_option maxRecDepth 100000 in
theorem smt176_0 (k : Nat) : ∀ f, mt176_0 k = some f → mo_Sim 176 k f := mt_node (smt176_1 k) (smt176_8 k)
set_option maxRecDepth 100000 in
theorem smt177_2 (k : Nat) : ∀ f, mt177_2 k = some f → mo_Sim 177 k f := mt_leaf (ms_ild (e := (.iload_n 1, 1, 0, 0, 0)) rfl (fun _ _ _ => rfl) : mo_Sim 177 0 (ma_load 0 1 1)) (mt_leaf (ms_pushi (e := (.iconst 1, 2, 0, 0, 0)) rfl (fun _ _ _ => rfl) (by decide) : mo_Sim 177 1 (ma_push (ma_ci (.ofNat 1)) 2)) (mt_leaf (ms_if2 (e := (.if_icmp .lt 13, 5, 15, 0, 0)) rfl (fun _ _ _ => rfl) : mo_Sim 177 2 (ma_if2 .lt 15 2 5)) (mt_leaf (ms_ild (e := (.iload_n 1, 6, 0, 0, 0)) rfl (fun _ _ _ => rfl) : mo_Sim 177 5 (ma_load 0 1 6)) (mt_none))))
set_option maxRecDepth 100000 in
theorem smt177_4 (k : Nat) : ∀ f, mt177_4 k = some f → mo_Sim 177 k f := mt_leaf (ms_pushi (e := (.iconst 1, 7, 0, 0, 0)) rfl (fun _ _ _ => rfl) (by decide) : mo_Sim 177 6 (ma_push (ma_ci (.ofNat 1)) 7)) (mt_leaf (ms_ald (e := (.aload_n 0, 8, 0, 0, 0)) rfl (fun _ _ _ => rfl) : mo_Sim 177 7 (ma_lda 0 8)) (mt_none))
set_option maxRecDepth 100000 in
theorem smt177_5 (k : Nat) : ∀ f, mt177_5 k = some f → mo_Sim 177 k f := mt_leaf (ms_getf (e := (.getfield 7, 11, 12, 0, 1052)) rfl (fun _ _ _ => rfl) : mo_Sim 177 8 (ma_getf 12 0 11)) (mt_leaf (ms_i2 (e := (.ishl, 12, 0, 0, 0)) rfl (fun _ _ _ => rfl) hf_shl : mo_Sim 177 11 (ma_i2 ma_fshl 11 12)) (mt_leaf (ms_if2 (e := (.if_icmp .lt 7, 15, 19, 0, 0)) rfl (fun _ _ _ => rfl) : mo_Sim 177 12 (ma_if2 .lt 19 12 15)) (mt_none)))
set_option maxRecDepth 100000 in
theorem smt177_3 (k : Nat) : ∀ f, mt177_3 k = some f → mo_Sim 177 k f := mt_node (smt177_4 k) (smt177_5 k)
set_option maxRecDepth 100000 in
theorem smt177_1 (k : Nat) : ∀ f, mt177_1 k = some f → mo_Sim 177 k f := mt_node (smt177_2 k) (smt177_3 k)
set_option maxRecDepth 100000 in
theorem smt177_7 (k : Nat) : ∀ f, mt177_7 k = some f → mo_Sim 177 k f := mt_leaf (ms_pushi (e := (.iconst (-1), 16, 0, 0, 0)) rfl (fun _ _ _ => rfl) (by decide) : mo_Sim 177 15 (ma_push (ma_ci (.negSucc 0)) 16)) (mt_leaf (ms_goto (e := (.goto 11, 19, 27, 0, 0)) rfl (fun _ _ _ => rfl) : mo_Sim 177 16 (ma_goto 27)) (mt_leaf (ms_ald (e := (.aload_n 0, 20, 0, 0, 0)) rfl (fun _ _ _ => rfl) : mo_Sim 177 19 (ma_lda 0 20)) (mt_leaf (ms_pushi (e := (.iconst 1, 21, 0, 0, 0)) rfl (fun _ _ _ => rfl) (by decide) : mo_Sim 177 20 (ma_push (ma_ci (.ofNat 1)) 21)) (mt_none))))
set_option maxRecDepth 100000 in
theorem smt177_9 (k : Nat) : ∀ f, mt177_9 k = some f → mo_Sim 177 k f := mt_leaf (ms_ild (e := (.iload_n 1, 22, 0, 0, 0)) rfl (fun _ _ _ => rfl) : mo_Sim 177 21 (ma_load 0 1 22)) (mt_leaf (ms_i2l (e := (.i2l, 23, 0, 0, 0)) rfl (fun _ _ _ => rfl) : mo_Sim 177 22 (ma_i2l 23)) (mt_none))
set_option maxRecDepth 100000 in
theorem smt177_10 (k : Nat) : ∀ f, mt177_10 k = some f → mo_Sim 177 k f := mt_leaf (ms_invV (p := 2) (e := (.invokevirtual 112, 26, 157, 0, 1196)) rfl rfl (fun _ _ _ => rfl) rfl rfl rfl (by decide) : mo_Sim 177 23 (ma_inv 157 3 9 12 26)) (mt_leaf (ms_l2i (e := (.l2i, 27, 0, 0, 0)) rfl (fun _ _ _ => rfl) : mo_Sim 177 26 (ma_l2i 27)) (mt_leaf (ms_ret (e := (.ireturn, 28, 0, 0, 0)) rfl (Or.inl ⟨rfl, rfl, (fun _ _ _ => rfl)⟩) : mo_Sim 177 27 (ma_ret 0)) (mt_none)))
set_option maxRecDepth 100000 in
theorem smt177_8 (k : Nat) : ∀ f, mt177_8 k = some f → mo_Sim 177 k f := mt_node (smt177_9 k) (smt177_10 k)
set_option maxRecDepth 100000 in
theorem smt177_6 (k : Nat) : ∀ f, mt177_6 k = some f → mo_Sim 177 k f := mt_node (smt177_7 k) (smt177_8 k)
set_option maxRecDepth 100000 in
theorem smt177_0 (k : Nat) : ∀ f, mt177_0 k = some f → mo_Sim 177 k f := mt_node (smt177_1 k) (smt177_6 k)
set_option maxRecDepth 100000 in
theorem smt178_3 (k : Nat) : ∀ f, mt178_3 k = some f → mo_Sim 178 k f := mt_leaf (ms_pushi (e := (.iconst 0, 1, 0, 0, 0)) rfl (fun _ _ _ => rfl) (by decide) : mo_Sim 178 0 (ma_push (ma_ci (.ofNat 0)) 1)) (mt_leaf (ms_ist (e := (.istore_n 2, 2, 0, 0, 0)) rfl (fun _ _ _ => rfl) : mo_Sim 178 1 (ma_stor 0 2 2)) (mt_leaf (ms_ild (e := (.iload_n 2, 3, 0, 0, 0)) rfl (fun _ _ _ => rfl) : mo_Sim 178 2 (ma_load 0 2 3)) (mt_leaf (ms_ald (e := (.aload_n 0, 4, 0, 0, 0)) rfl (fun _ _ _ => rfl) : mo_Sim 178 3 (ma_lda 0 4)) (mt_none))))
set_option maxRecDepth 100000 in
theorem smt178_4 (k : Nat) : ∀ f, mt178_4 k = some f → mo_Sim 178 k f := mt_leaf (ms_getf (e := (.getfield 7, 7, 12, 0, 1052)) rfl (fun _ _ _ => rfl) : mo_Sim 178 4 (ma_getf 12 0 7)) (mt_leaf (ms_if2 (e := (.if_icmp .ge 35, 10, 42, 0, 0)) rfl (fun _ _ _ => rfl) : mo_Sim 178 7 (ma_if2 .ge 42 7 10)) (mt_leaf (ms_ild (e := (.iload_n 1, 11, 0, 0, 0)) rfl (fun _ _ _ => rfl) : mo_Sim 178 10 (ma_load 0 1 11)) (mt_leaf (ms_pushi (e := (.iconst 2, 12, 0, 0, 0)) rfl (fun _ _ _ => rfl) (by decide) : mo_Sim 178 11 (ma_push (ma_ci (.ofNat 2)) 12)) (mt_none))))
set_option maxRecDepth 100000 in
theorem smt178_2 (k : Nat) : ∀ f, mt178_2 k = some f → mo_Sim 178 k f := mt_node (smt178_3 k) (smt178_4 k)
set_option maxRecDepth 100000 in
theorem smt178_6 (k : Nat) : ∀ f, mt178_6 k = some f → mo_Sim 178 k f := mt_leaf (ms_ild (e := (.iload_n 2, 13, 0, 0, 0)) rfl (fun _ _ _ => rfl) : mo_Sim 178 12 (ma_load 0 2 13)) (mt_leaf (ms_i2 (e := (.imul, 14, 0, 0, 0)) rfl (fun _ _ _ => rfl) hf_mul : mo_Sim 178 13 (ma_i2 ma_fmul 13 14)) (mt_leaf (ms_i2 (e := (.ishr, 15, 0, 0, 0)) rfl (fun _ _ _ => rfl) hf_shr : mo_Sim 178 14 (ma_i2 ma_fshr 14 15)) (mt_leaf (ms_pushi (e := (.iconst 3, 16, 0, 0, 0)) rfl (fun _ _ _ => rfl) (by decide) : mo_Sim 178 15 (ma_push (ma_ci (.ofNat 3)) 16)) (mt_none))))
set_option maxRecDepth 100000 in
theorem smt178_7 (k : Nat) : ∀ f, mt178_7 k = some f → mo_Sim 178 k f := mt_leaf (ms_iand (e := (.iand, 17, 0, 0, 0)) rfl (fun _ _ _ => rfl) : mo_Sim 178 16 (ma_iand 16 17)) (mt_leaf (ms_ist (e := (.istore_n 3, 18, 0, 0, 0)) rfl (fun _ _ _ => rfl) : mo_Sim 178 17 (ma_stor 0 3 18)) (mt_leaf (ms_ild (e := (.iload_n 3, 19, 0, 0, 0)) rfl (fun _ _ _ => rfl) : mo_Sim 178 18 (ma_load 0 3 19)) (mt_leaf (ms_ild (e := (.iload_n 2, 20, 0, 0, 0)) rfl (fun _ _ _ => rfl) : mo_Sim 178 19 (ma_load 0 2 20)) (mt_none))))
set_option maxRecDepth 100000 in
theorem smt178_5 (k : Nat) : ∀ f, mt178_5 k = some f → mo_Sim 178 k f := mt_node (smt178_6 k) (smt178_7 k)
set_option maxRecDepth 100000 in
theorem smt178_1 (k : Nat) : ∀ f, mt178_1 k = some f → mo_Sim 178 k f := mt_node (smt178_2 k) (smt178_5 k)
set_option maxRecDepth 100000 in
theorem smt178_10 (k : Nat) : ∀ f, mt178_10 k = some f → mo_Sim 178 k f := mt_leaf (ms_if2 (e := (.if_icmp .gt 14, 23, 34, 0, 0)) rfl (fun _ _ _ => rfl) : mo_Sim 178 20 (ma_if2 .gt 34 20 23)) (mt_leaf (ms_ild (e := (.iload_n 1, 24, 0, 0, 0)) rfl (fun _ _ _ => rfl) : mo_Sim 178 23 (ma_load 0 1 24)) (mt_leaf (ms_pushi (e := (.iconst 2, 25, 0, 0, 0)) rfl (fun _ _ _ => rfl) (by decide) : mo_Sim 178 24 (ma_push (ma_ci (.ofNat 2)) 25)) (mt_leaf (ms_ild (e := (.iload_n 3, 26, 0, 0, 0)) rfl (fun _ _ _ => rfl) : mo_Sim 178 25 (ma_load 0 3 26)) (mt_none))))
set_option maxRecDepth 100000 in
theorem smt178_11 (k : Nat) : ∀ f, mt178_11 k = some f → mo_Sim 178 k f := mt_leaf (ms_i2 (e := (.imul, 27, 0, 0, 0)) rfl (fun _ _ _ => rfl) hf_mul : mo_Sim 178 26 (ma_i2 ma_fmul 26 27)) (mt_leaf (ms_i2 (e := (.ishr, 28, 0, 0, 0)) rfl (fun _ _ _ => rfl) hf_shr : mo_Sim 178 27 (ma_i2 ma_fshr 27 28)) (mt_leaf (ms_pushi (e := (.iconst 3, 29, 0, 0, 0)) rfl (fun _ _ _ => rfl) (by decide) : mo_Sim 178 28 (ma_push (ma_ci (.ofNat 3)) 29)) (mt_leaf (ms_iand (e := (.iand, 30, 0, 0, 0)) rfl (fun _ _ _ => rfl) : mo_Sim 178 29 (ma_iand 29 30)) (mt_none))))
set_option maxRecDepth 100000 in
theorem smt178_9 (k : Nat) : ∀ f, mt178_9 k = some f → mo_Sim 178 k f := mt_node (smt178_10 k) (smt178_11 k)
set_option maxRecDepth 100000 in
theorem smt178_13 (k : Nat) : ∀ f, mt178_13 k = some f → mo_Sim 178 k f := mt_leaf (ms_ild (e := (.iload_n 3, 31, 0, 0, 0)) rfl (fun _ _ _ => rfl) : mo_Sim 178 30 (ma_load 0 3 31)) (mt_leaf (ms_if2 (e := (.if_icmp .eq 5, 34, 36, 0, 0)) rfl (fun _ _ _ => rfl) : mo_Sim 178 31 (ma_if2 .eq 36 31 34)) (mt_leaf (ms_pushi (e := (.iconst 0, 35, 0, 0, 0)) rfl (fun _ _ _ => rfl) (by decide) : mo_Sim 178 34 (ma_push (ma_ci (.ofNat 0)) 35)) (mt_leaf (ms_ret (e := (.ireturn, 36, 0, 0, 0)) rfl (Or.inr (Or.inl ⟨rfl, rfl, (fun _ _ _ => rfl)⟩)) : mo_Sim 178 35 (ma_ret 1)) (mt_none))))
set_option maxRecDepth 100000 in
theorem smt178_14 (k : Nat) : ∀ f, mt178_14 k = some f → mo_Sim 178 k f := mt_leaf (ms_iinc (e := (.iinc 2 1, 39, 0, 0, 0)) rfl (fun _ _ _ => rfl) (by decide) : mo_Sim 178 36 (ma_iinc 2 (.ofNat 1) 36 39)) (mt_leaf (ms_goto (e := (.goto (-37), 42, 2, 0, 0)) rfl (fun _ _ _ => rfl) : mo_Sim 178 39 (ma_goto 2)) (mt_leaf (ms_pushi (e := (.iconst 1, 43, 0, 0, 0)) rfl (fun _ _ _ => rfl) (by decide) : mo_Sim 178 42 (ma_push (ma_ci (.ofNat 1)) 43)) (mt_leaf (ms_ret (e := (.ireturn, 44, 0, 0, 0)) rfl (Or.inr (Or.inl ⟨rfl, rfl, (fun _ _ _ => rfl)⟩)) : mo_Sim 178 43 (ma_ret 1)) (mt_none))))
set_option maxRecDepth 100000 in
theorem smt178_12 (k : Nat) : ∀ f, mt178_12 k = some f → mo_Sim 178 k f := mt_node (smt178_13 k) (smt178_14 k)
set_option maxRecDepth 100000 in
theorem smt178_8 (k : Nat) : ∀ f, mt178_8 k = some f → mo_Sim 178 k f := mt_node (smt178_9 k) (smt178_12 k)
set_option maxRecDepth 100000 in
theorem smt178_0 (k : Nat) : ∀ f, mt178_0 k = some f → mo_Sim 178 k f := mt_node (smt178_1 k) (smt178_8 k)
set_option maxRecDepth 100000 in
theorem smt179_4 (k : Nat) : ∀ f, mt179_4 k = some f → mo_Sim 179 k f := mt_leaf (ms_ald (e := (.aload_n 0, 1, 0, 0, 0)) rfl (fun _ _ _ => rfl) : mo_Sim 179 0 (ma_lda 0 1)) (mt_leaf (ms_ild (e := (.iload_n 1, 2, 0, 0, 0)) rfl (fun _ _ _ => rfl) : mo_Sim 179 1 (ma_load 0 1 2)) (mt_leaf (ms_invV (p := 1) (e := (.invokevirtual 173, 5, 178, 0, 1290)) rfl rfl (fun _ _ _ => rfl) rfl rfl rfl (by decide) : mo_Sim 179 2 (ma_inv 178 2 4 12 5)) (mt_none)))
set_option maxRecDepth 100000 in
theorem smt179_5 (k : Nat) : ∀ f, mt179_5 k = some f → mo_Sim 179 k f := mt_leaf (ms_if0 (e := (.ifCond .ne 5, 8, 10, 0, 0)) rfl (fun _ _ _ => rfl) : mo_Sim 179 5 (ma_if0 .ne 10 5 8)) (mt_leaf (ms_pushi (e := (.iconst 0, 9, 0, 0, 0)) rfl (fun _ _ _ => rfl) (by decide) : mo_Sim 179 8 (ma_push (ma_ci (.ofNat 0)) 9)) (mt_leaf (ms_ret (e := (.ireturn, 10, 0, 0, 0)) rfl (Or.inr (Or.inl ⟨rfl, rfl, (fun _ _ _ => rfl)⟩)) : mo_Sim 179 9 (ma_ret 1)) (mt_leaf (ms_pushl (e := (.lconst 0, 11, 0, 0, 0)) rfl (fun _ _ _ => rfl) (by decide) : mo_Sim 179 10 (ma_push (ma_cl (.ofNat 0)) 11)) (mt_none))))
set_option maxRecDepth 100000 in
theorem smt179_3 (k : Nat) : ∀ f, mt179_3 k = some f → mo_Sim 179 k f := mt_node (smt179_4 k) (smt179_5 k)
set_option maxRecDepth 100000 in
theorem smt179_7 (k : Nat) : ∀ f, mt179_7 k = some f → mo_Sim 179 k f := mt_leaf (ms_lst (e := (.lstore_n 2, 12, 0, 0, 0)) rfl (fun _ _ _ => rfl) : mo_Sim 179 11 (ma_stol 2 12)) (mt_leaf (ms_pushi (e := (.iconst 0, 13, 0, 0, 0)) rfl (fun _ _ _ => rfl) (by decide) : mo_Sim 179 12 (ma_push (ma_ci (.ofNat 0)) 13)) (mt_leaf (ms_ist (e := (.istore 4, 15, 0, 0, 0)) rfl (fun _ _ _ => rfl) : mo_Sim 179 13 (ma_stor 0 4 15)) (mt_none)))
set_option maxRecDepth 100000 in
theorem smt179_8 (k : Nat) : ∀ f, mt179_8 k = some f → mo_Sim 179 k f := mt_leaf (ms_ild (e := (.iload 4, 17, 0, 0, 0)) rfl (fun _ _ _ => rfl) : mo_Sim 179 15 (ma_load 0 4 17)) (mt_leaf (ms_ald (e := (.aload_n 0, 18, 0, 0, 0)) rfl (fun _ _ _ => rfl) : mo_Sim 179 17 (ma_lda 0 18)) (mt_leaf (ms_getf (e := (.getfield 7, 21, 12, 0, 1052)) rfl (fun _ _ _ => rfl) : mo_Sim 179 18 (ma_getf 12 0 21)) (mt_leaf (ms_if2 (e := (.if_icmp .ge 65, 24, 86, 0, 0)) rfl (fun _ _ _ => rfl) : mo_Sim 179 21 (ma_if2 .ge 86 21 24)) (mt_none))))
set_option maxRecDepth 100000 in
theorem smt179_6 (k : Nat) : ∀ f, mt179_6 k = some f → mo_Sim 179 k f := mt_node (smt179_7 k) (smt179_8 k)
set_option maxRecDepth 100000 in
theorem smt179_2 (k : Nat) : ∀ f, mt179_2 k = some f → mo_Sim 179 k f := mt_node (smt179_3 k) (smt179_6 k)
set_option maxRecDepth 100000 in
theorem smt179_11 (k : Nat) : ∀ f, mt179_11 k = some f → mo_Sim 179 k f := mt_leaf (ms_pushi (e := (.iconst 0, 25, 0, 0, 0)) rfl (fun _ _ _ => rfl) (by decide) : mo_Sim 179 24 (ma_push (ma_ci (.ofNat 0)) 25)) (mt_leaf (ms_ist (e := (.istore 5, 27, 0, 0, 0)) rfl (fun _ _ _ => rfl) : mo_Sim 179 25 (ma_stor 0 5 27)) (mt_leaf (ms_ild (e := (.iload 5, 29, 0, 0, 0)) rfl (fun _ _ _ => rfl) : mo_Sim 179 27 (ma_load 0 5 29)) (mt_none)))
set_option maxRecDepth 100000 in
theorem smt179_12 (k : Nat) : ∀ f, mt179_12 k = some f → mo_Sim 179 k f := mt_leaf (ms_ald (e := (.aload_n 0, 30, 0, 0, 0)) rfl (fun _ _ _ => rfl) : mo_Sim 179 29 (ma_lda 0 30)) (mt_leaf (ms_getf (e := (.getfield 7, 33, 12, 0, 1052)) rfl (fun _ _ _ => rfl) : mo_Sim 179 30 (ma_getf 12 0 33)) (mt_leaf (ms_if2 (e := (.if_icmp .ge 47, 36, 80, 0, 0)) rfl (fun _ _ _ => rfl) : mo_Sim 179 33 (ma_if2 .ge 80 33 36)) (mt_leaf (ms_lld (e := (.lload_n 2, 37, 0, 0, 0)) rfl (fun _ _ _ => rfl) : mo_Sim 179 36 (ma_load 2 2 37)) (mt_none))))
set_option maxRecDepth 100000 in
theorem smt179_10 (k : Nat) : ∀ f, mt179_10 k = some f → mo_Sim 179 k f := mt_node (smt179_11 k) (smt179_12 k)
set_option maxRecDepth 100000 in
theorem smt179_14 (k : Nat) : ∀ f, mt179_14 k = some f → mo_Sim 179 k f := mt_leaf (ms_ild (e := (.iload_n 1, 38, 0, 0, 0)) rfl (fun _ _ _ => rfl) : mo_Sim 179 37 (ma_load 0 1 38)) (mt_leaf (ms_pushi (e := (.iconst 2, 39, 0, 0, 0)) rfl (fun _ _ _ => rfl) (by decide) : mo_Sim 179 38 (ma_push (ma_ci (.ofNat 2)) 39)) (mt_leaf (ms_ild (e := (.iload 4, 41, 0, 0, 0)) rfl (fun _ _ _ => rfl) : mo_Sim 179 39 (ma_load 0 4 41)) (mt_none)))
set_option maxRecDepth 100000 in
theorem smt179_15 (k : Nat) : ∀ f, mt179_15 k = some f → mo_Sim 179 k f := mt_leaf (ms_i2 (e := (.imul, 42, 0, 0, 0)) rfl (fun _ _ _ => rfl) hf_mul : mo_Sim 179 41 (ma_i2 ma_fmul 41 42)) (mt_leaf (ms_i2 (e := (.ishr, 43, 0, 0, 0)) rfl (fun _ _ _ => rfl) hf_shr : mo_Sim 179 42 (ma_i2 ma_fshr 42 43)) (mt_leaf (ms_pushi (e := (.iconst 3, 44, 0, 0, 0)) rfl (fun _ _ _ => rfl) (by decide) : mo_Sim 179 43 (ma_push (ma_ci (.ofNat 3)) 44)) (mt_leaf (ms_iand (e := (.iand, 45, 0, 0, 0)) rfl (fun _ _ _ => rfl) : mo_Sim 179 44 (ma_iand 44 45)) (mt_none))))
set_option maxRecDepth 100000 in
theorem smt179_13 (k : Nat) : ∀ f, mt179_13 k = some f → mo_Sim 179 k f := mt_node (smt179_14 k) (smt179_15 k)
set_option maxRecDepth 100000 in
theorem smt179_9 (k : Nat) : ∀ f, mt179_9 k = some f → mo_Sim 179 k f := mt_node (smt179_10 k) (smt179_13 k)
set_option maxRecDepth 100000 in
theorem smt179_1 (k : Nat) : ∀ f, mt179_1 k = some f → mo_Sim 179 k f := mt_node (smt179_2 k) (smt179_9 k)
set_option maxRecDepth 100000 in
theorem smt179_19 (k : Nat) : ∀ f, mt179_19 k = some f → mo_Sim 179 k f := mt_leaf (ms_ild (e := (.iload_n 1, 46, 0, 0, 0)) rfl (fun _ _ _ => rfl) : mo_Sim 179 45 (ma_load 0 1 46)) (mt_leaf (ms_pushi (e := (.iconst 2, 47, 0, 0, 0)) rfl (fun _ _ _ => rfl) (by decide) : mo_Sim 179 46 (ma_push (ma_ci (.ofNat 2)) 47)) (mt_leaf (ms_ild (e := (.iload 5, 49, 0, 0, 0)) rfl (fun _ _ _ => rfl) : mo_Sim 179 47 (ma_load 0 5 49)) (mt_none)))
set_option maxRecDepth 100000 in
theorem smt179_20 (k : Nat) : ∀ f, mt179_20 k = some f → mo_Sim 179 k f := mt_leaf (ms_i2 (e := (.imul, 50, 0, 0, 0)) rfl (fun _ _ _ => rfl) hf_mul : mo_Sim 179 49 (ma_i2 ma_fmul 49 50)) (mt_leaf (ms_i2 (e := (.ishr, 51, 0, 0, 0)) rfl (fun _ _ _ => rfl) hf_shr : mo_Sim 179 50 (ma_i2 ma_fshr 50 51)) (mt_leaf (ms_pushi (e := (.iconst 3, 52, 0, 0, 0)) rfl (fun _ _ _ => rfl) (by decide) : mo_Sim 179 51 (ma_push (ma_ci (.ofNat 3)) 52)) (mt_leaf (ms_iand (e := (.iand, 53, 0, 0, 0)) rfl (fun _ _ _ => rfl) : mo_Sim 179 52 (ma_iand 52 53)) (mt_none))))
set_option maxRecDepth 100000 in
theorem smt179_18 (k : Nat) : ∀ f, mt179_18 k = some f → mo_Sim 179 k f := mt_node (smt179_19 k) (smt179_20 k)
set_option maxRecDepth 100000 in
theorem smt179_22 (k : Nat) : ∀ f, mt179_22 k = some f → mo_Sim 179 k f := mt_leaf (ms_if2 (e := (.if_icmp .ne 18, 56, 71, 0, 0)) rfl (fun _ _ _ => rfl) : mo_Sim 179 53 (ma_if2 .ne 71 53 56)) (mt_leaf (ms_pushl (e := (.lconst 1, 57, 0, 0, 0)) rfl (fun _ _ _ => rfl) (by decide) : mo_Sim 179 56 (ma_push (ma_cl (.ofNat 1)) 57)) (mt_leaf (ms_ild (e := (.iload 4, 59, 0, 0, 0)) rfl (fun _ _ _ => rfl) : mo_Sim 179 57 (ma_load 0 4 59)) (mt_none)))
set_option maxRecDepth 100000 in
theorem smt179_23 (k : Nat) : ∀ f, mt179_23 k = some f → mo_Sim 179 k f := mt_leaf (ms_ald (e := (.aload_n 0, 60, 0, 0, 0)) rfl (fun _ _ _ => rfl) : mo_Sim 179 59 (ma_lda 0 60)) (mt_leaf (ms_getf (e := (.getfield 7, 63, 12, 0, 1052)) rfl (fun _ _ _ => rfl) : mo_Sim 179 60 (ma_getf 12 0 63)) (mt_leaf (ms_i2 (e := (.imul, 64, 0, 0, 0)) rfl (fun _ _ _ => rfl) hf_mul : mo_Sim 179 63 (ma_i2 ma_fmul 63 64)) (mt_leaf (ms_ild (e := (.iload 5, 66, 0, 0, 0)) rfl (fun _ _ _ => rfl) : mo_Sim 179 64 (ma_load 0 5 66)) (mt_none))))
set_option maxRecDepth 100000 in
theorem smt179_21 (k : Nat) : ∀ f, mt179_21 k = some f → mo_Sim 179 k f := mt_node (smt179_22 k) (smt179_23 k)
set_option maxRecDepth 100000 in
theorem smt179_17 (k : Nat) : ∀ f, mt179_17 k = some f → mo_Sim 179 k f := mt_node (smt179_18 k) (smt179_21 k)
set_option maxRecDepth 100000 in
theorem smt179_26 (k : Nat) : ∀ f, mt179_26 k = some f → mo_Sim 179 k f := mt_leaf (ms_iadd (e := (.iadd, 67, 0, 0, 0)) rfl (fun _ _ _ => rfl) : mo_Sim 179 66 (ma_iadd 66 67)) (mt_leaf (ms_ls (e := (.lshl, 68, 0, 0, 0)) rfl (fun _ _ _ => rfl) hg_shl : mo_Sim 179 67 (ma_ls ma_gshl 67 68)) (mt_leaf (ms_goto (e := (.goto 4, 71, 72, 0, 0)) rfl (fun _ _ _ => rfl) : mo_Sim 179 68 (ma_goto 72)) (mt_none)))
set_option maxRecDepth 100000 in
theorem smt179_27 (k : Nat) : ∀ f, mt179_27 k = some f → mo_Sim 179 k f := mt_leaf (ms_pushl (e := (.lconst 0, 72, 0, 0, 0)) rfl (fun _ _ _ => rfl) (by decide) : mo_Sim 179 71 (ma_push (ma_cl (.ofNat 0)) 72)) (mt_leaf (ms_l2 (e := (.lor, 73, 0, 0, 0)) rfl (fun _ _ _ => rfl) hg_or : mo_Sim 179 72 (ma_l2 ma_gor 73)) (mt_leaf (ms_lst (e := (.lstore_n 2, 74, 0, 0, 0)) rfl (fun _ _ _ => rfl) : mo_Sim 179 73 (ma_stol 2 74)) (mt_leaf (ms_iinc (e := (.iinc 5 1, 77, 0, 0, 0)) rfl (fun _ _ _ => rfl) (by decide) : mo_Sim 179 74 (ma_iinc 5 (.ofNat 1) 74 77)) (mt_none))))
set_option maxRecDepth 100000 in
theorem smt179_25 (k : Nat) : ∀ f, mt179_25 k = some f → mo_Sim 179 k f := mt_node (smt179_26 k) (smt179_27 k)
set_option maxRecDepth 100000 in
theorem smt179_29 (k : Nat) : ∀ f, mt179_29 k = some f → mo_Sim 179 k f := mt_leaf (ms_goto (e := (.goto (-50), 80, 27, 0, 0)) rfl (fun _ _ _ => rfl) : mo_Sim 179 77 (ma_goto 27)) (mt_leaf (ms_iinc (e := (.iinc 4 1, 83, 0, 0, 0)) rfl (fun _ _ _ => rfl) (by decide) : mo_Sim 179 80 (ma_iinc 4 (.ofNat 1) 80 83)) (mt_leaf (ms_goto (e := (.goto (-68), 86, 15, 0, 0)) rfl (fun _ _ _ => rfl) : mo_Sim 179 83 (ma_goto 15)) (mt_leaf (ms_ald (e := (.aload_n 0, 87, 0, 0, 0)) rfl (fun _ _ _ => rfl) : mo_Sim 179 86 (ma_lda 0 87)) (mt_none))))
set_option maxRecDepth 100000 in
theorem smt179_30 (k : Nat) : ∀ f, mt179_30 k = some f → mo_Sim 179 k f := mt_leaf (ms_pushi (e := (.iconst 2, 88, 0, 0, 0)) rfl (fun _ _ _ => rfl) (by decide) : mo_Sim 179 87 (ma_push (ma_ci (.ofNat 2)) 88)) (mt_leaf (ms_lld (e := (.lload_n 2, 89, 0, 0, 0)) rfl (fun _ _ _ => rfl) : mo_Sim 179 88 (ma_load 2 2 89)) (mt_leaf (ms_invV (p := 2) (e := (.invokevirtual 116, 92, 156, 0, 1204)) rfl rfl (fun _ _ _ => rfl) rfl rfl rfl (by decide) : mo_Sim 179 89 (ma_inv 156 3 5 12 92)) (mt_leaf (ms_ret (e := (.ireturn, 93, 0, 0, 0)) rfl (Or.inr (Or.inl ⟨rfl, rfl, (fun _ _ _ => rfl)⟩)) : mo_Sim 179 92 (ma_ret 1)) (mt_none))))
set_option maxRecDepth 100000 in
theorem smt179_28 (k : Nat) : ∀ f, mt179_28 k = some f → mo_Sim 179 k f := mt_node (smt179_29 k) (smt179_30 k)
set_option maxRecDepth 100000 in
theorem smt179_24 (k : Nat) : ∀ f, mt179_24 k = some f → mo_Sim 179 k f := mt_node (smt179_25 k) (smt179_28 k)
set_option maxRecDepth 100000 in
theorem smt179_16 (k : Nat) : ∀ f, mt179_16 k = some f → mo_Sim 179 k f := mt_node (smt179_17 k) (smt179_24 k)
set_option maxRecDepth 100000 in
theorem smt179_0 (k : Nat) : ∀ f, mt179_0 k = some f → mo_Sim 179 k f := mt_node (smt179_1 k) (smt179_16 k)
set_option maxRecDepth 100000 in
theorem smt180_3 (k : Nat) : ∀ f, mt180_3 k = some f → mo_Sim 180 k f := mt_leaf (ms_pushi (e := (.iconst 0, 1, 0, 0, 0)) rfl (fun _ _ _ => rfl) (by decide) : mo_Sim 180 0 (ma_push (ma_ci (.ofNat 0)) 1)) (mt_leaf (ms_ist (e := (.istore_n 1, 2, 0, 0, 0)) rfl (fun _ _ _ => rfl) : mo_Sim 180 1 (ma_stor 0 1 2)) (mt_leaf (ms_pushi (e := (.iconst 0, 3, 0, 0, 0)) rfl (fun _ _ _ => rfl) (by decide) : mo_Sim 180 2 (ma_push (ma_ci (.ofNat 0)) 3)) (mt_none)))
set_option maxRecDepth 100000 in
theorem smt180_4 (k : Nat) : ∀ f, mt180_4 k = some f → mo_Sim 180 k f := mt_leaf (ms_ist (e := (.istore_n 2, 4, 0, 0, 0)) rfl (fun _ _ _ => rfl) : mo_Sim 180 3 (ma_stor 0 2 4)) (mt_leaf (ms_ild (e := (.iload_n 2, 5, 0, 0, 0)) rfl (fun _ _ _ => rfl) : mo_Sim 180 4 (ma_load 0 2 5)) (mt_leaf (ms_pushi (e := (.iconst 1, 6, 0, 0, 0)) rfl (fun _ _ _ => rfl) (by decide) : mo_Sim 180 5 (ma_push (ma_ci (.ofNat 1)) 6)) (mt_none)))
set_option maxRecDepth 100000 in
theorem smt180_2 (k : Nat) : ∀ f, mt180_2 k = some f → mo_Sim 180 k f := mt_node (smt180_3 k) (smt180_4 k)
set_option maxRecDepth 100000 in
theorem smt180_6 (k : Nat) : ∀ f, mt180_6 k = some f → mo_Sim 180 k f := mt_leaf (ms_pushi (e := (.iconst 2, 7, 0, 0, 0)) rfl (fun _ _ _ => rfl) (by decide) : mo_Sim 180 6 (ma_push (ma_ci (.ofNat 2)) 7)) (mt_leaf (ms_ald (e := (.aload_n 0, 8, 0, 0, 0)) rfl (fun _ _ _ => rfl) : mo_Sim 180 7 (ma_lda 0 8)) (mt_leaf (ms_getf (e := (.getfield 7, 11, 12, 0, 1052)) rfl (fun _ _ _ => rfl) : mo_Sim 180 8 (ma_getf 12 0 11)) (mt_none)))
set_option maxRecDepth 100000 in
theorem smt180_7 (k : Nat) : ∀ f, mt180_7 k = some f → mo_Sim 180 k f := mt_leaf (ms_i2 (e := (.imul, 12, 0, 0, 0)) rfl (fun _ _ _ => rfl) hf_mul : mo_Sim 180 11 (ma_i2 ma_fmul 11 12)) (mt_leaf (ms_i2 (e := (.ishl, 13, 0, 0, 0)) rfl (fun _ _ _ => rfl) hf_shl : mo_Sim 180 12 (ma_i2 ma_fshl 12 13)) (mt_leaf (ms_if2 (e := (.if_icmp .ge 25, 16, 38, 0, 0)) rfl (fun _ _ _ => rfl) : mo_Sim 180 13 (ma_if2 .ge 38 13 16)) (mt_leaf (ms_ild (e := (.iload_n 1, 17, 0, 0, 0)) rfl (fun _ _ _ => rfl) : mo_Sim 180 16 (ma_load 0 1 17)) (mt_none))))
set_option maxRecDepth 100000 in
theorem smt180_5 (k : Nat) : ∀ f, mt180_5 k = some f → mo_Sim 180 k f := mt_node (smt180_6 k) (smt180_7 k)
set_option maxRecDepth 100000 in
theorem smt180_1 (k : Nat) : ∀ f, mt180_1 k = some f → mo_Sim 180 k f := mt_node (smt180_2 k) (smt180_5 k)
set_option maxRecDepth 100000 in
theorem smt180_10 (k : Nat) : ∀ f, mt180_10 k = some f → mo_Sim 180 k f := mt_leaf (ms_ald (e := (.aload_n 0, 18, 0, 0, 0)) rfl (fun _ _ _ => rfl) : mo_Sim 180 17 (ma_lda 0 18)) (mt_leaf (ms_ild (e := (.iload_n 2, 19, 0, 0, 0)) rfl (fun _ _ _ => rfl) : mo_Sim 180 18 (ma_load 0 2 19)) (mt_leaf (ms_invV (p := 1) (e := (.invokevirtual 176, 22, 179, 0, 1286)) rfl rfl (fun _ _ _ => rfl) rfl rfl rfl (by decide) : mo_Sim 180 19 (ma_inv 179 2 6 12 22)) (mt_none)))
set_option maxRecDepth 100000 in
theorem smt180_11 (k : Nat) : ∀ f, mt180_11 k = some f → mo_Sim 180 k f := mt_leaf (ms_if0 (e := (.ifCond .eq 7, 25, 29, 0, 0)) rfl (fun _ _ _ => rfl) : mo_Sim 180 22 (ma_if0 .eq 29 22 25)) (mt_leaf (ms_pushi (e := (.iconst 1, 26, 0, 0, 0)) rfl (fun _ _ _ => rfl) (by decide) : mo_Sim 180 25 (ma_push (ma_ci (.ofNat 1)) 26)) (mt_leaf (ms_goto (e := (.goto 4, 29, 30, 0, 0)) rfl (fun _ _ _ => rfl) : mo_Sim 180 26 (ma_goto 30)) (mt_none)))
set_option maxRecDepth 100000 in
theorem smt180_9 (k : Nat) : ∀ f, mt180_9 k = some f → mo_Sim 180 k f := mt_node (smt180_10 k) (smt180_11 k)
set_option maxRecDepth 100000 in
theorem smt180_13 (k : Nat) : ∀ f, mt180_13 k = some f → mo_Sim 180 k f := mt_leaf (ms_pushi (e := (.iconst 0, 30, 0, 0, 0)) rfl (fun _ _ _ => rfl) (by decide) : mo_Sim 180 29 (ma_push (ma_ci (.ofNat 0)) 30)) (mt_leaf (ms_iadd (e := (.iadd, 31, 0, 0, 0)) rfl (fun _ _ _ => rfl) : mo_Sim 180 30 (ma_iadd 30 31)) (mt_leaf (ms_ist (e := (.istore_n 1, 32, 0, 0, 0)) rfl (fun _ _ _ => rfl) : mo_Sim 180 31 (ma_stor 0 1 32)) (mt_none)))
set_option maxRecDepth 100000 in
theorem smt180_14 (k : Nat) : ∀ f, mt180_14 k = some f → mo_Sim 180 k f := mt_leaf (ms_iinc (e := (.iinc 2 1, 35, 0, 0, 0)) rfl (fun _ _ _ => rfl) (by decide) : mo_Sim 180 32 (ma_iinc 2 (.ofNat 1) 32 35)) (mt_leaf (ms_goto (e := (.goto (-31), 38, 4, 0, 0)) rfl (fun _ _ _ => rfl) : mo_Sim 180 35 (ma_goto 4)) (mt_leaf (ms_ild (e := (.iload_n 1, 39, 0, 0, 0)) rfl (fun _ _ _ => rfl) : mo_Sim 180 38 (ma_load 0 1 39)) (mt_leaf (ms_ret (e := (.ireturn, 40, 0, 0, 0)) rfl (Or.inl ⟨rfl, rfl, (fun _ _ _ => rfl)⟩) : mo_Sim 180 39 (ma_ret 0)) (mt_none))))
set_option maxRecDepth 100000 in
theorem smt180_12 (k : Nat) : ∀ f, mt180_12 k = some f → mo_Sim 180 k f := mt_node (smt180_13 k) (smt180_14 k)
set_option maxRecDepth 100000 in
theorem smt180_8 (k : Nat) : ∀ f, mt180_8 k = some f → mo_Sim 180 k f := mt_node (smt180_9 k) (smt180_12 k)
set_option maxRecDepth 100000 in
theorem smt180_0 (k : Nat) : ∀ f, mt180_0 k = some f → mo_Sim 180 k f := mt_node (smt180_1 k) (smt180_8 k)
set_option maxRecDepth 100000 in
theorem smt181_3 (k : Nat) : ∀ f, mt181_3 k = some f → mo_Sim 181 k f := mt_leaf (ms_ild (e := (.iload_n 1, 1, 0, 0, 0)) rfl (fun _ _ _ => rfl) : mo_Sim 181 0 (ma_load 0 1 1)) (mt_leaf (ms_ist (e := (.istore_n 2, 2, 0, 0, 0)) rfl (fun _ _ _ => rfl) : mo_Sim 181 1 (ma_stor 0 2 2)) (mt_leaf (ms_pushi (e := (.iconst 0, 3, 0, 0, 0)) rfl (fun _ _ _ => rfl) (by decide) : mo_Sim 181 2 (ma_push (ma_ci (.ofNat 0)) 3)) (mt_none)))
set_option maxRecDepth 100000 in
theorem smt181_4 (k : Nat) : ∀ f, mt181_4 k = some f → mo_Sim 181 k f := mt_leaf (ms_ist (e := (.istore_n 3, 4, 0, 0, 0)) rfl (fun _ _ _ => rfl) : mo_Sim 181 3 (ma_stor 0 3 4)) (mt_leaf (ms_ild (e := (.iload_n 3, 5, 0, 0, 0)) rfl (fun _ _ _ => rfl) : mo_Sim 181 4 (ma_load 0 3 5)) (mt_leaf (ms_pushi (e := (.iconst 1, 6, 0, 0, 0)) rfl (fun _ _ _ => rfl) (by decide) : mo_Sim 181 5 (ma_push (ma_ci (.ofNat 1)) 6)) (mt_none)))
set_option maxRecDepth 100000 in
theorem smt181_2 (k : Nat) : ∀ f, mt181_2 k = some f → mo_Sim 181 k f := mt_node (smt181_3 k) (smt181_4 k)
set_option maxRecDepth 100000 in
theorem smt181_6 (k : Nat) : ∀ f, mt181_6 k = some f → mo_Sim 181 k f := mt_leaf (ms_pushi (e := (.iconst 2, 7, 0, 0, 0)) rfl (fun _ _ _ => rfl) (by decide) : mo_Sim 181 6 (ma_push (ma_ci (.ofNat 2)) 7)) (mt_leaf (ms_ald (e := (.aload_n 0, 8, 0, 0, 0)) rfl (fun _ _ _ => rfl) : mo_Sim 181 7 (ma_lda 0 8)) (mt_leaf (ms_getf (e := (.getfield 7, 11, 12, 0, 1052)) rfl (fun _ _ _ => rfl) : mo_Sim 181 8 (ma_getf 12 0 11)) (mt_none)))
set_option maxRecDepth 100000 in
theorem smt181_7 (k : Nat) : ∀ f, mt181_7 k = some f → mo_Sim 181 k f := mt_leaf (ms_i2 (e := (.imul, 12, 0, 0, 0)) rfl (fun _ _ _ => rfl) hf_mul : mo_Sim 181 11 (ma_i2 ma_fmul 11 12)) (mt_leaf (ms_i2 (e := (.ishl, 13, 0, 0, 0)) rfl (fun _ _ _ => rfl) hf_shl : mo_Sim 181 12 (ma_i2 ma_fshl 12 13)) (mt_leaf (ms_if2 (e := (.if_icmp .ge 30, 16, 43, 0, 0)) rfl (fun _ _ _ => rfl) : mo_Sim 181 13 (ma_if2 .ge 43 13 16)) (mt_leaf (ms_ild (e := (.iload_n 2, 17, 0, 0, 0)) rfl (fun _ _ _ => rfl) : mo_Sim 181 16 (ma_load 0 2 17)) (mt_none))))
set_option maxRecDepth 100000 in
theorem smt181_5 (k : Nat) : ∀ f, mt181_5 k = some f → mo_Sim 181 k f := mt_node (smt181_6 k) (smt181_7 k)
set_option maxRecDepth 100000 in
theorem smt181_1 (k : Nat) : ∀ f, mt181_1 k = some f → mo_Sim 181 k f := mt_node (smt181_2 k) (smt181_5 k)
set_option maxRecDepth 100000 in
theorem smt181_10 (k : Nat) : ∀ f, mt181_10 k = some f → mo_Sim 181 k f := mt_leaf (ms_if0 (e := (.ifCond .lt 26, 20, 43, 0, 0)) rfl (fun _ _ _ => rfl) : mo_Sim 181 17 (ma_if0 .lt 43 17 20)) (mt_leaf (ms_ald (e := (.aload_n 0, 21, 0, 0, 0)) rfl (fun _ _ _ => rfl) : mo_Sim 181 20 (ma_lda 0 21)) (mt_leaf (ms_ild (e := (.iload_n 3, 22, 0, 0, 0)) rfl (fun _ _ _ => rfl) : mo_Sim 181 21 (ma_load 0 3 22)) (mt_none)))
set_option maxRecDepth 100000 in
theorem smt181_11 (k : Nat) : ∀ f, mt181_11 k = some f → mo_Sim 181 k f := mt_leaf (ms_invV (p := 1) (e := (.invokevirtual 176, 25, 179, 0, 1286)) rfl rfl (fun _ _ _ => rfl) rfl rfl rfl (by decide) : mo_Sim 181 22 (ma_inv 179 2 6 12 25)) (mt_leaf (ms_if0 (e := (.ifCond .eq 12, 28, 37, 0, 0)) rfl (fun _ _ _ => rfl) : mo_Sim 181 25 (ma_if0 .eq 37 25 28)) (mt_leaf (ms_ild (e := (.iload_n 2, 29, 0, 0, 0)) rfl (fun _ _ _ => rfl) : mo_Sim 181 28 (ma_load 0 2 29)) (mt_leaf (ms_if0 (e := (.ifCond .ne 5, 32, 34, 0, 0)) rfl (fun _ _ _ => rfl) : mo_Sim 181 29 (ma_if0 .ne 34 29 32)) (mt_none))))
set_option maxRecDepth 100000 in
theorem smt181_9 (k : Nat) : ∀ f, mt181_9 k = some f → mo_Sim 181 k f := mt_node (smt181_10 k) (smt181_11 k)
set_option maxRecDepth 100000 in
theorem smt181_13 (k : Nat) : ∀ f, mt181_13 k = some f → mo_Sim 181 k f := mt_leaf (ms_ild (e := (.iload_n 3, 33, 0, 0, 0)) rfl (fun _ _ _ => rfl) : mo_Sim 181 32 (ma_load 0 3 33)) (mt_leaf (ms_ret (e := (.ireturn, 34, 0, 0, 0)) rfl (Or.inl ⟨rfl, rfl, (fun _ _ _ => rfl)⟩) : mo_Sim 181 33 (ma_ret 0)) (mt_leaf (ms_iinc (e := (.iinc 2 (-1), 37, 0, 0, 0)) rfl (fun _ _ _ => rfl) (by decide) : mo_Sim 181 34 (ma_iinc 2 (.negSucc 0) 34 37)) (mt_none)))
set_option maxRecDepth 100000 in
theorem smt181_14 (k : Nat) : ∀ f, mt181_14 k = some f → mo_Sim 181 k f := mt_leaf (ms_iinc (e := (.iinc 3 1, 40, 0, 0, 0)) rfl (fun _ _ _ => rfl) (by decide) : mo_Sim 181 37 (ma_iinc 3 (.ofNat 1) 37 40)) (mt_leaf (ms_goto (e := (.goto (-36), 43, 4, 0, 0)) rfl (fun _ _ _ => rfl) : mo_Sim 181 40 (ma_goto 4)) (mt_leaf (ms_pushi (e := (.iconst (-1), 44, 0, 0, 0)) rfl (fun _ _ _ => rfl) (by decide) : mo_Sim 181 43 (ma_push (ma_ci (.negSucc 0)) 44)) (mt_leaf (ms_ret (e := (.ireturn, 45, 0, 0, 0)) rfl (Or.inl ⟨rfl, rfl, (fun _ _ _ => rfl)⟩) : mo_Sim 181 44 (ma_ret 0)) (mt_none))))
set_option maxRecDepth 100000 in
theorem smt181_12 (k : Nat) : ∀ f, mt181_12 k = some f → mo_Sim 181 k f := mt_node (smt181_13 k) (smt181_14 k)
set_option maxRecDepth 100000 in
theorem smt181_8 (k : Nat) : ∀ f, mt181_8 k = some f → mo_Sim 181 k f := mt_node (smt181_9 k) (smt181_12 k)
set_option maxRecDepth 100000 in
theorem smt181_0 (k : Nat) : ∀ f, mt181_0 k = some f → mo_Sim 181 k f := mt_node (smt181_1 k) (smt181_8 k)
set_option maxRecDepth 100000 in
theorem smt182_4 (k : Nat) : ∀ f, mt182_4 k = some f → mo_Sim 182 k f := mt_leaf (ms_pushi (e := (.iconst 1, 1, 0, 0, 0)) rfl (fun _ _ _ => rfl) (by decide) : mo_Sim 182 0 (ma_push (ma_ci (.ofNat 1)) 1)) (mt_leaf (ms_ald (e := (.aload_n 0, 2, 0, 0, 0)) rfl (fun _ _ _ => rfl) : mo_Sim 182 1 (ma_lda 0 2)) (mt_none))
set_option maxRecDepth 100000 in
theorem smt182_5 (k : Nat) : ∀ f, mt182_5 k = some f → mo_Sim 182 k f := mt_leaf (ms_getf (e := (.getfield 24, 5, 12, 5, 1057)) rfl (fun _ _ _ => rfl) : mo_Sim 182 2 (ma_getf 12 5 5)) (mt_leaf (ms_ild (e := (.iload_n 1, 6, 0, 0, 0)) rfl (fun _ _ _ => rfl) : mo_Sim 182 5 (ma_load 0 1 6)) (mt_leaf (ms_iald (e := (.iaload, 7, 0, 0, 0)) rfl (fun _ _ _ => rfl) : mo_Sim 182 6 (ma_iald 6 7)) (mt_none)))
set_option maxRecDepth 100000 in
theorem smt182_3 (k : Nat) : ∀ f, mt182_3 k = some f → mo_Sim 182 k f := mt_node (smt182_4 k) (smt182_5 k)
set_option maxRecDepth 100000 in
theorem smt182_7 (k : Nat) : ∀ f, mt182_7 k = some f → mo_Sim 182 k f := mt_leaf (ms_i2 (e := (.ishl, 8, 0, 0, 0)) rfl (fun _ _ _ => rfl) hf_shl : mo_Sim 182 7 (ma_i2 ma_fshl 7 8)) (mt_leaf (ms_ist (e := (.istore_n 2, 9, 0, 0, 0)) rfl (fun _ _ _ => rfl) : mo_Sim 182 8 (ma_stor 0 2 9)) (mt_leaf (ms_pushi (e := (.iconst 0, 10, 0, 0, 0)) rfl (fun _ _ _ => rfl) (by decide) : mo_Sim 182 9 (ma_push (ma_ci (.ofNat 0)) 10)) (mt_none)))
set_option maxRecDepth 100000 in
theorem smt182_8 (k : Nat) : ∀ f, mt182_8 k = some f → mo_Sim 182 k f := mt_leaf (ms_ist (e := (.istore_n 3, 11, 0, 0, 0)) rfl (fun _ _ _ => rfl) : mo_Sim 182 10 (ma_stor 0 3 11)) (mt_leaf (ms_ild (e := (.iload_n 3, 12, 0, 0, 0)) rfl (fun _ _ _ => rfl) : mo_Sim 182 11 (ma_load 0 3 12)) (mt_leaf (ms_ild (e := (.iload_n 2, 13, 0, 0, 0)) rfl (fun _ _ _ => rfl) : mo_Sim 182 12 (ma_load 0 2 13)) (mt_none)))
set_option maxRecDepth 100000 in
theorem smt182_6 (k : Nat) : ∀ f, mt182_6 k = some f → mo_Sim 182 k f := mt_node (smt182_7 k) (smt182_8 k)
set_option maxRecDepth 100000 in
theorem smt182_2 (k : Nat) : ∀ f, mt182_2 k = some f → mo_Sim 182 k f := mt_node (smt182_3 k) (smt182_6 k)
set_option maxRecDepth 100000 in
theorem smt182_11 (k : Nat) : ∀ f, mt182_11 k = some f → mo_Sim 182 k f := mt_leaf (ms_if2 (e := (.if_icmp .ge 60, 16, 73, 0, 0)) rfl (fun _ _ _ => rfl) : mo_Sim 182 13 (ma_if2 .ge 73 13 16)) (mt_leaf (ms_pushi (e := (.iconst 0, 17, 0, 0, 0)) rfl (fun _ _ _ => rfl) (by decide) : mo_Sim 182 16 (ma_push (ma_ci (.ofNat 0)) 17)) (mt_leaf (ms_ist (e := (.istore 4, 19, 0, 0, 0)) rfl (fun _ _ _ => rfl) : mo_Sim 182 17 (ma_stor 0 4 19)) (mt_none)))
set_option maxRecDepth 100000 in
theorem smt182_12 (k : Nat) : ∀ f, mt182_12 k = some f → mo_Sim 182 k f := mt_leaf (ms_ild (e := (.iload 4, 21, 0, 0, 0)) rfl (fun _ _ _ => rfl) : mo_Sim 182 19 (ma_load 0 4 21)) (mt_leaf (ms_ild (e := (.iload_n 2, 22, 0, 0, 0)) rfl (fun _ _ _ => rfl) : mo_Sim 182 21 (ma_load 0 2 22)) (mt_leaf (ms_if2 (e := (.if_icmp .ge 45, 25, 67, 0, 0)) rfl (fun _ _ _ => rfl) : mo_Sim 182 22 (ma_if2 .ge 67 22 25)) (mt_none)))
set_option maxRecDepth 100000 in
theorem smt182_10 (k : Nat) : ∀ f, mt182_10 k = some f → mo_Sim 182 k f := mt_node (smt182_11 k) (smt182_12 k)
set_option maxRecDepth 100000 in
theorem smt182_14 (k : Nat) : ∀ f, mt182_14 k = some f → mo_Sim 182 k f := mt_leaf (ms_ild (e := (.iload_n 3, 26, 0, 0, 0)) rfl (fun _ _ _ => rfl) : mo_Sim 182 25 (ma_load 0 3 26)) (mt_leaf (ms_ild (e := (.iload 4, 28, 0, 0, 0)) rfl (fun _ _ _ => rfl) : mo_Sim 182 26 (ma_load 0 4 28)) (mt_leaf (ms_iand (e := (.iand, 29, 0, 0, 0)) rfl (fun _ _ _ => rfl) : mo_Sim 182 28 (ma_iand 28 29)) (mt_none)))
set_option maxRecDepth 100000 in
theorem smt182_15 (k : Nat) : ∀ f, mt182_15 k = some f → mo_Sim 182 k f := mt_leaf (ms_ild (e := (.iload_n 3, 30, 0, 0, 0)) rfl (fun _ _ _ => rfl) : mo_Sim 182 29 (ma_load 0 3 30)) (mt_leaf (ms_if2 (e := (.if_icmp .ne 31, 33, 61, 0, 0)) rfl (fun _ _ _ => rfl) : mo_Sim 182 30 (ma_if2 .ne 61 30 33)) (mt_leaf (ms_ald (e := (.aload_n 0, 34, 0, 0, 0)) rfl (fun _ _ _ => rfl) : mo_Sim 182 33 (ma_lda 0 34)) (mt_none)))
set_option maxRecDepth 100000 in
theorem smt182_13 (k : Nat) : ∀ f, mt182_13 k = some f → mo_Sim 182 k f := mt_node (smt182_14 k) (smt182_15 k)
set_option maxRecDepth 100000 in
theorem smt182_9 (k : Nat) : ∀ f, mt182_9 k = some f → mo_Sim 182 k f := mt_node (smt182_10 k) (smt182_13 k)
set_option maxRecDepth 100000 in
theorem smt182_1 (k : Nat) : ∀ f, mt182_1 k = some f → mo_Sim 182 k f := mt_node (smt182_2 k) (smt182_9 k)
set_option maxRecDepth 100000 in
theorem smt182_19 (k : Nat) : ∀ f, mt182_19 k = some f → mo_Sim 182 k f := mt_leaf (ms_getf (e := (.getfield 27, 37, 12, 6, 1058)) rfl (fun _ _ _ => rfl) : mo_Sim 182 34 (ma_getf 12 6 37)) (mt_leaf (ms_pushi (e := (.bipush 27, 39, 0, 0, 0)) rfl (fun _ _ _ => rfl) (by decide) : mo_Sim 182 37 (ma_push (ma_ci (.ofNat 27)) 39)) (mt_leaf (ms_ild (e := (.iload_n 1, 40, 0, 0, 0)) rfl (fun _ _ _ => rfl) : mo_Sim 182 39 (ma_load 0 1 40)) (mt_none)))
set_option maxRecDepth 100000 in
theorem smt182_20 (k : Nat) : ∀ f, mt182_20 k = some f → mo_Sim 182 k f := mt_leaf (ms_i2 (e := (.imul, 41, 0, 0, 0)) rfl (fun _ _ _ => rfl) hf_mul : mo_Sim 182 40 (ma_i2 ma_fmul 40 41)) (mt_leaf (ms_ild (e := (.iload_n 3, 42, 0, 0, 0)) rfl (fun _ _ _ => rfl) : mo_Sim 182 41 (ma_load 0 3 42)) (mt_leaf (ms_iadd (e := (.iadd, 43, 0, 0, 0)) rfl (fun _ _ _ => rfl) : mo_Sim 182 42 (ma_iadd 42 43)) (mt_none)))
set_option maxRecDepth 100000 in
theorem smt182_18 (k : Nat) : ∀ f, mt182_18 k = some f → mo_Sim 182 k f := mt_node (smt182_19 k) (smt182_20 k)
set_option maxRecDepth 100000 in
theorem smt182_22 (k : Nat) : ∀ f, mt182_22 k = some f → mo_Sim 182 k f := mt_leaf (ms_iald (e := (.iaload, 44, 0, 0, 0)) rfl (fun _ _ _ => rfl) : mo_Sim 182 43 (ma_iald 43 44)) (mt_leaf (ms_ald (e := (.aload_n 0, 45, 0, 0, 0)) rfl (fun _ _ _ => rfl) : mo_Sim 182 44 (ma_lda 0 45)) (mt_leaf (ms_getf (e := (.getfield 27, 48, 12, 6, 1058)) rfl (fun _ _ _ => rfl) : mo_Sim 182 45 (ma_getf 12 6 48)) (mt_none)))
set_option maxRecDepth 100000 in
theorem smt182_23 (k : Nat) : ∀ f, mt182_23 k = some f → mo_Sim 182 k f := mt_leaf (ms_pushi (e := (.bipush 27, 50, 0, 0, 0)) rfl (fun _ _ _ => rfl) (by decide) : mo_Sim 182 48 (ma_push (ma_ci (.ofNat 27)) 50)) (mt_leaf (ms_ild (e := (.iload_n 1, 51, 0, 0, 0)) rfl (fun _ _ _ => rfl) : mo_Sim 182 50 (ma_load 0 1 51)) (mt_leaf (ms_i2 (e := (.imul, 52, 0, 0, 0)) rfl (fun _ _ _ => rfl) hf_mul : mo_Sim 182 51 (ma_i2 ma_fmul 51 52)) (mt_none)))
set_option maxRecDepth 100000 in
theorem smt182_21 (k : Nat) : ∀ f, mt182_21 k = some f → mo_Sim 182 k f := mt_node (smt182_22 k) (smt182_23 k)
set_option maxRecDepth 100000 in
theorem smt182_17 (k : Nat) : ∀ f, mt182_17 k = some f → mo_Sim 182 k f := mt_node (smt182_18 k) (smt182_21 k)
set_option maxRecDepth 100000 in
theorem smt182_26 (k : Nat) : ∀ f, mt182_26 k = some f → mo_Sim 182 k f := mt_leaf (ms_ild (e := (.iload 4, 54, 0, 0, 0)) rfl (fun _ _ _ => rfl) : mo_Sim 182 52 (ma_load 0 4 54)) (mt_leaf (ms_iadd (e := (.iadd, 55, 0, 0, 0)) rfl (fun _ _ _ => rfl) : mo_Sim 182 54 (ma_iadd 54 55)) (mt_leaf (ms_iald (e := (.iaload, 56, 0, 0, 0)) rfl (fun _ _ _ => rfl) : mo_Sim 182 55 (ma_iald 55 56)) (mt_none)))
set_option maxRecDepth 100000 in
theorem smt182_27 (k : Nat) : ∀ f, mt182_27 k = some f → mo_Sim 182 k f := mt_leaf (ms_if2 (e := (.if_icmp .le 5, 59, 61, 0, 0)) rfl (fun _ _ _ => rfl) : mo_Sim 182 56 (ma_if2 .le 61 56 59)) (mt_leaf (ms_pushi (e := (.iconst 0, 60, 0, 0, 0)) rfl (fun _ _ _ => rfl) (by decide) : mo_Sim 182 59 (ma_push (ma_ci (.ofNat 0)) 60)) (mt_leaf (ms_ret (e := (.ireturn, 61, 0, 0, 0)) rfl (Or.inr (Or.inl ⟨rfl, rfl, (fun _ _ _ => rfl)⟩)) : mo_Sim 182 60 (ma_ret 1)) (mt_none)))
set_option maxRecDepth 100000 in
theorem smt182_25 (k : Nat) : ∀ f, mt182_25 k = some f → mo_Sim 182 k f := mt_node (smt182_26 k) (smt182_27 k)
set_option maxRecDepth 100000 in
theorem smt182_29 (k : Nat) : ∀ f, mt182_29 k = some f → mo_Sim 182 k f := mt_leaf (ms_iinc (e := (.iinc 4 1, 64, 0, 0, 0)) rfl (fun _ _ _ => rfl) (by decide) : mo_Sim 182 61 (ma_iinc 4 (.ofNat 1) 61 64)) (mt_leaf (ms_goto (e := (.goto (-45), 67, 19, 0, 0)) rfl (fun _ _ _ => rfl) : mo_Sim 182 64 (ma_goto 19)) (mt_leaf (ms_iinc (e := (.iinc 3 1, 70, 0, 0, 0)) rfl (fun _ _ _ => rfl) (by decide) : mo_Sim 182 67 (ma_iinc 3 (.ofNat 1) 67 70)) (mt_none)))
set_option maxRecDepth 100000 in
theorem smt182_30 (k : Nat) : ∀ f, mt182_30 k = some f → mo_Sim 182 k f := mt_leaf (ms_goto (e := (.goto (-59), 73, 11, 0, 0)) rfl (fun _ _ _ => rfl) : mo_Sim 182 70 (ma_goto 11)) (mt_leaf (ms_pushi (e := (.iconst 1, 74, 0, 0, 0)) rfl (fun _ _ _ => rfl) (by decide) : mo_Sim 182 73 (ma_push (ma_ci (.ofNat 1)) 74)) (mt_leaf (ms_ret (e := (.ireturn, 75, 0, 0, 0)) rfl (Or.inr (Or.inl ⟨rfl, rfl, (fun _ _ _ => rfl)⟩)) : mo_Sim 182 74 (ma_ret 1)) (mt_none)))
set_option maxRecDepth 100000 in
theorem smt182_28 (k : Nat) : ∀ f, mt182_28 k = some f → mo_Sim 182 k f := mt_node (smt182_29 k) (smt182_30 k)
set_option maxRecDepth 100000 in
theorem smt182_24 (k : Nat) : ∀ f, mt182_24 k = some f → mo_Sim 182 k f := mt_node (smt182_25 k) (smt182_28 k)
set_option maxRecDepth 100000 in
theorem smt182_16 (k : Nat) : ∀ f, mt182_16 k = some f → mo_Sim 182 k f := mt_node (smt182_17 k) (smt182_24 k)
set_option maxRecDepth 100000 in
theorem smt182_0 (k : Nat) : ∀ f, mt182_0 k = some f → mo_Sim 182 k f := mt_node (smt182_1 k) (smt182_16 k)
set_option maxRecDepth 100000 in
theorem smt183_3 (k : Nat) : ∀ f, mt183_3 k = some f → mo_Sim 183 k f := mt_leaf (ms_pushi (e := (.iconst 1, 1, 0, 0, 0)) rfl (fun _ _ _ => rfl) (by decide) : mo_Sim 183 0 (ma_push (ma_ci (.ofNat 1)) 1)) (mt_leaf (ms_ald (e := (.aload_n 0, 2, 0, 0, 0)) rfl (fun _ _ _ => rfl) : mo_Sim 183 1 (ma_lda 0 2)) (mt_leaf (ms_getf (e := (.getfield 24, 5, 12, 5, 1057)) rfl (fun _ _ _ => rfl) : mo_Sim 183 2 (ma_getf 12 5 5)) (mt_leaf (ms_ild (e := (.iload_n 1, 6, 0, 0, 0)) rfl (fun _ _ _ => rfl) : mo_Sim 183 5 (ma_load 0 1 6)) (mt_none))))
set_option maxRecDepth 100000 in
theorem smt183_5 (k : Nat) : ∀ f, mt183_5 k = some f → mo_Sim 183 k f := mt_leaf (ms_iald (e := (.iaload, 7, 0, 0, 0)) rfl (fun _ _ _ => rfl) : mo_Sim 183 6 (ma_iald 6 7)) (mt_leaf (ms_i2 (e := (.ishl, 8, 0, 0, 0)) rfl (fun _ _ _ => rfl) hf_shl : mo_Sim 183 7 (ma_i2 ma_fshl 7 8)) (mt_none))
set_option maxRecDepth 100000 in
theorem smt183_6 (k : Nat) : ∀ f, mt183_6 k = some f → mo_Sim 183 k f := mt_leaf (ms_ist (e := (.istore_n 2, 9, 0, 0, 0)) rfl (fun _ _ _ => rfl) : mo_Sim 183 8 (ma_stor 0 2 9)) (mt_leaf (ms_pushi (e := (.iconst 0, 10, 0, 0, 0)) rfl (fun _ _ _ => rfl) (by decide) : mo_Sim 183 9 (ma_push (ma_ci (.ofNat 0)) 10)) (mt_leaf (ms_ist (e := (.istore_n 3, 11, 0, 0, 0)) rfl (fun _ _ _ => rfl) : mo_Sim 183 10 (ma_stor 0 3 11)) (mt_none)))
set_option maxRecDepth 100000 in
theorem smt183_4 (k : Nat) : ∀ f, mt183_4 k = some f → mo_Sim 183 k f := mt_node (smt183_5 k) (smt183_6 k)
set_option maxRecDepth 100000 in
theorem smt183_2 (k : Nat) : ∀ f, mt183_2 k = some f → mo_Sim 183 k f := mt_node (smt183_3 k) (smt183_4 k)
set_option maxRecDepth 100000 in
theorem smt183_9 (k : Nat) : ∀ f, mt183_9 k = some f → mo_Sim 183 k f := mt_leaf (ms_ild (e := (.iload_n 3, 12, 0, 0, 0)) rfl (fun _ _ _ => rfl) : mo_Sim 183 11 (ma_load 0 3 12)) (mt_leaf (ms_ild (e := (.iload_n 2, 13, 0, 0, 0)) rfl (fun _ _ _ => rfl) : mo_Sim 183 12 (ma_load 0 2 13)) (mt_none))
set_option maxRecDepth 100000 in
theorem smt183_10 (k : Nat) : ∀ f, mt183_10 k = some f → mo_Sim 183 k f := mt_leaf (ms_if2 (e := (.if_icmp .ge 40, 16, 53, 0, 0)) rfl (fun _ _ _ => rfl) : mo_Sim 183 13 (ma_if2 .ge 53 13 16)) (mt_leaf (ms_ald (e := (.aload_n 0, 17, 0, 0, 0)) rfl (fun _ _ _ => rfl) : mo_Sim 183 16 (ma_lda 0 17)) (mt_leaf (ms_getf (e := (.getfield 27, 20, 12, 6, 1058)) rfl (fun _ _ _ => rfl) : mo_Sim 183 17 (ma_getf 12 6 20)) (mt_none)))
set_option maxRecDepth 100000 in
theorem smt183_8 (k : Nat) : ∀ f, mt183_8 k = some f → mo_Sim 183 k f := mt_node (smt183_9 k) (smt183_10 k)
set_option maxRecDepth 100000 in
theorem smt183_12 (k : Nat) : ∀ f, mt183_12 k = some f → mo_Sim 183 k f := mt_leaf (ms_pushi (e := (.bipush 27, 22, 0, 0, 0)) rfl (fun _ _ _ => rfl) (by decide) : mo_Sim 183 20 (ma_push (ma_ci (.ofNat 27)) 22)) (mt_leaf (ms_ild (e := (.iload_n 1, 23, 0, 0, 0)) rfl (fun _ _ _ => rfl) : mo_Sim 183 22 (ma_load 0 1 23)) (mt_none))
set_option maxRecDepth 100000 in
theorem smt183_13 (k : Nat) : ∀ f, mt183_13 k = some f → mo_Sim 183 k f := mt_leaf (ms_i2 (e := (.imul, 24, 0, 0, 0)) rfl (fun _ _ _ => rfl) hf_mul : mo_Sim 183 23 (ma_i2 ma_fmul 23 24)) (mt_leaf (ms_ild (e := (.iload_n 3, 25, 0, 0, 0)) rfl (fun _ _ _ => rfl) : mo_Sim 183 24 (ma_load 0 3 25)) (mt_leaf (ms_iadd (e := (.iadd, 26, 0, 0, 0)) rfl (fun _ _ _ => rfl) : mo_Sim 183 25 (ma_iadd 25 26)) (mt_none)))
set_option maxRecDepth 100000 in
theorem smt183_11 (k : Nat) : ∀ f, mt183_11 k = some f → mo_Sim 183 k f := mt_node (smt183_12 k) (smt183_13 k)
set_option maxRecDepth 100000 in
theorem smt183_7 (k : Nat) : ∀ f, mt183_7 k = some f → mo_Sim 183 k f := mt_node (smt183_8 k) (smt183_11 k)
set_option maxRecDepth 100000 in
theorem smt183_1 (k : Nat) : ∀ f, mt183_1 k = some f → mo_Sim 183 k f := mt_node (smt183_2 k) (smt183_7 k)
set_option maxRecDepth 100000 in
theorem smt183_17 (k : Nat) : ∀ f, mt183_17 k = some f → mo_Sim 183 k f := mt_leaf (ms_iald (e := (.iaload, 27, 0, 0, 0)) rfl (fun _ _ _ => rfl) : mo_Sim 183 26 (ma_iald 26 27)) (mt_leaf (ms_ald (e := (.aload_n 0, 28, 0, 0, 0)) rfl (fun _ _ _ => rfl) : mo_Sim 183 27 (ma_lda 0 28)) (mt_none))
set_option maxRecDepth 100000 in
theorem smt183_18 (k : Nat) : ∀ f, mt183_18 k = some f → mo_Sim 183 k f := mt_leaf (ms_getf (e := (.getfield 27, 31, 12, 6, 1058)) rfl (fun _ _ _ => rfl) : mo_Sim 183 28 (ma_getf 12 6 31)) (mt_leaf (ms_pushi (e := (.bipush 27, 33, 0, 0, 0)) rfl (fun _ _ _ => rfl) (by decide) : mo_Sim 183 31 (ma_push (ma_ci (.ofNat 27)) 33)) (mt_leaf (ms_ild (e := (.iload_n 1, 34, 0, 0, 0)) rfl (fun _ _ _ => rfl) : mo_Sim 183 33 (ma_load 0 1 34)) (mt_none)))
set_option maxRecDepth 100000 in
theorem smt183_16 (k : Nat) : ∀ f, mt183_16 k = some f → mo_Sim 183 k f := mt_node (smt183_17 k) (smt183_18 k)
set_option maxRecDepth 100000 in
theorem smt183_20 (k : Nat) : ∀ f, mt183_20 k = some f → mo_Sim 183 k f := mt_leaf (ms_i2 (e := (.imul, 35, 0, 0, 0)) rfl (fun _ _ _ => rfl) hf_mul : mo_Sim 183 34 (ma_i2 ma_fmul 34 35)) (mt_leaf (ms_ild (e := (.iload_n 2, 36, 0, 0, 0)) rfl (fun _ _ _ => rfl) : mo_Sim 183 35 (ma_load 0 2 36)) (mt_none))
set_option maxRecDepth 100000 in
theorem smt183_21 (k : Nat) : ∀ f, mt183_21 k = some f → mo_Sim 183 k f := mt_leaf (ms_iadd (e := (.iadd, 37, 0, 0, 0)) rfl (fun _ _ _ => rfl) : mo_Sim 183 36 (ma_iadd 36 37)) (mt_leaf (ms_pushi (e := (.iconst 1, 38, 0, 0, 0)) rfl (fun _ _ _ => rfl) (by decide) : mo_Sim 183 37 (ma_push (ma_ci (.ofNat 1)) 38)) (mt_leaf (ms_isub (e := (.isub, 39, 0, 0, 0)) rfl (fun _ _ _ => rfl) : mo_Sim 183 38 (ma_isub 38 39)) (mt_none)))
set_option maxRecDepth 100000 in
theorem smt183_19 (k : Nat) : ∀ f, mt183_19 k = some f → mo_Sim 183 k f := mt_node (smt183_20 k) (smt183_21 k)
set_option maxRecDepth 100000 in
theorem smt183_15 (k : Nat) : ∀ f, mt183_15 k = some f → mo_Sim 183 k f := mt_node (smt183_16 k) (smt183_19 k)
set_option maxRecDepth 100000 in
theorem smt183_24 (k : Nat) : ∀ f, mt183_24 k = some f → mo_Sim 183 k f := mt_leaf (ms_ild (e := (.iload_n 3, 40, 0, 0, 0)) rfl (fun _ _ _ => rfl) : mo_Sim 183 39 (ma_load 0 3 40)) (mt_leaf (ms_isub (e := (.isub, 41, 0, 0, 0)) rfl (fun _ _ _ => rfl) : mo_Sim 183 40 (ma_isub 40 41)) (mt_none))
set_option maxRecDepth 100000 in
theorem smt183_25 (k : Nat) : ∀ f, mt183_25 k = some f → mo_Sim 183 k f := mt_leaf (ms_iald (e := (.iaload, 42, 0, 0, 0)) rfl (fun _ _ _ => rfl) : mo_Sim 183 41 (ma_iald 41 42)) (mt_leaf (ms_if2 (e := (.if_icmp .ne 5, 45, 47, 0, 0)) rfl (fun _ _ _ => rfl) : mo_Sim 183 42 (ma_if2 .ne 47 42 45)) (mt_leaf (ms_pushi (e := (.iconst 0, 46, 0, 0, 0)) rfl (fun _ _ _ => rfl) (by decide) : mo_Sim 183 45 (ma_push (ma_ci (.ofNat 0)) 46)) (mt_none)))
set_option maxRecDepth 100000 in
theorem smt183_23 (k : Nat) : ∀ f, mt183_23 k = some f → mo_Sim 183 k f := mt_node (smt183_24 k) (smt183_25 k)
set_option maxRecDepth 100000 in
theorem smt183_27 (k : Nat) : ∀ f, mt183_27 k = some f → mo_Sim 183 k f := mt_leaf (ms_ret (e := (.ireturn, 47, 0, 0, 0)) rfl (Or.inr (Or.inl ⟨rfl, rfl, (fun _ _ _ => rfl)⟩)) : mo_Sim 183 46 (ma_ret 1)) (mt_leaf (ms_iinc (e := (.iinc 3 1, 50, 0, 0, 0)) rfl (fun _ _ _ => rfl) (by decide) : mo_Sim 183 47 (ma_iinc 3 (.ofNat 1) 47 50)) (mt_none))
set_option maxRecDepth 100000 in
theorem smt183_28 (k : Nat) : ∀ f, mt183_28 k = some f → mo_Sim 183 k f := mt_leaf (ms_goto (e := (.goto (-39), 53, 11, 0, 0)) rfl (fun _ _ _ => rfl) : mo_Sim 183 50 (ma_goto 11)) (mt_leaf (ms_pushi (e := (.iconst 1, 54, 0, 0, 0)) rfl (fun _ _ _ => rfl) (by decide) : mo_Sim 183 53 (ma_push (ma_ci (.ofNat 1)) 54)) (mt_leaf (ms_ret (e := (.ireturn, 55, 0, 0, 0)) rfl (Or.inr (Or.inl ⟨rfl, rfl, (fun _ _ _ => rfl)⟩)) : mo_Sim 183 54 (ma_ret 1)) (mt_none)))
set_option maxRecDepth 100000 in
theorem smt183_26 (k : Nat) : ∀ f, mt183_26 k = some f → mo_Sim 183 k f := mt_node (smt183_27 k) (smt183_28 k)
set_option maxRecDepth 100000 in
theorem smt183_22 (k : Nat) : ∀ f, mt183_22 k = some f → mo_Sim 183 k f := mt_node (smt183_23 k) (smt183_26 k)
set_option maxRecDepth 100000 in
theorem smt183_14 (k : Nat) : ∀ f, mt183_14 k = some f → mo_Sim 183 k f := mt_node (smt183_15 k) (smt183_22 k)
set_option maxRecDepth 100000 in
theorem smt183_0 (k : Nat) : ∀ f, mt183_0 k = some f → mo_Sim 183 k f := mt_node (smt183_1 k) (smt183_14 k)
set_option maxRecDepth 100000 in
theorem smt184_4 (k : Nat) : ∀ f, mt184_4 k = some f → mo_Sim 184 k f := mt_leaf (ms_pushi (e := (.iconst 1, 1, 0, 0, 0)) rfl (fun _ _ _ => rfl) (by decide) : mo_Sim 184 0 (ma_push (ma_ci (.ofNat 1)) 1)) (mt_leaf (ms_ald (e := (.aload_n 0, 2, 0, 0, 0)) rfl (fun _ _ _ => rfl) : mo_Sim 184 1 (ma_lda 0 2)) (mt_leaf (ms_getf (e := (.getfield 24, 5, 12, 5, 1057)) rfl (fun _ _ _ => rfl) : mo_Sim 184 2 (ma_getf 12 5 5)) (mt_leaf (ms_ild (e := (.iload_n 1, 6, 0, 0, 0)) rfl (fun _ _ _ => rfl) : mo_Sim 184 5 (ma_load 0 1 6)) (mt_none))))
set_option maxRecDepth 100000 in
theorem smt184_5 (k : Nat) : ∀ f, mt184_5 k = some f → mo_Sim 184 k f := mt_leaf (ms_iald (e := (.iaload, 7, 0, 0, 0)) rfl (fun _ _ _ => rfl) : mo_Sim 184 6 (ma_iald 6 7)) (mt_leaf (ms_i2 (e := (.ishl, 8, 0, 0, 0)) rfl (fun _ _ _ => rfl) hf_shl : mo_Sim 184 7 (ma_i2 ma_fshl 7 8)) (mt_leaf (ms_ist (e := (.istore_n 2, 9, 0, 0, 0)) rfl (fun _ _ _ => rfl) : mo_Sim 184 8 (ma_stor 0 2 9)) (mt_leaf (ms_pushi (e := (.iconst 0, 10, 0, 0, 0)) rfl (fun _ _ _ => rfl) (by decide) : mo_Sim 184 9 (ma_push (ma_ci (.ofNat 0)) 10)) (mt_none))))
set_option maxRecDepth 100000 in
theorem smt184_3 (k : Nat) : ∀ f, mt184_3 k = some f → mo_Sim 184 k f := mt_node (smt184_4 k) (smt184_5 k)
set_option maxRecDepth 100000 in
theorem smt184_7 (k : Nat) : ∀ f, mt184_7 k = some f → mo_Sim 184 k f := mt_leaf (ms_ist (e := (.istore_n 3, 11, 0, 0, 0)) rfl (fun _ _ _ => rfl) : mo_Sim 184 10 (ma_stor 0 3 11)) (mt_leaf (ms_ild (e := (.iload_n 3, 12, 0, 0, 0)) rfl (fun _ _ _ => rfl) : mo_Sim 184 11 (ma_load 0 3 12)) (mt_leaf (ms_ild (e := (.iload_n 2, 13, 0, 0, 0)) rfl (fun _ _ _ => rfl) : mo_Sim 184 12 (ma_load 0 2 13)) (mt_leaf (ms_if2 (e := (.if_icmp .ge 111, 16, 124, 0, 0)) rfl (fun _ _ _ => rfl) : mo_Sim 184 13 (ma_if2 .ge 124 13 16)) (mt_none))))
set_option maxRecDepth 100000 in
theorem smt184_9 (k : Nat) : ∀ f, mt184_9 k = some f → mo_Sim 184 k f := mt_leaf (ms_pushi (e := (.iconst 0, 17, 0, 0, 0)) rfl (fun _ _ _ => rfl) (by decide) : mo_Sim 184 16 (ma_push (ma_ci (.ofNat 0)) 17)) (mt_leaf (ms_ist (e := (.istore 4, 19, 0, 0, 0)) rfl (fun _ _ _ => rfl) : mo_Sim 184 17 (ma_stor 0 4 19)) (mt_none))
set_option maxRecDepth 100000 in
theorem smt184_10 (k : Nat) : ∀ f, mt184_10 k = some f → mo_Sim 184 k f := mt_leaf (ms_ild (e := (.iload 4, 21, 0, 0, 0)) rfl (fun _ _ _ => rfl) : mo_Sim 184 19 (ma_load 0 4 21)) (mt_leaf (ms_pushi (e := (.iconst 2, 22, 0, 0, 0)) rfl (fun _ _ _ => rfl) (by decide) : mo_Sim 184 21 (ma_push (ma_ci (.ofNat 2)) 22)) (mt_leaf (ms_if2 (e := (.if_icmp .ge 96, 25, 118, 0, 0)) rfl (fun _ _ _ => rfl) : mo_Sim 184 22 (ma_if2 .ge 118 22 25)) (mt_none)))
set_option maxRecDepth 100000 in
theorem smt184_8 (k : Nat) : ∀ f, mt184_8 k = some f → mo_Sim 184 k f := mt_node (smt184_9 k) (smt184_10 k)
set_option maxRecDepth 100000 in
theorem smt184_6 (k : Nat) : ∀ f, mt184_6 k = some f → mo_Sim 184 k f := mt_node (smt184_7 k) (smt184_8 k)
set_option maxRecDepth 100000 in
theorem smt184_2 (k : Nat) : ∀ f, mt184_2 k = some f → mo_Sim 184 k f := mt_node (smt184_3 k) (smt184_6 k)
set_option maxRecDepth 100000 in
theorem smt184_13 (k : Nat) : ∀ f, mt184_13 k = some f → mo_Sim 184 k f := mt_leaf (ms_pushi (e := (.iconst 1, 26, 0, 0, 0)) rfl (fun _ _ _ => rfl) (by decide) : mo_Sim 184 25 (ma_push (ma_ci (.ofNat 1)) 26)) (mt_leaf (ms_ist (e := (.istore 5, 28, 0, 0, 0)) rfl (fun _ _ _ => rfl) : mo_Sim 184 26 (ma_stor 0 5 28)) (mt_leaf (ms_pushi (e := (.iconst 0, 29, 0, 0, 0)) rfl (fun _ _ _ => rfl) (by decide) : mo_Sim 184 28 (ma_push (ma_ci (.ofNat 0)) 29)) (mt_leaf (ms_ist (e := (.istore 6, 31, 0, 0, 0)) rfl (fun _ _ _ => rfl) : mo_Sim 184 29 (ma_stor 0 6 31)) (mt_none))))
set_option maxRecDepth 100000 in
theorem smt184_15 (k : Nat) : ∀ f, mt184_15 k = some f → mo_Sim 184 k f := mt_leaf (ms_ild (e := (.iload 6, 33, 0, 0, 0)) rfl (fun _ _ _ => rfl) : mo_Sim 184 31 (ma_load 0 6 33)) (mt_leaf (ms_ild (e := (.iload_n 2, 34, 0, 0, 0)) rfl (fun _ _ _ => rfl) : mo_Sim 184 33 (ma_load 0 2 34)) (mt_none))
set_option maxRecDepth 100000 in
theorem smt184_16 (k : Nat) : ∀ f, mt184_16 k = some f → mo_Sim 184 k f := mt_leaf (ms_if2 (e := (.if_icmp .ge 71, 37, 105, 0, 0)) rfl (fun _ _ _ => rfl) : mo_Sim 184 34 (ma_if2 .ge 105 34 37)) (mt_leaf (ms_ild (e := (.iload 4, 39, 0, 0, 0)) rfl (fun _ _ _ => rfl) : mo_Sim 184 37 (ma_load 0 4 39)) (mt_leaf (ms_ist (e := (.istore 7, 41, 0, 0, 0)) rfl (fun _ _ _ => rfl) : mo_Sim 184 39 (ma_stor 0 7 41)) (mt_none)))
set_option maxRecDepth 100000 in
theorem smt184_14 (k : Nat) : ∀ f, mt184_14 k = some f → mo_Sim 184 k f := mt_node (smt184_15 k) (smt184_16 k)
set_option maxRecDepth 100000 in
theorem smt184_12 (k : Nat) : ∀ f, mt184_12 k = some f → mo_Sim 184 k f := mt_node (smt184_13 k) (smt184_14 k)
set_option maxRecDepth 100000 in
theorem smt184_18 (k : Nat) : ∀ f, mt184_18 k = some f → mo_Sim 184 k f := mt_leaf (ms_ild (e := (.iload 6, 43, 0, 0, 0)) rfl (fun _ _ _ => rfl) : mo_Sim 184 41 (ma_load 0 6 43)) (mt_leaf (ms_ild (e := (.iload_n 3, 44, 0, 0, 0)) rfl (fun _ _ _ => rfl) : mo_Sim 184 43 (ma_load 0 3 44)) (mt_leaf (ms_iand (e := (.iand, 45, 0, 0, 0)) rfl (fun _ _ _ => rfl) : mo_Sim 184 44 (ma_iand 44 45)) (mt_leaf (ms_ist (e := (.istore 8, 47, 0, 0, 0)) rfl (fun _ _ _ => rfl) : mo_Sim 184 45 (ma_stor 0 8 47)) (mt_none))))
set_option maxRecDepth 100000 in
theorem smt184_20 (k : Nat) : ∀ f, mt184_20 k = some f → mo_Sim 184 k f := mt_leaf (ms_ild (e := (.iload 8, 49, 0, 0, 0)) rfl (fun _ _ _ => rfl) : mo_Sim 184 47 (ma_load 0 8 49)) (mt_leaf (ms_if0 (e := (.ifCond .le 21, 52, 70, 0, 0)) rfl (fun _ _ _ => rfl) : mo_Sim 184 49 (ma_if0 .le 70 49 52)) (mt_none))
set_option maxRecDepth 100000 in
theorem smt184_21 (k : Nat) : ∀ f, mt184_21 k = some f → mo_Sim 184 k f := mt_leaf (ms_ild (e := (.iload 7, 54, 0, 0, 0)) rfl (fun _ _ _ => rfl) : mo_Sim 184 52 (ma_load 0 7 54)) (mt_leaf (ms_ild (e := (.iload 8, 56, 0, 0, 0)) rfl (fun _ _ _ => rfl) : mo_Sim 184 54 (ma_load 0 8 56)) (mt_leaf (ms_pushi (e := (.iconst 1, 57, 0, 0, 0)) rfl (fun _ _ _ => rfl) (by decide) : mo_Sim 184 56 (ma_push (ma_ci (.ofNat 1)) 57)) (mt_none)))
set_option maxRecDepth 100000 in
theorem smt184_19 (k : Nat) : ∀ f, mt184_19 k = some f → mo_Sim 184 k f := mt_node (smt184_20 k) (smt184_21 k)
set_option maxRecDepth 100000 in
theorem smt184_17 (k : Nat) : ∀ f, mt184_17 k = some f → mo_Sim 184 k f := mt_node (smt184_18 k) (smt184_19 k)
set_option maxRecDepth 100000 in
theorem smt184_11 (k : Nat) : ∀ f, mt184_11 k = some f → mo_Sim 184 k f := mt_node (smt184_12 k) (smt184_17 k)
set_option maxRecDepth 100000 in
theorem smt184_1 (k : Nat) : ∀ f, mt184_1 k = some f → mo_Sim 184 k f := mt_node (smt184_2 k) (smt184_11 k)
set_option maxRecDepth 100000 in
theorem smt184_25 (k : Nat) : ∀ f, mt184_25 k = some f → mo_Sim 184 k f := mt_leaf (ms_iand (e := (.iand, 58, 0, 0, 0)) rfl (fun _ _ _ => rfl) : mo_Sim 184 57 (ma_iand 57 58)) (mt_leaf (ms_i2 (e := (.ixor, 59, 0, 0, 0)) rfl (fun _ _ _ => rfl) hf_xor : mo_Sim 184 58 (ma_i2 ma_fxor 58 59)) (mt_leaf (ms_ist (e := (.istore 7, 61, 0, 0, 0)) rfl (fun _ _ _ => rfl) : mo_Sim 184 59 (ma_stor 0 7 61)) (mt_leaf (ms_ild (e := (.iload 8, 63, 0, 0, 0)) rfl (fun _ _ _ => rfl) : mo_Sim 184 61 (ma_load 0 8 63)) (mt_none))))
set_option maxRecDepth 100000 in
theorem smt184_27 (k : Nat) : ∀ f, mt184_27 k = some f → mo_Sim 184 k f := mt_leaf (ms_pushi (e := (.iconst 1, 64, 0, 0, 0)) rfl (fun _ _ _ => rfl) (by decide) : mo_Sim 184 63 (ma_push (ma_ci (.ofNat 1)) 64)) (mt_leaf (ms_i2 (e := (.ishr, 65, 0, 0, 0)) rfl (fun _ _ _ => rfl) hf_shr : mo_Sim 184 64 (ma_i2 ma_fshr 64 65)) (mt_none))
set_option maxRecDepth 100000 in
theorem smt184_28 (k : Nat) : ∀ f, mt184_28 k = some f → mo_Sim 184 k f := mt_leaf (ms_ist (e := (.istore 8, 67, 0, 0, 0)) rfl (fun _ _ _ => rfl) : mo_Sim 184 65 (ma_stor 0 8 67)) (mt_leaf (ms_goto (e := (.goto (-20), 70, 47, 0, 0)) rfl (fun _ _ _ => rfl) : mo_Sim 184 67 (ma_goto 47)) (mt_leaf (ms_ild (e := (.iload 5, 72, 0, 0, 0)) rfl (fun _ _ _ => rfl) : mo_Sim 184 70 (ma_load 0 5 72)) (mt_none)))
set_option maxRecDepth 100000 in
theorem smt184_26 (k : Nat) : ∀ f, mt184_26 k = some f → mo_Sim 184 k f := mt_node (smt184_27 k) (smt184_28 k)
set_option maxRecDepth 100000 in
theorem smt184_24 (k : Nat) : ∀ f, mt184_24 k = some f → mo_Sim 184 k f := mt_node (smt184_25 k) (smt184_26 k)
set_option maxRecDepth 100000 in
theorem smt184_30 (k : Nat) : ∀ f, mt184_30 k = some f → mo_Sim 184 k f := mt_leaf (ms_if0 (e := (.ifCond .eq 24, 75, 96, 0, 0)) rfl (fun _ _ _ => rfl) : mo_Sim 184 72 (ma_if0 .eq 96 72 75)) (mt_leaf (ms_ild (e := (.iload 7, 77, 0, 0, 0)) rfl (fun _ _ _ => rfl) : mo_Sim 184 75 (ma_load 0 7 77)) (mt_leaf (ms_ald (e := (.aload_n 0, 78, 0, 0, 0)) rfl (fun _ _ _ => rfl) : mo_Sim 184 77 (ma_lda 0 78)) (mt_leaf (ms_getf (e := (.getfield 27, 81, 12, 6, 1058)) rfl (fun _ _ _ => rfl) : mo_Sim 184 78 (ma_getf 12 6 81)) (mt_none))))
set_option maxRecDepth 100000 in
theorem smt184_32 (k : Nat) : ∀ f, mt184_32 k = some f → mo_Sim 184 k f := mt_leaf (ms_pushi (e := (.bipush 27, 83, 0, 0, 0)) rfl (fun _ _ _ => rfl) (by decide) : mo_Sim 184 81 (ma_push (ma_ci (.ofNat 27)) 83)) (mt_leaf (ms_ild (e := (.iload_n 1, 84, 0, 0, 0)) rfl (fun _ _ _ => rfl) : mo_Sim 184 83 (ma_load 0 1 84)) (mt_none))
set_option maxRecDepth 100000 in
theorem smt184_33 (k : Nat) : ∀ f, mt184_33 k = some f → mo_Sim 184 k f := mt_leaf (ms_i2 (e := (.imul, 85, 0, 0, 0)) rfl (fun _ _ _ => rfl) hf_mul : mo_Sim 184 84 (ma_i2 ma_fmul 84 85)) (mt_leaf (ms_ild (e := (.iload 6, 87, 0, 0, 0)) rfl (fun _ _ _ => rfl) : mo_Sim 184 85 (ma_load 0 6 87)) (mt_leaf (ms_iadd (e := (.iadd, 88, 0, 0, 0)) rfl (fun _ _ _ => rfl) : mo_Sim 184 87 (ma_iadd 87 88)) (mt_none)))
set_option maxRecDepth 100000 in
theorem smt184_31 (k : Nat) : ∀ f, mt184_31 k = some f → mo_Sim 184 k f := mt_node (smt184_32 k) (smt184_33 k)
set_option maxRecDepth 100000 in
theorem smt184_29 (k : Nat) : ∀ f, mt184_29 k = some f → mo_Sim 184 k f := mt_node (smt184_30 k) (smt184_31 k)
set_option maxRecDepth 100000 in
theorem smt184_23 (k : Nat) : ∀ f, mt184_23 k = some f → mo_Sim 184 k f := mt_node (smt184_24 k) (smt184_29 k)
set_option maxRecDepth 100000 in
theorem smt184_36 (k : Nat) : ∀ f, mt184_36 k = some f → mo_Sim 184 k f := mt_leaf (ms_iald (e := (.iaload, 89, 0, 0, 0)) rfl (fun _ _ _ => rfl) : mo_Sim 184 88 (ma_iald 88 89)) (mt_leaf (ms_if2 (e := (.if_icmp .ne 7, 92, 96, 0, 0)) rfl (fun _ _ _ => rfl) : mo_Sim 184 89 (ma_if2 .ne 96 89 92)) (mt_leaf (ms_pushi (e := (.iconst 1, 93, 0, 0, 0)) rfl (fun _ _ _ => rfl) (by decide) : mo_Sim 184 92 (ma_push (ma_ci (.ofNat 1)) 93)) (mt_leaf (ms_goto (e := (.goto 4, 96, 97, 0, 0)) rfl (fun _ _ _ => rfl) : mo_Sim 184 93 (ma_goto 97)) (mt_none))))
set_option maxRecDepth 100000 in
theorem smt184_38 (k : Nat) : ∀ f, mt184_38 k = some f → mo_Sim 184 k f := mt_leaf (ms_pushi (e := (.iconst 0, 97, 0, 0, 0)) rfl (fun _ _ _ => rfl) (by decide) : mo_Sim 184 96 (ma_push (ma_ci (.ofNat 0)) 97)) (mt_leaf (ms_ist (e := (.istore 5, 99, 0, 0, 0)) rfl (fun _ _ _ => rfl) : mo_Sim 184 97 (ma_stor 0 5 99)) (mt_none))
set_option maxRecDepth 100000 in
theorem smt184_39 (k : Nat) : ∀ f, mt184_39 k = some f → mo_Sim 184 k f := mt_leaf (ms_iinc (e := (.iinc 6 1, 102, 0, 0, 0)) rfl (fun _ _ _ => rfl) (by decide) : mo_Sim 184 99 (ma_iinc 6 (.ofNat 1) 99 102)) (mt_leaf (ms_goto (e := (.goto (-71), 105, 31, 0, 0)) rfl (fun _ _ _ => rfl) : mo_Sim 184 102 (ma_goto 31)) (mt_leaf (ms_ild (e := (.iload 5, 107, 0, 0, 0)) rfl (fun _ _ _ => rfl) : mo_Sim 184 105 (ma_load 0 5 107)) (mt_none)))
set_option maxRecDepth 100000 in
theorem smt184_37 (k : Nat) : ∀ f, mt184_37 k = some f → mo_Sim 184 k f := mt_node (smt184_38 k) (smt184_39 k)
set_option maxRecDepth 100000 in
theorem smt184_35 (k : Nat) : ∀ f, mt184_35 k = some f → mo_Sim 184 k f := mt_node (smt184_36 k) (smt184_37 k)
set_option maxRecDepth 100000 in
theorem smt184_41 (k : Nat) : ∀ f, mt184_41 k = some f → mo_Sim 184 k f := mt_leaf (ms_if0 (e := (.ifCond .eq 5, 110, 112, 0, 0)) rfl (fun _ _ _ => rfl) : mo_Sim 184 107 (ma_if0 .eq 112 107 110)) (mt_leaf (ms_pushi (e := (.iconst 1, 111, 0, 0, 0)) rfl (fun _ _ _ => rfl) (by decide) : mo_Sim 184 110 (ma_push (ma_ci (.ofNat 1)) 111)) (mt_leaf (ms_ret (e := (.ireturn, 112, 0, 0, 0)) rfl (Or.inr (Or.inl ⟨rfl, rfl, (fun _ _ _ => rfl)⟩)) : mo_Sim 184 111 (ma_ret 1)) (mt_leaf (ms_iinc (e := (.iinc 4 1, 115, 0, 0, 0)) rfl (fun _ _ _ => rfl) (by decide) : mo_Sim 184 112 (ma_iinc 4 (.ofNat 1) 112 115)) (mt_none))))
set_option maxRecDepth 100000 in
theorem smt184_43 (k : Nat) : ∀ f, mt184_43 k = some f → mo_Sim 184 k f := mt_leaf (ms_goto (e := (.goto (-96), 118, 19, 0, 0)) rfl (fun _ _ _ => rfl) : mo_Sim 184 115 (ma_goto 19)) (mt_leaf (ms_iinc (e := (.iinc 3 1, 121, 0, 0, 0)) rfl (fun _ _ _ => rfl) (by decide) : mo_Sim 184 118 (ma_iinc 3 (.ofNat 1) 118 121)) (mt_none))
set_option maxRecDepth 100000 in
theorem smt184_44 (k : Nat) : ∀ f, mt184_44 k = some f → mo_Sim 184 k f := mt_leaf (ms_goto (e := (.goto (-110), 124, 11, 0, 0)) rfl (fun _ _ _ => rfl) : mo_Sim 184 121 (ma_goto 11)) (mt_leaf (ms_pushi (e := (.iconst 0, 125, 0, 0, 0)) rfl (fun _ _ _ => rfl) (by decide) : mo_Sim 184 124 (ma_push (ma_ci (.ofNat 0)) 125)) (mt_leaf (ms_ret (e := (.ireturn, 126, 0, 0, 0)) rfl (Or.inr (Or.inl ⟨rfl, rfl, (fun _ _ _ => rfl)⟩)) : mo_Sim 184 125 (ma_ret 1)) (mt_none)))
set_option maxRecDepth 100000 in
theorem smt184_42 (k : Nat) : ∀ f, mt184_42 k = some f → mo_Sim 184 k f := mt_node (smt184_43 k) (smt184_44 k)
set_option maxRecDepth 100000 in
theorem smt184_40 (k : Nat) : ∀ f, mt184_40 k = some f → mo_Sim 184 k f := mt_node (smt184_41 k) (smt184_42 k)
set_option maxRecDepth 100000 in
theorem smt184_34 (k : Nat) : ∀ f, mt184_34 k = some f → mo_Sim 184 k f := mt_node (smt184_35 k) (smt184_40 k)
set_option maxRecDepth 100000 in
theorem smt184_22 (k : Nat) : ∀ f, mt184_22 k = some f → mo_Sim 184 k f := mt_node (smt184_23 k) (smt184_34 k)
set_option maxRecDepth 100000 in
theorem smt184_0 (k : Nat) : ∀ f, mt184_0 k = some f → mo_Sim 184 k f := mt_node (smt184_1 k) (smt184_22 k)
set_option maxRecDepth 100000 in
theorem smt185_4 (k : Nat) : ∀ f, mt185_4 k = some f → mo_Sim 185 k f := mt_leaf (ms_ild (e := (.iload_n 1, 1, 0, 0, 0)) rfl (fun _ _ _ => rfl) : mo_Sim 185 0 (ma_load 0 1 1)) (mt_leaf (ms_if0 (e := (.ifCond .lt 19, 4, 20, 0, 0)) rfl (fun _ _ _ => rfl) : mo_Sim 185 1 (ma_if0 .lt 20 1 4)) (mt_leaf (ms_ild (e := (.iload_n 1, 5, 0, 0, 0)) rfl (fun _ _ _ => rfl) : mo_Sim 185 4 (ma_load 0 1 5)) (mt_leaf (ms_ald (e := (.aload_n 0, 6, 0, 0, 0)) rfl (fun _ _ _ => rfl) : mo_Sim 185 5 (ma_lda 0 6)) (mt_none))))
set_option maxRecDepth 100000 in
theorem smt185_6 (k : Nat) : ∀ f, mt185_6 k = some f → mo_Sim 185 k f := mt_leaf (ms_getf (e := (.getfield 72, 9, 12, 4, 1056)) rfl (fun _ _ _ => rfl) : mo_Sim 185 6 (ma_getf 12 4 9)) (mt_leaf (ms_if2 (e := (.if_icmp .ge 11, 12, 20, 0, 0)) rfl (fun _ _ _ => rfl) : mo_Sim 185 9 (ma_if2 .ge 20 9 12)) (mt_none))
set_option maxRecDepth 100000 in
theorem smt185_7 (k : Nat) : ∀ f, mt185_7 k = some f → mo_Sim 185 k f := mt_leaf (ms_ald (e := (.aload_n 0, 13, 0, 0, 0)) rfl (fun _ _ _ => rfl) : mo_Sim 185 12 (ma_lda 0 13)) (mt_leaf (ms_getf (e := (.getfield 7, 16, 12, 0, 1052)) rfl (fun _ _ _ => rfl) : mo_Sim 185 13 (ma_getf 12 0 16)) (mt_leaf (ms_pushi (e := (.iconst 3, 17, 0, 0, 0)) rfl (fun _ _ _ => rfl) (by decide) : mo_Sim 185 16 (ma_push (ma_ci (.ofNat 3)) 17)) (mt_none)))
set_option maxRecDepth 100000 in
theorem smt185_5 (k : Nat) : ∀ f, mt185_5 k = some f → mo_Sim 185 k f := mt_node (smt185_6 k) (smt185_7 k)
set_option maxRecDepth 100000 in
theorem smt185_3 (k : Nat) : ∀ f, mt185_3 k = some f → mo_Sim 185 k f := mt_node (smt185_4 k) (smt185_5 k)
set_option maxRecDepth 100000 in
theorem smt185_10 (k : Nat) : ∀ f, mt185_10 k = some f → mo_Sim 185 k f := mt_leaf (ms_if2 (e := (.if_icmp .ne 5, 20, 22, 0, 0)) rfl (fun _ _ _ => rfl) : mo_Sim 185 17 (ma_if2 .ne 22 17 20)) (mt_leaf (ms_pushi (e := (.iconst (-1), 21, 0, 0, 0)) rfl (fun _ _ _ => rfl) (by decide) : mo_Sim 185 20 (ma_push (ma_ci (.negSucc 0)) 21)) (mt_none))
set_option maxRecDepth 100000 in
theorem smt185_11 (k : Nat) : ∀ f, mt185_11 k = some f → mo_Sim 185 k f := mt_leaf (ms_ret (e := (.ireturn, 22, 0, 0, 0)) rfl (Or.inl ⟨rfl, rfl, (fun _ _ _ => rfl)⟩) : mo_Sim 185 21 (ma_ret 0)) (mt_leaf (ms_pushi (e := (.iconst 1, 23, 0, 0, 0)) rfl (fun _ _ _ => rfl) (by decide) : mo_Sim 185 22 (ma_push (ma_ci (.ofNat 1)) 23)) (mt_leaf (ms_ald (e := (.aload_n 0, 24, 0, 0, 0)) rfl (fun _ _ _ => rfl) : mo_Sim 185 23 (ma_lda 0 24)) (mt_none)))
set_option maxRecDepth 100000 in
theorem smt185_9 (k : Nat) : ∀ f, mt185_9 k = some f → mo_Sim 185 k f := mt_node (smt185_10 k) (smt185_11 k)
set_option maxRecDepth 100000 in
theorem smt185_13 (k : Nat) : ∀ f, mt185_13 k = some f → mo_Sim 185 k f := mt_leaf (ms_getf (e := (.getfield 24, 27, 12, 5, 1057)) rfl (fun _ _ _ => rfl) : mo_Sim 185 24 (ma_getf 12 5 27)) (mt_leaf (ms_ild (e := (.iload_n 1, 28, 0, 0, 0)) rfl (fun _ _ _ => rfl) : mo_Sim 185 27 (ma_load 0 1 28)) (mt_none))
set_option maxRecDepth 100000 in
theorem smt185_14 (k : Nat) : ∀ f, mt185_14 k = some f → mo_Sim 185 k f := mt_leaf (ms_iald (e := (.iaload, 29, 0, 0, 0)) rfl (fun _ _ _ => rfl) : mo_Sim 185 28 (ma_iald 28 29)) (mt_leaf (ms_i2 (e := (.ishl, 30, 0, 0, 0)) rfl (fun _ _ _ => rfl) hf_shl : mo_Sim 185 29 (ma_i2 ma_fshl 29 30)) (mt_leaf (ms_ist (e := (.istore_n 2, 31, 0, 0, 0)) rfl (fun _ _ _ => rfl) : mo_Sim 185 30 (ma_stor 0 2 31)) (mt_none)))
set_option maxRecDepth 100000 in
theorem smt185_12 (k : Nat) : ∀ f, mt185_12 k = some f → mo_Sim 185 k f := mt_node (smt185_13 k) (smt185_14 k)
set_option maxRecDepth 100000 in
theorem smt185_8 (k : Nat) : ∀ f, mt185_8 k = some f → mo_Sim 185 k f := mt_node (smt185_9 k) (smt185_12 k)
set_option maxRecDepth 100000 in
theorem smt185_2 (k : Nat) : ∀ f, mt185_2 k = some f → mo_Sim 185 k f := mt_node (smt185_3 k) (smt185_8 k)
set_option maxRecDepth 100000 in
theorem smt185_18 (k : Nat) : ∀ f, mt185_18 k = some f → mo_Sim 185 k f := mt_leaf (ms_ald (e := (.aload_n 0, 32, 0, 0, 0)) rfl (fun _ _ _ => rfl) : mo_Sim 185 31 (ma_lda 0 32)) (mt_leaf (ms_getf (e := (.getfield 27, 35, 12, 6, 1058)) rfl (fun _ _ _ => rfl) : mo_Sim 185 32 (ma_getf 12 6 35)) (mt_none))
set_option maxRecDepth 100000 in
theorem smt185_19 (k : Nat) : ∀ f, mt185_19 k = some f → mo_Sim 185 k f := mt_leaf (ms_pushi (e := (.bipush 27, 37, 0, 0, 0)) rfl (fun _ _ _ => rfl) (by decide) : mo_Sim 185 35 (ma_push (ma_ci (.ofNat 27)) 37)) (mt_leaf (ms_ild (e := (.iload_n 1, 38, 0, 0, 0)) rfl (fun _ _ _ => rfl) : mo_Sim 185 37 (ma_load 0 1 38)) (mt_leaf (ms_i2 (e := (.imul, 39, 0, 0, 0)) rfl (fun _ _ _ => rfl) hf_mul : mo_Sim 185 38 (ma_i2 ma_fmul 38 39)) (mt_none)))
set_option maxRecDepth 100000 in
theorem smt185_17 (k : Nat) : ∀ f, mt185_17 k = some f → mo_Sim 185 k f := mt_node (smt185_18 k) (smt185_19 k)
set_option maxRecDepth 100000 in
theorem smt185_21 (k : Nat) : ∀ f, mt185_21 k = some f → mo_Sim 185 k f := mt_leaf (ms_iald (e := (.iaload, 40, 0, 0, 0)) rfl (fun _ _ _ => rfl) : mo_Sim 185 39 (ma_iald 39 40)) (mt_leaf (ms_if0 (e := (.ifCond .ne 7, 43, 47, 0, 0)) rfl (fun _ _ _ => rfl) : mo_Sim 185 40 (ma_if0 .ne 47 40 43)) (mt_none))
set_option maxRecDepth 100000 in
theorem smt185_22 (k : Nat) : ∀ f, mt185_22 k = some f → mo_Sim 185 k f := mt_leaf (ms_pushi (e := (.iconst 1, 44, 0, 0, 0)) rfl (fun _ _ _ => rfl) (by decide) : mo_Sim 185 43 (ma_push (ma_ci (.ofNat 1)) 44)) (mt_leaf (ms_goto (e := (.goto 4, 47, 48, 0, 0)) rfl (fun _ _ _ => rfl) : mo_Sim 185 44 (ma_goto 48)) (mt_leaf (ms_pushi (e := (.iconst 0, 48, 0, 0, 0)) rfl (fun _ _ _ => rfl) (by decide) : mo_Sim 185 47 (ma_push (ma_ci (.ofNat 0)) 48)) (mt_none)))
set_option maxRecDepth 100000 in
theorem smt185_20 (k : Nat) : ∀ f, mt185_20 k = some f → mo_Sim 185 k f := mt_node (smt185_21 k) (smt185_22 k)
set_option maxRecDepth 100000 in
theorem smt185_16 (k : Nat) : ∀ f, mt185_16 k = some f → mo_Sim 185 k f := mt_node (smt185_17 k) (smt185_20 k)
set_option maxRecDepth 100000 in
theorem smt185_25 (k : Nat) : ∀ f, mt185_25 k = some f → mo_Sim 185 k f := mt_leaf (ms_ist (e := (.istore_n 3, 49, 0, 0, 0)) rfl (fun _ _ _ => rfl) : mo_Sim 185 48 (ma_stor 0 3 49)) (mt_leaf (ms_ild (e := (.iload_n 3, 50, 0, 0, 0)) rfl (fun _ _ _ => rfl) : mo_Sim 185 49 (ma_load 0 3 50)) (mt_none))
set_option maxRecDepth 100000 in
theorem smt185_26 (k : Nat) : ∀ f, mt185_26 k = some f → mo_Sim 185 k f := mt_leaf (ms_ald (e := (.aload_n 0, 51, 0, 0, 0)) rfl (fun _ _ _ => rfl) : mo_Sim 185 50 (ma_lda 0 51)) (mt_leaf (ms_getf (e := (.getfield 27, 54, 12, 6, 1058)) rfl (fun _ _ _ => rfl) : mo_Sim 185 51 (ma_getf 12 6 54)) (mt_leaf (ms_pushi (e := (.bipush 27, 56, 0, 0, 0)) rfl (fun _ _ _ => rfl) (by decide) : mo_Sim 185 54 (ma_push (ma_ci (.ofNat 27)) 56)) (mt_none)))
set_option maxRecDepth 100000 in
theorem smt185_24 (k : Nat) : ∀ f, mt185_24 k = some f → mo_Sim 185 k f := mt_node (smt185_25 k) (smt185_26 k)
set_option maxRecDepth 100000 in
theorem smt185_28 (k : Nat) : ∀ f, mt185_28 k = some f → mo_Sim 185 k f := mt_leaf (ms_ild (e := (.iload_n 1, 57, 0, 0, 0)) rfl (fun _ _ _ => rfl) : mo_Sim 185 56 (ma_load 0 1 57)) (mt_leaf (ms_i2 (e := (.imul, 58, 0, 0, 0)) rfl (fun _ _ _ => rfl) hf_mul : mo_Sim 185 57 (ma_i2 ma_fmul 57 58)) (mt_none))
set_option maxRecDepth 100000 in
theorem smt185_29 (k : Nat) : ∀ f, mt185_29 k = some f → mo_Sim 185 k f := mt_leaf (ms_ild (e := (.iload_n 2, 59, 0, 0, 0)) rfl (fun _ _ _ => rfl) : mo_Sim 185 58 (ma_load 0 2 59)) (mt_leaf (ms_iadd (e := (.iadd, 60, 0, 0, 0)) rfl (fun _ _ _ => rfl) : mo_Sim 185 59 (ma_iadd 59 60)) (mt_leaf (ms_pushi (e := (.iconst 1, 61, 0, 0, 0)) rfl (fun _ _ _ => rfl) (by decide) : mo_Sim 185 60 (ma_push (ma_ci (.ofNat 1)) 61)) (mt_none)))
set_option maxRecDepth 100000 in
theorem smt185_27 (k : Nat) : ∀ f, mt185_27 k = some f → mo_Sim 185 k f := mt_node (smt185_28 k) (smt185_29 k)
set_option maxRecDepth 100000 in
theorem smt185_23 (k : Nat) : ∀ f, mt185_23 k = some f → mo_Sim 185 k f := mt_node (smt185_24 k) (smt185_27 k)
set_option maxRecDepth 100000 in
theorem smt185_15 (k : Nat) : ∀ f, mt185_15 k = some f → mo_Sim 185 k f := mt_node (smt185_16 k) (smt185_23 k)
set_option maxRecDepth 100000 in
theorem smt185_1 (k : Nat) : ∀ f, mt185_1 k = some f → mo_Sim 185 k f := mt_node (smt185_2 k) (smt185_15 k)
set_option maxRecDepth 100000 in
theorem smt185_33 (k : Nat) : ∀ f, mt185_33 k = some f → mo_Sim 185 k f := mt_leaf (ms_isub (e := (.isub, 62, 0, 0, 0)) rfl (fun _ _ _ => rfl) : mo_Sim 185 61 (ma_isub 61 62)) (mt_leaf (ms_iald (e := (.iaload, 63, 0, 0, 0)) rfl (fun _ _ _ => rfl) : mo_Sim 185 62 (ma_iald 62 63)) (mt_leaf (ms_pushi (e := (.iconst 1, 64, 0, 0, 0)) rfl (fun _ _ _ => rfl) (by decide) : mo_Sim 185 63 (ma_push (ma_ci (.ofNat 1)) 64)) (mt_leaf (ms_if2 (e := (.if_icmp .ne 7, 67, 71, 0, 0)) rfl (fun _ _ _ => rfl) : mo_Sim 185 64 (ma_if2 .ne 71 64 67)) (mt_none))))
set_option maxRecDepth 100000 in
theorem smt185_35 (k : Nat) : ∀ f, mt185_35 k = some f → mo_Sim 185 k f := mt_leaf (ms_pushi (e := (.iconst 2, 68, 0, 0, 0)) rfl (fun _ _ _ => rfl) (by decide) : mo_Sim 185 67 (ma_push (ma_ci (.ofNat 2)) 68)) (mt_leaf (ms_goto (e := (.goto 4, 71, 72, 0, 0)) rfl (fun _ _ _ => rfl) : mo_Sim 185 68 (ma_goto 72)) (mt_none))
set_option maxRecDepth 100000 in
theorem smt185_36 (k : Nat) : ∀ f, mt185_36 k = some f → mo_Sim 185 k f := mt_leaf (ms_pushi (e := (.iconst 0, 72, 0, 0, 0)) rfl (fun _ _ _ => rfl) (by decide) : mo_Sim 185 71 (ma_push (ma_ci (.ofNat 0)) 72)) (mt_leaf (ms_i2 (e := (.ior, 73, 0, 0, 0)) rfl (fun _ _ _ => rfl) hf_or : mo_Sim 185 72 (ma_i2 ma_for 72 73)) (mt_leaf (ms_ist (e := (.istore_n 3, 74, 0, 0, 0)) rfl (fun _ _ _ => rfl) : mo_Sim 185 73 (ma_stor 0 3 74)) (mt_none)))
set_option maxRecDepth 100000 in
theorem smt185_34 (k : Nat) : ∀ f, mt185_34 k = some f → mo_Sim 185 k f := mt_node (smt185_35 k) (smt185_36 k)
set_option maxRecDepth 100000 in
theorem smt185_32 (k : Nat) : ∀ f, mt185_32 k = some f → mo_Sim 185 k f := mt_node (smt185_33 k) (smt185_34 k)
set_option maxRecDepth 100000 in
theorem smt185_39 (k : Nat) : ∀ f, mt185_39 k = some f → mo_Sim 185 k f := mt_leaf (ms_ild (e := (.iload_n 3, 75, 0, 0, 0)) rfl (fun _ _ _ => rfl) : mo_Sim 185 74 (ma_load 0 3 75)) (mt_leaf (ms_ald (e := (.aload_n 0, 76, 0, 0, 0)) rfl (fun _ _ _ => rfl) : mo_Sim 185 75 (ma_lda 0 76)) (mt_none))
set_option maxRecDepth 100000 in
theorem smt185_40 (k : Nat) : ∀ f, mt185_40 k = some f → mo_Sim 185 k f := mt_leaf (ms_ild (e := (.iload_n 1, 77, 0, 0, 0)) rfl (fun _ _ _ => rfl) : mo_Sim 185 76 (ma_load 0 1 77)) (mt_leaf (ms_invV (p := 1) (e := (.invokevirtual 179, 80, 182, 0, 1302)) rfl rfl (fun _ _ _ => rfl) rfl rfl rfl (by decide) : mo_Sim 185 77 (ma_inv 182 2 5 12 80)) (mt_leaf (ms_if0 (e := (.ifCond .eq 7, 83, 87, 0, 0)) rfl (fun _ _ _ => rfl) : mo_Sim 185 80 (ma_if0 .eq 87 80 83)) (mt_none)))
set_option maxRecDepth 100000 in
theorem smt185_38 (k : Nat) : ∀ f, mt185_38 k = some f → mo_Sim 185 k f := mt_node (smt185_39 k) (smt185_40 k)
set_option maxRecDepth 100000 in
theorem smt185_42 (k : Nat) : ∀ f, mt185_42 k = some f → mo_Sim 185 k f := mt_leaf (ms_pushi (e := (.iconst 4, 84, 0, 0, 0)) rfl (fun _ _ _ => rfl) (by decide) : mo_Sim 185 83 (ma_push (ma_ci (.ofNat 4)) 84)) (mt_leaf (ms_goto (e := (.goto 4, 87, 88, 0, 0)) rfl (fun _ _ _ => rfl) : mo_Sim 185 84 (ma_goto 88)) (mt_none))
set_option maxRecDepth 100000 in
theorem smt185_43 (k : Nat) : ∀ f, mt185_43 k = some f → mo_Sim 185 k f := mt_leaf (ms_pushi (e := (.iconst 0, 88, 0, 0, 0)) rfl (fun _ _ _ => rfl) (by decide) : mo_Sim 185 87 (ma_push (ma_ci (.ofNat 0)) 88)) (mt_leaf (ms_i2 (e := (.ior, 89, 0, 0, 0)) rfl (fun _ _ _ => rfl) hf_or : mo_Sim 185 88 (ma_i2 ma_for 88 89)) (mt_leaf (ms_ist (e := (.istore_n 3, 90, 0, 0, 0)) rfl (fun _ _ _ => rfl) : mo_Sim 185 89 (ma_stor 0 3 90)) (mt_none)))
set_option maxRecDepth 100000 in
theorem smt185_41 (k : Nat) : ∀ f, mt185_41 k = some f → mo_Sim 185 k f := mt_node (smt185_42 k) (smt185_43 k)
set_option maxRecDepth 100000 in
theorem smt185_37 (k : Nat) : ∀ f, mt185_37 k = some f → mo_Sim 185 k f := mt_node (smt185_38 k) (smt185_41 k)
set_option maxRecDepth 100000 in
theorem smt185_31 (k : Nat) : ∀ f, mt185_31 k = some f → mo_Sim 185 k f := mt_node (smt185_32 k) (smt185_37 k)
set_option maxRecDepth 100000 in
theorem smt185_47 (k : Nat) : ∀ f, mt185_47 k = some f → mo_Sim 185 k f := mt_leaf (ms_ild (e := (.iload_n 3, 91, 0, 0, 0)) rfl (fun _ _ _ => rfl) : mo_Sim 185 90 (ma_load 0 3 91)) (mt_leaf (ms_ald (e := (.aload_n 0, 92, 0, 0, 0)) rfl (fun _ _ _ => rfl) : mo_Sim 185 91 (ma_lda 0 92)) (mt_none))
set_option maxRecDepth 100000 in
theorem smt185_48 (k : Nat) : ∀ f, mt185_48 k = some f → mo_Sim 185 k f := mt_leaf (ms_ild (e := (.iload_n 1, 93, 0, 0, 0)) rfl (fun _ _ _ => rfl) : mo_Sim 185 92 (ma_load 0 1 93)) (mt_leaf (ms_invV (p := 1) (e := (.invokevirtual 182, 96, 183, 0, 1306)) rfl rfl (fun _ _ _ => rfl) rfl rfl rfl (by decide) : mo_Sim 185 93 (ma_inv 183 2 4 12 96)) (mt_leaf (ms_if0 (e := (.ifCond .eq 8, 99, 104, 0, 0)) rfl (fun _ _ _ => rfl) : mo_Sim 185 96 (ma_if0 .eq 104 96 99)) (mt_none)))
set_option maxRecDepth 100000 in
theorem smt185_46 (k : Nat) : ∀ f, mt185_46 k = some f → mo_Sim 185 k f := mt_node (smt185_47 k) (smt185_48 k)
set_option maxRecDepth 100000 in
theorem smt185_50 (k : Nat) : ∀ f, mt185_50 k = some f → mo_Sim 185 k f := mt_leaf (ms_pushi (e := (.bipush 8, 101, 0, 0, 0)) rfl (fun _ _ _ => rfl) (by decide) : mo_Sim 185 99 (ma_push (ma_ci (.ofNat 8)) 101)) (mt_leaf (ms_goto (e := (.goto 4, 104, 105, 0, 0)) rfl (fun _ _ _ => rfl) : mo_Sim 185 101 (ma_goto 105)) (mt_none))
set_option maxRecDepth 100000 in
theorem smt185_51 (k : Nat) : ∀ f, mt185_51 k = some f → mo_Sim 185 k f := mt_leaf (ms_pushi (e := (.iconst 0, 105, 0, 0, 0)) rfl (fun _ _ _ => rfl) (by decide) : mo_Sim 185 104 (ma_push (ma_ci (.ofNat 0)) 105)) (mt_leaf (ms_i2 (e := (.ior, 106, 0, 0, 0)) rfl (fun _ _ _ => rfl) hf_or : mo_Sim 185 105 (ma_i2 ma_for 105 106)) (mt_leaf (ms_ist (e := (.istore_n 3, 107, 0, 0, 0)) rfl (fun _ _ _ => rfl) : mo_Sim 185 106 (ma_stor 0 3 107)) (mt_none)))
set_option maxRecDepth 100000 in
theorem smt185_49 (k : Nat) : ∀ f, mt185_49 k = some f → mo_Sim 185 k f := mt_node (smt185_50 k) (smt185_51 k)
set_option maxRecDepth 100000 in
theorem smt185_45 (k : Nat) : ∀ f, mt185_45 k = some f → mo_Sim 185 k f := mt_node (smt185_46 k) (smt185_49 k)
set_option maxRecDepth 100000 in
theorem smt185_54 (k : Nat) : ∀ f, mt185_54 k = some f → mo_Sim 185 k f := mt_leaf (ms_ild (e := (.iload_n 3, 108, 0, 0, 0)) rfl (fun _ _ _ => rfl) : mo_Sim 185 107 (ma_load 0 3 108)) (mt_leaf (ms_ald (e := (.aload_n 0, 109, 0, 0, 0)) rfl (fun _ _ _ => rfl) : mo_Sim 185 108 (ma_lda 0 109)) (mt_none))
set_option maxRecDepth 100000 in
theorem smt185_55 (k : Nat) : ∀ f, mt185_55 k = some f → mo_Sim 185 k f := mt_leaf (ms_ild (e := (.iload_n 1, 110, 0, 0, 0)) rfl (fun _ _ _ => rfl) : mo_Sim 185 109 (ma_load 0 1 110)) (mt_leaf (ms_invV (p := 1) (e := (.invokevirtual 185, 113, 184, 0, 1310)) rfl rfl (fun _ _ _ => rfl) rfl rfl rfl (by decide) : mo_Sim 185 110 (ma_inv 184 2 9 12 113)) (mt_leaf (ms_if0 (e := (.ifCond .eq 8, 116, 121, 0, 0)) rfl (fun _ _ _ => rfl) : mo_Sim 185 113 (ma_if0 .eq 121 113 116)) (mt_none)))
set_option maxRecDepth 100000 in
theorem smt185_53 (k : Nat) : ∀ f, mt185_53 k = some f → mo_Sim 185 k f := mt_node (smt185_54 k) (smt185_55 k)
set_option maxRecDepth 100000 in
theorem smt185_57 (k : Nat) : ∀ f, mt185_57 k = some f → mo_Sim 185 k f := mt_leaf (ms_pushi (e := (.bipush 16, 118, 0, 0, 0)) rfl (fun _ _ _ => rfl) (by decide) : mo_Sim 185 116 (ma_push (ma_ci (.ofNat 16)) 118)) (mt_leaf (ms_goto (e := (.goto 4, 121, 122, 0, 0)) rfl (fun _ _ _ => rfl) : mo_Sim 185 118 (ma_goto 122)) (mt_none))
set_option maxRecDepth 100000 in
theorem smt185_58 (k : Nat) : ∀ f, mt185_58 k = some f → mo_Sim 185 k f := mt_leaf (ms_pushi (e := (.iconst 0, 122, 0, 0, 0)) rfl (fun _ _ _ => rfl) (by decide) : mo_Sim 185 121 (ma_push (ma_ci (.ofNat 0)) 122)) (mt_leaf (ms_i2 (e := (.ior, 123, 0, 0, 0)) rfl (fun _ _ _ => rfl) hf_or : mo_Sim 185 122 (ma_i2 ma_for 122 123)) (mt_leaf (ms_ret (e := (.ireturn, 124, 0, 0, 0)) rfl (Or.inl ⟨rfl, rfl, (fun _ _ _ => rfl)⟩) : mo_Sim 185 123 (ma_ret 0)) (mt_none)))
set_option maxRecDepth 100000 in
theorem smt185_56 (k : Nat) : ∀ f, mt185_56 k = some f → mo_Sim 185 k f := mt_node (smt185_57 k) (smt185_58 k)
set_option maxRecDepth 100000 in
theorem smt185_52 (k : Nat) : ∀ f, mt185_52 k = some f → mo_Sim 185 k f := mt_node (smt185_53 k) (smt185_56 k)
set_option maxRecDepth 100000 in
theorem smt185_44 (k : Nat) : ∀ f, mt185_44 k = some f → mo_Sim 185 k f := mt_node (smt185_45 k) (smt185_52 k)
set_option maxRecDepth 100000 in
theorem smt185_30 (k : Nat) : ∀ f, mt185_30 k = some f → mo_Sim 185 k f := mt_node (smt185_31 k) (smt185_44 k)
set_option maxRecDepth 100000 in
theorem smt185_0 (k : Nat) : ∀ f, mt185_0 k = some f → mo_Sim 185 k f := mt_node (smt185_1 k) (smt185_30 k)
set_option maxRecDepth 100000 in
theorem smt186_3 (k : Nat) : ∀ f, mt186_3 k = some f → mo_Sim 186 k f := mt_leaf (ms_ald (e := (.aload_n 0, 1, 0, 0, 0)) rfl (fun _ _ _ => rfl) : mo_Sim 186 0 (ma_lda 0 1)) (mt_leaf (ms_getf (e := (.getfield 7, 4, 12, 0, 1052)) rfl (fun _ _ _ => rfl) : mo_Sim 186 1 (ma_getf 12 0 4)) (mt_leaf (ms_pushi (e := (.iconst 3, 5, 0, 0, 0)) rfl (fun _ _ _ => rfl) (by decide) : mo_Sim 186 4 (ma_push (ma_ci (.ofNat 3)) 5)) (mt_none)))
set_option maxRecDepth 100000 in
theorem smt186_4 (k : Nat) : ∀ f, mt186_4 k = some f → mo_Sim 186 k f := mt_leaf (ms_if2 (e := (.if_icmp .ne 5, 8, 10, 0, 0)) rfl (fun _ _ _ => rfl) : mo_Sim 186 5 (ma_if2 .ne 10 5 8)) (mt_leaf (ms_pushi (e := (.iconst (-1), 9, 0, 0, 0)) rfl (fun _ _ _ => rfl) (by decide) : mo_Sim 186 8 (ma_push (ma_ci (.negSucc 0)) 9)) (mt_leaf (ms_ret (e := (.ireturn, 10, 0, 0, 0)) rfl (Or.inl ⟨rfl, rfl, (fun _ _ _ => rfl)⟩) : mo_Sim 186 9 (ma_ret 0)) (mt_leaf (ms_pushi (e := (.bipush 31, 12, 0, 0, 0)) rfl (fun _ _ _ => rfl) (by decide) : mo_Sim 186 10 (ma_push (ma_ci (.ofNat 31)) 12)) (mt_none))))
set_option maxRecDepth 100000 in
theorem smt186_2 (k : Nat) : ∀ f, mt186_2 k = some f → mo_Sim 186 k f := mt_node (smt186_3 k) (smt186_4 k)
set_option maxRecDepth 100000 in
theorem smt186_6 (k : Nat) : ∀ f, mt186_6 k = some f → mo_Sim 186 k f := mt_leaf (ms_ist (e := (.istore_n 1, 13, 0, 0, 0)) rfl (fun _ _ _ => rfl) : mo_Sim 186 12 (ma_stor 0 1 13)) (mt_leaf (ms_pushi (e := (.iconst 0, 14, 0, 0, 0)) rfl (fun _ _ _ => rfl) (by decide) : mo_Sim 186 13 (ma_push (ma_ci (.ofNat 0)) 14)) (mt_leaf (ms_ist (e := (.istore_n 2, 15, 0, 0, 0)) rfl (fun _ _ _ => rfl) : mo_Sim 186 14 (ma_stor 0 2 15)) (mt_none)))
set_option maxRecDepth 100000 in
theorem smt186_7 (k : Nat) : ∀ f, mt186_7 k = some f → mo_Sim 186 k f := mt_leaf (ms_ild (e := (.iload_n 2, 16, 0, 0, 0)) rfl (fun _ _ _ => rfl) : mo_Sim 186 15 (ma_load 0 2 16)) (mt_leaf (ms_ald (e := (.aload_n 0, 17, 0, 0, 0)) rfl (fun _ _ _ => rfl) : mo_Sim 186 16 (ma_lda 0 17)) (mt_leaf (ms_getf (e := (.getfield 72, 20, 12, 4, 1056)) rfl (fun _ _ _ => rfl) : mo_Sim 186 17 (ma_getf 12 4 20)) (mt_leaf (ms_if2 (e := (.if_icmp .ge 17, 23, 37, 0, 0)) rfl (fun _ _ _ => rfl) : mo_Sim 186 20 (ma_if2 .ge 37 20 23)) (mt_none))))
set_option maxRecDepth 100000 in
theorem smt186_5 (k : Nat) : ∀ f, mt186_5 k = some f → mo_Sim 186 k f := mt_node (smt186_6 k) (smt186_7 k)
set_option maxRecDepth 100000 in
theorem smt186_1 (k : Nat) : ∀ f, mt186_1 k = some f → mo_Sim 186 k f := mt_node (smt186_2 k) (smt186_5 k)
set_option maxRecDepth 100000 in
theorem smt186_10 (k : Nat) : ∀ f, mt186_10 k = some f → mo_Sim 186 k f := mt_leaf (ms_ild (e := (.iload_n 1, 24, 0, 0, 0)) rfl (fun _ _ _ => rfl) : mo_Sim 186 23 (ma_load 0 1 24)) (mt_leaf (ms_ald (e := (.aload_n 0, 25, 0, 0, 0)) rfl (fun _ _ _ => rfl) : mo_Sim 186 24 (ma_lda 0 25)) (mt_leaf (ms_ild (e := (.iload_n 2, 26, 0, 0, 0)) rfl (fun _ _ _ => rfl) : mo_Sim 186 25 (ma_load 0 2 26)) (mt_none)))
set_option maxRecDepth 100000 in
theorem smt186_11 (k : Nat) : ∀ f, mt186_11 k = some f → mo_Sim 186 k f := mt_leaf (ms_invV (p := 1) (e := (.invokevirtual 188, 29, 185, 0, 1318)) rfl rfl (fun _ _ _ => rfl) rfl rfl rfl (by decide) : mo_Sim 186 26 (ma_inv 185 2 4 12 29)) (mt_leaf (ms_iand (e := (.iand, 30, 0, 0, 0)) rfl (fun _ _ _ => rfl) : mo_Sim 186 29 (ma_iand 29 30)) (mt_leaf (ms_ist (e := (.istore_n 1, 31, 0, 0, 0)) rfl (fun _ _ _ => rfl) : mo_Sim 186 30 (ma_stor 0 1 31)) (mt_leaf (ms_iinc (e := (.iinc 2 1, 34, 0, 0, 0)) rfl (fun _ _ _ => rfl) (by decide) : mo_Sim 186 31 (ma_iinc 2 (.ofNat 1) 31 34)) (mt_none))))
set_option maxRecDepth 100000 in
theorem smt186_9 (k : Nat) : ∀ f, mt186_9 k = some f → mo_Sim 186 k f := mt_node (smt186_10 k) (smt186_11 k)
set_option maxRecDepth 100000 in
theorem smt186_13 (k : Nat) : ∀ f, mt186_13 k = some f → mo_Sim 186 k f := mt_leaf (ms_goto (e := (.goto (-19), 37, 15, 0, 0)) rfl (fun _ _ _ => rfl) : mo_Sim 186 34 (ma_goto 15)) (mt_leaf (ms_ild (e := (.iload_n 1, 38, 0, 0, 0)) rfl (fun _ _ _ => rfl) : mo_Sim 186 37 (ma_load 0 1 38)) (mt_leaf (ms_if0 (e := (.ifCond .ne 7, 41, 45, 0, 0)) rfl (fun _ _ _ => rfl) : mo_Sim 186 38 (ma_if0 .ne 45 38 41)) (mt_none)))
set_option maxRecDepth 100000 in
theorem smt186_14 (k : Nat) : ∀ f, mt186_14 k = some f → mo_Sim 186 k f := mt_leaf (ms_pushi (e := (.iconst 1, 42, 0, 0, 0)) rfl (fun _ _ _ => rfl) (by decide) : mo_Sim 186 41 (ma_push (ma_ci (.ofNat 1)) 42)) (mt_leaf (ms_goto (e := (.goto 4, 45, 46, 0, 0)) rfl (fun _ _ _ => rfl) : mo_Sim 186 42 (ma_goto 46)) (mt_leaf (ms_pushi (e := (.iconst 0, 46, 0, 0, 0)) rfl (fun _ _ _ => rfl) (by decide) : mo_Sim 186 45 (ma_push (ma_ci (.ofNat 0)) 46)) (mt_leaf (ms_ret (e := (.ireturn, 47, 0, 0, 0)) rfl (Or.inl ⟨rfl, rfl, (fun _ _ _ => rfl)⟩) : mo_Sim 186 46 (ma_ret 0)) (mt_none))))
set_option maxRecDepth 100000 in
theorem smt186_12 (k : Nat) : ∀ f, mt186_12 k = some f → mo_Sim 186 k f := mt_node (smt186_13 k) (smt186_14 k)
set_option maxRecDepth 100000 in
theorem smt186_8 (k : Nat) : ∀ f, mt186_8 k = some f → mo_Sim 186 k f := mt_node (smt186_9 k) (smt186_12 k)
set_option maxRecDepth 100000 in
theorem smt186_0 (k : Nat) : ∀ f, mt186_0 k = some f → mo_Sim 186 k f := mt_node (smt186_1 k) (smt186_8 k)
set_option maxRecDepth 100000 in
theorem smt187_2 (k : Nat) : ∀ f, mt187_2 k = some f → mo_Sim 187 k f := mt_leaf (ms_ild (e := (.iload_n 1, 1, 0, 0, 0)) rfl (fun _ _ _ => rfl) : mo_Sim 187 0 (ma_load 0 1 1)) (mt_leaf (ms_pushi (e := (.iconst 1, 2, 0, 0, 0)) rfl (fun _ _ _ => rfl) (by decide) : mo_Sim 187 1 (ma_push (ma_ci (.ofNat 1)) 2)) (mt_leaf (ms_if2 (e := (.if_icmp .lt 9, 5, 11, 0, 0)) rfl (fun _ _ _ => rfl) : mo_Sim 187 2 (ma_if2 .lt 11 2 5)) (mt_leaf (ms_ild (e := (.iload_n 1, 6, 0, 0, 0)) rfl (fun _ _ _ => rfl) : mo_Sim 187 5 (ma_load 0 1 6)) (mt_none))))
set_option maxRecDepth 100000 in
theorem smt187_3 (k : Nat) : ∀ f, mt187_3 k = some f → mo_Sim 187 k f := mt_leaf (ms_pushi (e := (.bipush 8, 8, 0, 0, 0)) rfl (fun _ _ _ => rfl) (by decide) : mo_Sim 187 6 (ma_push (ma_ci (.ofNat 8)) 8)) (mt_leaf (ms_if2 (e := (.if_icmp .le 5, 11, 13, 0, 0)) rfl (fun _ _ _ => rfl) : mo_Sim 187 8 (ma_if2 .le 13 8 11)) (mt_leaf (ms_pushi (e := (.iconst 0, 12, 0, 0, 0)) rfl (fun _ _ _ => rfl) (by decide) : mo_Sim 187 11 (ma_push (ma_ci (.ofNat 0)) 12)) (mt_leaf (ms_ret (e := (.ireturn, 13, 0, 0, 0)) rfl (Or.inr (Or.inl ⟨rfl, rfl, (fun _ _ _ => rfl)⟩)) : mo_Sim 187 12 (ma_ret 1)) (mt_none))))
set_option maxRecDepth 100000 in
theorem smt187_1 (k : Nat) : ∀ f, mt187_1 k = some f → mo_Sim 187 k f := mt_node (smt187_2 k) (smt187_3 k)
set_option maxRecDepth 100000 in
theorem smt187_5 (k : Nat) : ∀ f, mt187_5 k = some f → mo_Sim 187 k f := mt_leaf (ms_ald (e := (.aload_n 0, 14, 0, 0, 0)) rfl (fun _ _ _ => rfl) : mo_Sim 187 13 (ma_lda 0 14)) (mt_leaf (ms_ild (e := (.iload_n 1, 15, 0, 0, 0)) rfl (fun _ _ _ => rfl) : mo_Sim 187 14 (ma_load 0 1 15)) (mt_leaf (ms_putf (e := (.putfield 36, 18, 12, 10, 1062)) rfl rfl (fun _ _ _ => rfl) (Or.inl ⟨rfl, rfl⟩) : mo_Sim 187 15 (ma_putf 12 10 0 18)) (mt_leaf (ms_ald (e := (.aload_n 0, 19, 0, 0, 0)) rfl (fun _ _ _ => rfl) : mo_Sim 187 18 (ma_lda 0 19)) (mt_none))))
set_option maxRecDepth 100000 in
theorem smt187_6 (k : Nat) : ∀ f, mt187_6 k = some f → mo_Sim 187 k f := mt_leaf (ms_pushi (e := (.iconst 0, 20, 0, 0, 0)) rfl (fun _ _ _ => rfl) (by decide) : mo_Sim 187 19 (ma_push (ma_ci (.ofNat 0)) 20)) (mt_leaf (ms_putf (e := (.putfield 78, 23, 12, 11, 1063)) rfl rfl (fun _ _ _ => rfl) (Or.inl ⟨rfl, rfl⟩) : mo_Sim 187 20 (ma_putf 12 11 0 23)) (mt_leaf (ms_pushi (e := (.iconst 1, 24, 0, 0, 0)) rfl (fun _ _ _ => rfl) (by decide) : mo_Sim 187 23 (ma_push (ma_ci (.ofNat 1)) 24)) (mt_leaf (ms_ret (e := (.ireturn, 25, 0, 0, 0)) rfl (Or.inr (Or.inl ⟨rfl, rfl, (fun _ _ _ => rfl)⟩)) : mo_Sim 187 24 (ma_ret 1)) (mt_none))))
set_option maxRecDepth 100000 in
theorem smt187_4 (k : Nat) : ∀ f, mt187_4 k = some f → mo_Sim 187 k f := mt_node (smt187_5 k) (smt187_6 k)
set_option maxRecDepth 100000 in
theorem smt187_0 (k : Nat) : ∀ f, mt187_0 k = some f → mo_Sim 187 k f := mt_node (smt187_1 k) (smt187_4 k)
set_option maxRecDepth 100000 in
theorem smt188_2 (k : Nat) : ∀ f, mt188_2 k = some f → mo_Sim 188 k f := mt_leaf (ms_ild (e := (.iload_n 1, 1, 0, 0, 0)) rfl (fun _ _ _ => rfl) : mo_Sim 188 0 (ma_load 0 1 1)) (mt_leaf (ms_if0 (e := (.ifCond .lt 15, 4, 16, 0, 0)) rfl (fun _ _ _ => rfl) : mo_Sim 188 1 (ma_if0 .lt 16 1 4)) (mt_none))
set_option maxRecDepth 100000 in
theorem smt188_3 (k : Nat) : ∀ f, mt188_3 k = some f → mo_Sim 188 k f := mt_leaf (ms_ild (e := (.iload_n 1, 5, 0, 0, 0)) rfl (fun _ _ _ => rfl) : mo_Sim 188 4 (ma_load 0 1 5)) (mt_leaf (ms_ald (e := (.aload_n 0, 6, 0, 0, 0)) rfl (fun _ _ _ => rfl) : mo_Sim 188 5 (ma_lda 0 6)) (mt_leaf (ms_getf (e := (.getfield 36, 9, 12, 10, 1062)) rfl (fun _ _ _ => rfl) : mo_Sim 188 6 (ma_getf 12 10 9)) (mt_none)))
set_option maxRecDepth 100000 in
theorem smt188_1 (k : Nat) : ∀ f, mt188_1 k = some f → mo_Sim 188 k f := mt_node (smt188_2 k) (smt188_3 k)
set_option maxRecDepth 100000 in
theorem smt188_5 (k : Nat) : ∀ f, mt188_5 k = some f → mo_Sim 188 k f := mt_leaf (ms_if2 (e := (.if_icmp .ge 7, 12, 16, 0, 0)) rfl (fun _ _ _ => rfl) : mo_Sim 188 9 (ma_if2 .ge 16 9 12)) (mt_leaf (ms_pushi (e := (.iconst 1, 13, 0, 0, 0)) rfl (fun _ _ _ => rfl) (by decide) : mo_Sim 188 12 (ma_push (ma_ci (.ofNat 1)) 13)) (mt_none))
set_option maxRecDepth 100000 in
theorem smt188_6 (k : Nat) : ∀ f, mt188_6 k = some f → mo_Sim 188 k f := mt_leaf (ms_goto (e := (.goto 4, 16, 17, 0, 0)) rfl (fun _ _ _ => rfl) : mo_Sim 188 13 (ma_goto 17)) (mt_leaf (ms_pushi (e := (.iconst 0, 17, 0, 0, 0)) rfl (fun _ _ _ => rfl) (by decide) : mo_Sim 188 16 (ma_push (ma_ci (.ofNat 0)) 17)) (mt_leaf (ms_ret (e := (.ireturn, 18, 0, 0, 0)) rfl (Or.inr (Or.inl ⟨rfl, rfl, (fun _ _ _ => rfl)⟩)) : mo_Sim 188 17 (ma_ret 1)) (mt_none)))
set_option maxRecDepth 100000 in
theorem smt188_4 (k : Nat) : ∀ f, mt188_4 k = some f → mo_Sim 188 k f := mt_node (smt188_5 k) (smt188_6 k)
set_option maxRecDepth 100000 in
theorem smt188_0 (k : Nat) : ∀ f, mt188_0 k = some f → mo_Sim 188 k f := mt_node (smt188_1 k) (smt188_4 k)
set_option maxRecDepth 100000 in
theorem smt189_5 (k : Nat) : ∀ f, mt189_5 k = some f → mo_Sim 189 k f := mt_leaf (ms_ild (e := (.iload_n 1, 1, 0, 0, 0)) rfl (fun _ _ _ => rfl) : mo_Sim 189 0 (ma_load 0 1 1)) (mt_leaf (ms_if0 (e := (.ifCond .lt 56, 4, 57, 0, 0)) rfl (fun _ _ _ => rfl) : mo_Sim 189 1 (ma_if0 .lt 57 1 4)) (mt_none))
set_option maxRecDepth 100000 in
theorem smt189_6 (k : Nat) : ∀ f, mt189_6 k = some f → mo_Sim 189 k f := mt_leaf (ms_ild (e := (.iload_n 1, 5, 0, 0, 0)) rfl (fun _ _ _ => rfl) : mo_Sim 189 4 (ma_load 0 1 5)) (mt_leaf (ms_ald (e := (.aload_n 0, 6, 0, 0, 0)) rfl (fun _ _ _ => rfl) : mo_Sim 189 5 (ma_lda 0 6)) (mt_leaf (ms_getf (e := (.getfield 75, 9, 12, 7, 1059)) rfl (fun _ _ _ => rfl) : mo_Sim 189 6 (ma_getf 12 7 9)) (mt_none)))
set_option maxRecDepth 100000 in
theorem smt189_4 (k : Nat) : ∀ f, mt189_4 k = some f → mo_Sim 189 k f := mt_node (smt189_5 k) (smt189_6 k)
set_option maxRecDepth 100000 in
theorem smt189_8 (k : Nat) : ∀ f, mt189_8 k = some f → mo_Sim 189 k f := mt_leaf (ms_if2 (e := (.if_icmp .ge 48, 12, 57, 0, 0)) rfl (fun _ _ _ => rfl) : mo_Sim 189 9 (ma_if2 .ge 57 9 12)) (mt_leaf (ms_ald (e := (.aload_n 0, 13, 0, 0, 0)) rfl (fun _ _ _ => rfl) : mo_Sim 189 12 (ma_lda 0 13)) (mt_none))
set_option maxRecDepth 100000 in
theorem smt189_9 (k : Nat) : ∀ f, mt189_9 k = some f → mo_Sim 189 k f := mt_leaf (ms_ild (e := (.iload_n 2, 14, 0, 0, 0)) rfl (fun _ _ _ => rfl) : mo_Sim 189 13 (ma_load 0 2 14)) (mt_leaf (ms_invV (p := 1) (e := (.invokevirtual 191, 17, 188, 0, 1327)) rfl rfl (fun _ _ _ => rfl) rfl rfl rfl (by decide) : mo_Sim 189 14 (ma_inv 188 2 2 12 17)) (mt_leaf (ms_if0 (e := (.ifCond .eq 40, 20, 57, 0, 0)) rfl (fun _ _ _ => rfl) : mo_Sim 189 17 (ma_if0 .eq 57 17 20)) (mt_none)))
set_option maxRecDepth 100000 in
theorem smt189_7 (k : Nat) : ∀ f, mt189_7 k = some f → mo_Sim 189 k f := mt_node (smt189_8 k) (smt189_9 k)
set_option maxRecDepth 100000 in
theorem smt189_3 (k : Nat) : ∀ f, mt189_3 k = some f → mo_Sim 189 k f := mt_node (smt189_4 k) (smt189_7 k)
set_option maxRecDepth 100000 in
theorem smt189_12 (k : Nat) : ∀ f, mt189_12 k = some f → mo_Sim 189 k f := mt_leaf (ms_ald (e := (.aload_n 0, 21, 0, 0, 0)) rfl (fun _ _ _ => rfl) : mo_Sim 189 20 (ma_lda 0 21)) (mt_leaf (ms_getf (e := (.getfield 30, 24, 12, 8, 1060)) rfl (fun _ _ _ => rfl) : mo_Sim 189 21 (ma_getf 12 8 24)) (mt_none))
set_option maxRecDepth 100000 in
theorem smt189_13 (k : Nat) : ∀ f, mt189_13 k = some f → mo_Sim 189 k f := mt_leaf (ms_ild (e := (.iload_n 1, 25, 0, 0, 0)) rfl (fun _ _ _ => rfl) : mo_Sim 189 24 (ma_load 0 1 25)) (mt_leaf (ms_iald (e := (.iaload, 26, 0, 0, 0)) rfl (fun _ _ _ => rfl) : mo_Sim 189 25 (ma_iald 25 26)) (mt_leaf (ms_pushi (e := (.iconst 1, 27, 0, 0, 0)) rfl (fun _ _ _ => rfl) (by decide) : mo_Sim 189 26 (ma_push (ma_ci (.ofNat 1)) 27)) (mt_none)))
set_option maxRecDepth 100000 in
theorem smt189_11 (k : Nat) : ∀ f, mt189_11 k = some f → mo_Sim 189 k f := mt_node (smt189_12 k) (smt189_13 k)
set_option maxRecDepth 100000 in
theorem smt189_15 (k : Nat) : ∀ f, mt189_15 k = some f → mo_Sim 189 k f := mt_leaf (ms_if2 (e := (.if_icmp .le 11, 30, 38, 0, 0)) rfl (fun _ _ _ => rfl) : mo_Sim 189 27 (ma_if2 .le 38 27 30)) (mt_leaf (ms_ald (e := (.aload_n 0, 31, 0, 0, 0)) rfl (fun _ _ _ => rfl) : mo_Sim 189 30 (ma_lda 0 31)) (mt_none))
set_option maxRecDepth 100000 in
theorem smt189_16 (k : Nat) : ∀ f, mt189_16 k = some f → mo_Sim 189 k f := mt_leaf (ms_ild (e := (.iload_n 3, 32, 0, 0, 0)) rfl (fun _ _ _ => rfl) : mo_Sim 189 31 (ma_load 0 3 32)) (mt_leaf (ms_invV (p := 1) (e := (.invokevirtual 191, 35, 188, 0, 1327)) rfl rfl (fun _ _ _ => rfl) rfl rfl rfl (by decide) : mo_Sim 189 32 (ma_inv 188 2 2 12 35)) (mt_leaf (ms_if0 (e := (.ifCond .eq 22, 38, 57, 0, 0)) rfl (fun _ _ _ => rfl) : mo_Sim 189 35 (ma_if0 .eq 57 35 38)) (mt_none)))
set_option maxRecDepth 100000 in
theorem smt189_14 (k : Nat) : ∀ f, mt189_14 k = some f → mo_Sim 189 k f := mt_node (smt189_15 k) (smt189_16 k)
set_option maxRecDepth 100000 in
theorem smt189_10 (k : Nat) : ∀ f, mt189_10 k = some f → mo_Sim 189 k f := mt_node (smt189_11 k) (smt189_14 k)
set_option maxRecDepth 100000 in
theorem smt189_2 (k : Nat) : ∀ f, mt189_2 k = some f → mo_Sim 189 k f := mt_node (smt189_3 k) (smt189_10 k)
set_option maxRecDepth 100000 in
theorem smt189_20 (k : Nat) : ∀ f, mt189_20 k = some f → mo_Sim 189 k f := mt_leaf (ms_ald (e := (.aload_n 0, 39, 0, 0, 0)) rfl (fun _ _ _ => rfl) : mo_Sim 189 38 (ma_lda 0 39)) (mt_leaf (ms_getf (e := (.getfield 30, 42, 12, 8, 1060)) rfl (fun _ _ _ => rfl) : mo_Sim 189 39 (ma_getf 12 8 42)) (mt_none))
set_option maxRecDepth 100000 in
theorem smt189_21 (k : Nat) : ∀ f, mt189_21 k = some f → mo_Sim 189 k f := mt_leaf (ms_ild (e := (.iload_n 1, 43, 0, 0, 0)) rfl (fun _ _ _ => rfl) : mo_Sim 189 42 (ma_load 0 1 43)) (mt_leaf (ms_iald (e := (.iaload, 44, 0, 0, 0)) rfl (fun _ _ _ => rfl) : mo_Sim 189 43 (ma_iald 43 44)) (mt_leaf (ms_pushi (e := (.iconst 2, 45, 0, 0, 0)) rfl (fun _ _ _ => rfl) (by decide) : mo_Sim 189 44 (ma_push (ma_ci (.ofNat 2)) 45)) (mt_none)))
set_option maxRecDepth 100000 in
theorem smt189_19 (k : Nat) : ∀ f, mt189_19 k = some f → mo_Sim 189 k f := mt_node (smt189_20 k) (smt189_21 k)
set_option maxRecDepth 100000 in
theorem smt189_23 (k : Nat) : ∀ f, mt189_23 k = some f → mo_Sim 189 k f := mt_leaf (ms_if2 (e := (.if_icmp .le 15, 48, 60, 0, 0)) rfl (fun _ _ _ => rfl) : mo_Sim 189 45 (ma_if2 .le 60 45 48)) (mt_leaf (ms_ald (e := (.aload_n 0, 49, 0, 0, 0)) rfl (fun _ _ _ => rfl) : mo_Sim 189 48 (ma_lda 0 49)) (mt_none))
set_option maxRecDepth 100000 in
theorem smt189_24 (k : Nat) : ∀ f, mt189_24 k = some f → mo_Sim 189 k f := mt_leaf (ms_ild (e := (.iload 4, 51, 0, 0, 0)) rfl (fun _ _ _ => rfl) : mo_Sim 189 49 (ma_load 0 4 51)) (mt_leaf (ms_invV (p := 1) (e := (.invokevirtual 191, 54, 188, 0, 1327)) rfl rfl (fun _ _ _ => rfl) rfl rfl rfl (by decide) : mo_Sim 189 51 (ma_inv 188 2 2 12 54)) (mt_leaf (ms_if0 (e := (.ifCond .ne 6, 57, 60, 0, 0)) rfl (fun _ _ _ => rfl) : mo_Sim 189 54 (ma_if0 .ne 60 54 57)) (mt_none)))
set_option maxRecDepth 100000 in
theorem smt189_22 (k : Nat) : ∀ f, mt189_22 k = some f → mo_Sim 189 k f := mt_node (smt189_23 k) (smt189_24 k)
set_option maxRecDepth 100000 in
theorem smt189_18 (k : Nat) : ∀ f, mt189_18 k = some f → mo_Sim 189 k f := mt_node (smt189_19 k) (smt189_22 k)
set_option maxRecDepth 100000 in
theorem smt189_27 (k : Nat) : ∀ f, mt189_27 k = some f → mo_Sim 189 k f := mt_leaf (ms_pushi (e := (.bipush (-2), 59, 0, 0, 0)) rfl (fun _ _ _ => rfl) (by decide) : mo_Sim 189 57 (ma_push (ma_ci (.negSucc 1)) 59)) (mt_leaf (ms_ret (e := (.ireturn, 60, 0, 0, 0)) rfl (Or.inl ⟨rfl, rfl, (fun _ _ _ => rfl)⟩) : mo_Sim 189 59 (ma_ret 0)) (mt_none))
set_option maxRecDepth 100000 in
theorem smt189_28 (k : Nat) : ∀ f, mt189_28 k = some f → mo_Sim 189 k f := mt_leaf (ms_ald (e := (.aload_n 0, 61, 0, 0, 0)) rfl (fun _ _ _ => rfl) : mo_Sim 189 60 (ma_lda 0 61)) (mt_leaf (ms_getf (e := (.getfield 78, 64, 12, 11, 1063)) rfl (fun _ _ _ => rfl) : mo_Sim 189 61 (ma_getf 12 11 64)) (mt_leaf (ms_pushi (e := (.bipush 30, 66, 0, 0, 0)) rfl (fun _ _ _ => rfl) (by decide) : mo_Sim 189 64 (ma_push (ma_ci (.ofNat 30)) 66)) (mt_none)))
set_option maxRecDepth 100000 in
theorem smt189_26 (k : Nat) : ∀ f, mt189_26 k = some f → mo_Sim 189 k f := mt_node (smt189_27 k) (smt189_28 k)
set_option maxRecDepth 100000 in
theorem smt189_30 (k : Nat) : ∀ f, mt189_30 k = some f → mo_Sim 189 k f := mt_leaf (ms_if2 (e := (.if_icmp .ne 6, 69, 72, 0, 0)) rfl (fun _ _ _ => rfl) : mo_Sim 189 66 (ma_if2 .ne 72 66 69)) (mt_leaf (ms_pushi (e := (.bipush (-8), 71, 0, 0, 0)) rfl (fun _ _ _ => rfl) (by decide) : mo_Sim 189 69 (ma_push (ma_ci (.negSucc 7)) 71)) (mt_leaf (ms_ret (e := (.ireturn, 72, 0, 0, 0)) rfl (Or.inl ⟨rfl, rfl, (fun _ _ _ => rfl)⟩) : mo_Sim 189 71 (ma_ret 0)) (mt_none)))
set_option maxRecDepth 100000 in
theorem smt189_31 (k : Nat) : ∀ f, mt189_31 k = some f → mo_Sim 189 k f := mt_leaf (ms_ald (e := (.aload_n 0, 73, 0, 0, 0)) rfl (fun _ _ _ => rfl) : mo_Sim 189 72 (ma_lda 0 73)) (mt_leaf (ms_getf (e := (.getfield 39, 76, 12, 12, 1064)) rfl (fun _ _ _ => rfl) : mo_Sim 189 73 (ma_getf 12 12 76)) (mt_leaf (ms_ald (e := (.aload_n 0, 77, 0, 0, 0)) rfl (fun _ _ _ => rfl) : mo_Sim 189 76 (ma_lda 0 77)) (mt_none)))
set_option maxRecDepth 100000 in
theorem smt189_29 (k : Nat) : ∀ f, mt189_29 k = some f → mo_Sim 189 k f := mt_node (smt189_30 k) (smt189_31 k)
set_option maxRecDepth 100000 in
theorem smt189_25 (k : Nat) : ∀ f, mt189_25 k = some f → mo_Sim 189 k f := mt_node (smt189_26 k) (smt189_29 k)
set_option maxRecDepth 100000 in
theorem smt189_17 (k : Nat) : ∀ f, mt189_17 k = some f → mo_Sim 189 k f := mt_node (smt189_18 k) (smt189_25 k)
set_option maxRecDepth 100000 in
theorem smt189_1 (k : Nat) : ∀ f, mt189_1 k = some f → mo_Sim 189 k f := mt_node (smt189_2 k) (smt189_17 k)
set_option maxRecDepth 100000 in
theorem smt189_36 (k : Nat) : ∀ f, mt189_36 k = some f → mo_Sim 189 k f := mt_leaf (ms_getf (e := (.getfield 78, 80, 12, 11, 1063)) rfl (fun _ _ _ => rfl) : mo_Sim 189 77 (ma_getf 12 11 80)) (mt_leaf (ms_ild (e := (.iload_n 1, 81, 0, 0, 0)) rfl (fun _ _ _ => rfl) : mo_Sim 189 80 (ma_load 0 1 81)) (mt_none))
set_option maxRecDepth 100000 in
theorem smt189_37 (k : Nat) : ∀ f, mt189_37 k = some f → mo_Sim 189 k f := mt_leaf (ms_iast (e := (.iastore, 82, 0, 0, 0)) rfl rfl (fun _ _ _ => rfl) : mo_Sim 189 81 (ma_ast 13 0 81 82)) (mt_leaf (ms_ald (e := (.aload_n 0, 83, 0, 0, 0)) rfl (fun _ _ _ => rfl) : mo_Sim 189 82 (ma_lda 0 83)) (mt_leaf (ms_getf (e := (.getfield 42, 86, 12, 13, 1065)) rfl (fun _ _ _ => rfl) : mo_Sim 189 83 (ma_getf 12 13 86)) (mt_none)))
set_option maxRecDepth 100000 in
theorem smt189_35 (k : Nat) : ∀ f, mt189_35 k = some f → mo_Sim 189 k f := mt_node (smt189_36 k) (smt189_37 k)
set_option maxRecDepth 100000 in
theorem smt189_39 (k : Nat) : ∀ f, mt189_39 k = some f → mo_Sim 189 k f := mt_leaf (ms_pushi (e := (.iconst 3, 87, 0, 0, 0)) rfl (fun _ _ _ => rfl) (by decide) : mo_Sim 189 86 (ma_push (ma_ci (.ofNat 3)) 87)) (mt_leaf (ms_ald (e := (.aload_n 0, 88, 0, 0, 0)) rfl (fun _ _ _ => rfl) : mo_Sim 189 87 (ma_lda 0 88)) (mt_none))
set_option maxRecDepth 100000 in
theorem smt189_40 (k : Nat) : ∀ f, mt189_40 k = some f → mo_Sim 189 k f := mt_leaf (ms_getf (e := (.getfield 78, 91, 12, 11, 1063)) rfl (fun _ _ _ => rfl) : mo_Sim 189 88 (ma_getf 12 11 91)) (mt_leaf (ms_i2 (e := (.imul, 92, 0, 0, 0)) rfl (fun _ _ _ => rfl) hf_mul : mo_Sim 189 91 (ma_i2 ma_fmul 91 92)) (mt_leaf (ms_ild (e := (.iload_n 2, 93, 0, 0, 0)) rfl (fun _ _ _ => rfl) : mo_Sim 189 92 (ma_load 0 2 93)) (mt_none)))
set_option maxRecDepth 100000 in
theorem smt189_38 (k : Nat) : ∀ f, mt189_38 k = some f → mo_Sim 189 k f := mt_node (smt189_39 k) (smt189_40 k)
set_option maxRecDepth 100000 in
theorem smt189_34 (k : Nat) : ∀ f, mt189_34 k = some f → mo_Sim 189 k f := mt_node (smt189_35 k) (smt189_38 k)
set_option maxRecDepth 100000 in
theorem smt189_43 (k : Nat) : ∀ f, mt189_43 k = some f → mo_Sim 189 k f := mt_leaf (ms_iast (e := (.iastore, 94, 0, 0, 0)) rfl rfl (fun _ _ _ => rfl) : mo_Sim 189 93 (ma_ast 13 0 93 94)) (mt_leaf (ms_ald (e := (.aload_n 0, 95, 0, 0, 0)) rfl (fun _ _ _ => rfl) : mo_Sim 189 94 (ma_lda 0 95)) (mt_none))
set_option maxRecDepth 100000 in
theorem smt189_44 (k : Nat) : ∀ f, mt189_44 k = some f → mo_Sim 189 k f := mt_leaf (ms_getf (e := (.getfield 42, 98, 12, 13, 1065)) rfl (fun _ _ _ => rfl) : mo_Sim 189 95 (ma_getf 12 13 98)) (mt_leaf (ms_pushi (e := (.iconst 3, 99, 0, 0, 0)) rfl (fun _ _ _ => rfl) (by decide) : mo_Sim 189 98 (ma_push (ma_ci (.ofNat 3)) 99)) (mt_leaf (ms_ald (e := (.aload_n 0, 100, 0, 0, 0)) rfl (fun _ _ _ => rfl) : mo_Sim 189 99 (ma_lda 0 100)) (mt_none)))
set_option maxRecDepth 100000 in
theorem smt189_42 (k : Nat) : ∀ f, mt189_42 k = some f → mo_Sim 189 k f := mt_node (smt189_43 k) (smt189_44 k)
set_option maxRecDepth 100000 in
theorem smt189_46 (k : Nat) : ∀ f, mt189_46 k = some f → mo_Sim 189 k f := mt_leaf (ms_getf (e := (.getfield 78, 103, 12, 11, 1063)) rfl (fun _ _ _ => rfl) : mo_Sim 189 100 (ma_getf 12 11 103)) (mt_leaf (ms_i2 (e := (.imul, 104, 0, 0, 0)) rfl (fun _ _ _ => rfl) hf_mul : mo_Sim 189 103 (ma_i2 ma_fmul 103 104)) (mt_leaf (ms_pushi (e := (.iconst 1, 105, 0, 0, 0)) rfl (fun _ _ _ => rfl) (by decide) : mo_Sim 189 104 (ma_push (ma_ci (.ofNat 1)) 105)) (mt_none)))
set_option maxRecDepth 100000 in
theorem smt189_47 (k : Nat) : ∀ f, mt189_47 k = some f → mo_Sim 189 k f := mt_leaf (ms_iadd (e := (.iadd, 106, 0, 0, 0)) rfl (fun _ _ _ => rfl) : mo_Sim 189 105 (ma_iadd 105 106)) (mt_leaf (ms_ild (e := (.iload_n 3, 107, 0, 0, 0)) rfl (fun _ _ _ => rfl) : mo_Sim 189 106 (ma_load 0 3 107)) (mt_leaf (ms_iast (e := (.iastore, 108, 0, 0, 0)) rfl rfl (fun _ _ _ => rfl) : mo_Sim 189 107 (ma_ast 13 0 107 108)) (mt_none)))
set_option maxRecDepth 100000 in
theorem smt189_45 (k : Nat) : ∀ f, mt189_45 k = some f → mo_Sim 189 k f := mt_node (smt189_46 k) (smt189_47 k)
set_option maxRecDepth 100000 in
theorem smt189_41 (k : Nat) : ∀ f, mt189_41 k = some f → mo_Sim 189 k f := mt_node (smt189_42 k) (smt189_45 k)
set_option maxRecDepth 100000 in
theorem smt189_33 (k : Nat) : ∀ f, mt189_33 k = some f → mo_Sim 189 k f := mt_node (smt189_34 k) (smt189_41 k)
set_option maxRecDepth 100000 in
theorem smt189_51 (k : Nat) : ∀ f, mt189_51 k = some f → mo_Sim 189 k f := mt_leaf (ms_ald (e := (.aload_n 0, 109, 0, 0, 0)) rfl (fun _ _ _ => rfl) : mo_Sim 189 108 (ma_lda 0 109)) (mt_leaf (ms_getf (e := (.getfield 42, 112, 12, 13, 1065)) rfl (fun _ _ _ => rfl) : mo_Sim 189 109 (ma_getf 12 13 112)) (mt_none))
set_option maxRecDepth 100000 in
theorem smt189_52 (k : Nat) : ∀ f, mt189_52 k = some f → mo_Sim 189 k f := mt_leaf (ms_pushi (e := (.iconst 3, 113, 0, 0, 0)) rfl (fun _ _ _ => rfl) (by decide) : mo_Sim 189 112 (ma_push (ma_ci (.ofNat 3)) 113)) (mt_leaf (ms_ald (e := (.aload_n 0, 114, 0, 0, 0)) rfl (fun _ _ _ => rfl) : mo_Sim 189 113 (ma_lda 0 114)) (mt_leaf (ms_getf (e := (.getfield 78, 117, 12, 11, 1063)) rfl (fun _ _ _ => rfl) : mo_Sim 189 114 (ma_getf 12 11 117)) (mt_none)))
set_option maxRecDepth 100000 in
theorem smt189_50 (k : Nat) : ∀ f, mt189_50 k = some f → mo_Sim 189 k f := mt_node (smt189_51 k) (smt189_52 k)
set_option maxRecDepth 100000 in
theorem smt189_54 (k : Nat) : ∀ f, mt189_54 k = some f → mo_Sim 189 k f := mt_leaf (ms_i2 (e := (.imul, 118, 0, 0, 0)) rfl (fun _ _ _ => rfl) hf_mul : mo_Sim 189 117 (ma_i2 ma_fmul 117 118)) (mt_leaf (ms_pushi (e := (.iconst 2, 119, 0, 0, 0)) rfl (fun _ _ _ => rfl) (by decide) : mo_Sim 189 118 (ma_push (ma_ci (.ofNat 2)) 119)) (mt_none))
set_option maxRecDepth 100000 in
theorem smt189_55 (k : Nat) : ∀ f, mt189_55 k = some f → mo_Sim 189 k f := mt_leaf (ms_iadd (e := (.iadd, 120, 0, 0, 0)) rfl (fun _ _ _ => rfl) : mo_Sim 189 119 (ma_iadd 119 120)) (mt_leaf (ms_ild (e := (.iload 4, 122, 0, 0, 0)) rfl (fun _ _ _ => rfl) : mo_Sim 189 120 (ma_load 0 4 122)) (mt_leaf (ms_iast (e := (.iastore, 123, 0, 0, 0)) rfl rfl (fun _ _ _ => rfl) : mo_Sim 189 122 (ma_ast 13 0 122 123)) (mt_none)))
set_option maxRecDepth 100000 in
theorem smt189_53 (k : Nat) : ∀ f, mt189_53 k = some f → mo_Sim 189 k f := mt_node (smt189_54 k) (smt189_55 k)
set_option maxRecDepth 100000 in
theorem smt189_49 (k : Nat) : ∀ f, mt189_49 k = some f → mo_Sim 189 k f := mt_node (smt189_50 k) (smt189_53 k)
set_option maxRecDepth 100000 in
theorem smt189_58 (k : Nat) : ∀ f, mt189_58 k = some f → mo_Sim 189 k f := mt_leaf (ms_ald (e := (.aload_n 0, 124, 0, 0, 0)) rfl (fun _ _ _ => rfl) : mo_Sim 189 123 (ma_lda 0 124)) (mt_leaf (ms_dup (e := (.dup, 125, 0, 0, 0)) rfl (fun _ _ _ => rfl) : mo_Sim 189 124 (ma_dup 125)) (mt_none))
set_option maxRecDepth 100000 in
theorem smt189_59 (k : Nat) : ∀ f, mt189_59 k = some f → mo_Sim 189 k f := mt_leaf (ms_getf (e := (.getfield 78, 128, 12, 11, 1063)) rfl (fun _ _ _ => rfl) : mo_Sim 189 125 (ma_getf 12 11 128)) (mt_leaf (ms_pushi (e := (.iconst 1, 129, 0, 0, 0)) rfl (fun _ _ _ => rfl) (by decide) : mo_Sim 189 128 (ma_push (ma_ci (.ofNat 1)) 129)) (mt_leaf (ms_iadd (e := (.iadd, 130, 0, 0, 0)) rfl (fun _ _ _ => rfl) : mo_Sim 189 129 (ma_iadd 129 130)) (mt_none)))
set_option maxRecDepth 100000 in
theorem smt189_57 (k : Nat) : ∀ f, mt189_57 k = some f → mo_Sim 189 k f := mt_node (smt189_58 k) (smt189_59 k)
set_option maxRecDepth 100000 in
theorem smt189_61 (k : Nat) : ∀ f, mt189_61 k = some f → mo_Sim 189 k f := mt_leaf (ms_putf (e := (.putfield 78, 133, 12, 11, 1063)) rfl rfl (fun _ _ _ => rfl) (Or.inl ⟨rfl, rfl⟩) : mo_Sim 189 130 (ma_putf 12 11 0 133)) (mt_leaf (ms_ald (e := (.aload_n 0, 134, 0, 0, 0)) rfl (fun _ _ _ => rfl) : mo_Sim 189 133 (ma_lda 0 134)) (mt_leaf (ms_getf (e := (.getfield 78, 137, 12, 11, 1063)) rfl (fun _ _ _ => rfl) : mo_Sim 189 134 (ma_getf 12 11 137)) (mt_none)))
set_option maxRecDepth 100000 in
theorem smt189_62 (k : Nat) : ∀ f, mt189_62 k = some f → mo_Sim 189 k f := mt_leaf (ms_pushi (e := (.iconst 1, 138, 0, 0, 0)) rfl (fun _ _ _ => rfl) (by decide) : mo_Sim 189 137 (ma_push (ma_ci (.ofNat 1)) 138)) (mt_leaf (ms_isub (e := (.isub, 139, 0, 0, 0)) rfl (fun _ _ _ => rfl) : mo_Sim 189 138 (ma_isub 138 139)) (mt_leaf (ms_ret (e := (.ireturn, 140, 0, 0, 0)) rfl (Or.inl ⟨rfl, rfl, (fun _ _ _ => rfl)⟩) : mo_Sim 189 139 (ma_ret 0)) (mt_none)))
set_option maxRecDepth 100000 in
theorem smt189_60 (k : Nat) : ∀ f, mt189_60 k = some f → mo_Sim 189 k f := mt_node (smt189_61 k) (smt189_62 k)
set_option maxRecDepth 100000 in
theorem smt189_56 (k : Nat) : ∀ f, mt189_56 k = some f → mo_Sim 189 k f := mt_node (smt189_57 k) (smt189_60 k)
set_option maxRecDepth 100000 in
theorem smt189_48 (k : Nat) : ∀ f, mt189_48 k = some f → mo_Sim 189 k f := mt_node (smt189_49 k) (smt189_56 k)
set_option maxRecDepth 100000 in
theorem smt189_32 (k : Nat) : ∀ f, mt189_32 k = some f → mo_Sim 189 k f := mt_node (smt189_33 k) (smt189_48 k)
set_option maxRecDepth 100000 in
theorem smt189_0 (k : Nat) : ∀ f, mt189_0 k = some f → mo_Sim 189 k f := mt_node (smt189_1 k) (smt189_32 k)
set_option maxRecDepth 100000 in
theorem smt190_4 (k : Nat) : ∀ f, mt190_4 k = some f → mo_Sim 190 k f := mt_leaf (ms_ald (e := (.aload_n 0, 1, 0, 0, 0)) rfl (fun _ _ _ => rfl) : mo_Sim 190 0 (ma_lda 0 1)) (mt_leaf (ms_getf (e := (.getfield 30, 4, 12, 8, 1060)) rfl (fun _ _ _ => rfl) : mo_Sim 190 1 (ma_getf 12 8 4)) (mt_leaf (ms_ald (e := (.aload_n 0, 5, 0, 0, 0)) rfl (fun _ _ _ => rfl) : mo_Sim 190 4 (ma_lda 0 5)) (mt_leaf (ms_getf (e := (.getfield 39, 8, 12, 12, 1064)) rfl (fun _ _ _ => rfl) : mo_Sim 190 5 (ma_getf 12 12 8)) (mt_none))))
set_option maxRecDepth 100000 in
theorem smt190_5 (k : Nat) : ∀ f, mt190_5 k = some f → mo_Sim 190 k f := mt_leaf (ms_ild (e := (.iload_n 1, 9, 0, 0, 0)) rfl (fun _ _ _ => rfl) : mo_Sim 190 8 (ma_load 0 1 9)) (mt_leaf (ms_iald (e := (.iaload, 10, 0, 0, 0)) rfl (fun _ _ _ => rfl) : mo_Sim 190 9 (ma_iald 9 10)) (mt_leaf (ms_iald (e := (.iaload, 11, 0, 0, 0)) rfl (fun _ _ _ => rfl) : mo_Sim 190 10 (ma_iald 10 11)) (mt_leaf (ms_ist (e := (.istore_n 3, 12, 0, 0, 0)) rfl (fun _ _ _ => rfl) : mo_Sim 190 11 (ma_stor 0 3 12)) (mt_none))))
set_option maxRecDepth 100000 in
theorem smt190_3 (k : Nat) : ∀ f, mt190_3 k = some f → mo_Sim 190 k f := mt_node (smt190_4 k) (smt190_5 k)
set_option maxRecDepth 100000 in
theorem smt190_7 (k : Nat) : ∀ f, mt190_7 k = some f → mo_Sim 190 k f := mt_leaf (ms_pushi (e := (.iconst 0, 13, 0, 0, 0)) rfl (fun _ _ _ => rfl) (by decide) : mo_Sim 190 12 (ma_push (ma_ci (.ofNat 0)) 13)) (mt_leaf (ms_ist (e := (.istore 4, 15, 0, 0, 0)) rfl (fun _ _ _ => rfl) : mo_Sim 190 13 (ma_stor 0 4 15)) (mt_leaf (ms_ild (e := (.iload 4, 17, 0, 0, 0)) rfl (fun _ _ _ => rfl) : mo_Sim 190 15 (ma_load 0 4 17)) (mt_leaf (ms_ild (e := (.iload_n 3, 18, 0, 0, 0)) rfl (fun _ _ _ => rfl) : mo_Sim 190 17 (ma_load 0 3 18)) (mt_none))))
set_option maxRecDepth 100000 in
theorem smt190_9 (k : Nat) : ∀ f, mt190_9 k = some f → mo_Sim 190 k f := mt_leaf (ms_if2 (e := (.if_icmp .ge 96, 21, 114, 0, 0)) rfl (fun _ _ _ => rfl) : mo_Sim 190 18 (ma_if2 .ge 114 18 21)) (mt_leaf (ms_ald (e := (.aload_n 0, 22, 0, 0, 0)) rfl (fun _ _ _ => rfl) : mo_Sim 190 21 (ma_lda 0 22)) (mt_none))
set_option maxRecDepth 100000 in
theorem smt190_10 (k : Nat) : ∀ f, mt190_10 k = some f → mo_Sim 190 k f := mt_leaf (ms_getf (e := (.getfield 42, 25, 12, 13, 1065)) rfl (fun _ _ _ => rfl) : mo_Sim 190 22 (ma_getf 12 13 25)) (mt_leaf (ms_pushi (e := (.iconst 3, 26, 0, 0, 0)) rfl (fun _ _ _ => rfl) (by decide) : mo_Sim 190 25 (ma_push (ma_ci (.ofNat 3)) 26)) (mt_leaf (ms_ild (e := (.iload_n 1, 27, 0, 0, 0)) rfl (fun _ _ _ => rfl) : mo_Sim 190 26 (ma_load 0 1 27)) (mt_none)))
set_option maxRecDepth 100000 in
theorem smt190_8 (k : Nat) : ∀ f, mt190_8 k = some f → mo_Sim 190 k f := mt_node (smt190_9 k) (smt190_10 k)
set_option maxRecDepth 100000 in
theorem smt190_6 (k : Nat) : ∀ f, mt190_6 k = some f → mo_Sim 190 k f := mt_node (smt190_7 k) (smt190_8 k)
set_option maxRecDepth 100000 in
theorem smt190_2 (k : Nat) : ∀ f, mt190_2 k = some f → mo_Sim 190 k f := mt_node (smt190_3 k) (smt190_6 k)
set_option maxRecDepth 100000 in
theorem smt190_13 (k : Nat) : ∀ f, mt190_13 k = some f → mo_Sim 190 k f := mt_leaf (ms_i2 (e := (.imul, 28, 0, 0, 0)) rfl (fun _ _ _ => rfl) hf_mul : mo_Sim 190 27 (ma_i2 ma_fmul 27 28)) (mt_leaf (ms_ild (e := (.iload 4, 30, 0, 0, 0)) rfl (fun _ _ _ => rfl) : mo_Sim 190 28 (ma_load 0 4 30)) (mt_leaf (ms_iadd (e := (.iadd, 31, 0, 0, 0)) rfl (fun _ _ _ => rfl) : mo_Sim 190 30 (ma_iadd 30 31)) (mt_leaf (ms_iald (e := (.iaload, 32, 0, 0, 0)) rfl (fun _ _ _ => rfl) : mo_Sim 190 31 (ma_iald 31 32)) (mt_none))))
set_option maxRecDepth 100000 in
theorem smt190_14 (k : Nat) : ∀ f, mt190_14 k = some f → mo_Sim 190 k f := mt_leaf (ms_ist (e := (.istore 5, 34, 0, 0, 0)) rfl (fun _ _ _ => rfl) : mo_Sim 190 32 (ma_stor 0 5 34)) (mt_leaf (ms_ald (e := (.aload_n 0, 35, 0, 0, 0)) rfl (fun _ _ _ => rfl) : mo_Sim 190 34 (ma_lda 0 35)) (mt_leaf (ms_ild (e := (.iload_n 2, 36, 0, 0, 0)) rfl (fun _ _ _ => rfl) : mo_Sim 190 35 (ma_load 0 2 36)) (mt_leaf (ms_ild (e := (.iload_n 3, 37, 0, 0, 0)) rfl (fun _ _ _ => rfl) : mo_Sim 190 36 (ma_load 0 3 37)) (mt_none))))
set_option maxRecDepth 100000 in
theorem smt190_12 (k : Nat) : ∀ f, mt190_12 k = some f → mo_Sim 190 k f := mt_node (smt190_13 k) (smt190_14 k)
set_option maxRecDepth 100000 in
theorem smt190_16 (k : Nat) : ∀ f, mt190_16 k = some f → mo_Sim 190 k f := mt_leaf (ms_ild (e := (.iload 4, 39, 0, 0, 0)) rfl (fun _ _ _ => rfl) : mo_Sim 190 37 (ma_load 0 4 39)) (mt_leaf (ms_invV (p := 3) (e := (.invokevirtual 137, 42, 152, 0, 1224)) rfl rfl (fun _ _ _ => rfl) rfl rfl rfl (by decide) : mo_Sim 190 39 (ma_inv 152 4 4 12 42)) (mt_leaf (ms_ist (e := (.istore 6, 44, 0, 0, 0)) rfl (fun _ _ _ => rfl) : mo_Sim 190 42 (ma_stor 0 6 44)) (mt_leaf (ms_ald (e := (.aload_n 0, 45, 0, 0, 0)) rfl (fun _ _ _ => rfl) : mo_Sim 190 44 (ma_lda 0 45)) (mt_none))))
set_option maxRecDepth 100000 in
theorem smt190_18 (k : Nat) : ∀ f, mt190_18 k = some f → mo_Sim 190 k f := mt_leaf (ms_getf (e := (.getfield 69, 48, 12, 24, 1076)) rfl (fun _ _ _ => rfl) : mo_Sim 190 45 (ma_getf 12 24 48)) (mt_leaf (ms_ild (e := (.iload 5, 50, 0, 0, 0)) rfl (fun _ _ _ => rfl) : mo_Sim 190 48 (ma_load 0 5 50)) (mt_none))
set_option maxRecDepth 100000 in
theorem smt190_19 (k : Nat) : ∀ f, mt190_19 k = some f → mo_Sim 190 k f := mt_leaf (ms_iald (e := (.iaload, 51, 0, 0, 0)) rfl (fun _ _ _ => rfl) : mo_Sim 190 50 (ma_iald 50 51)) (mt_leaf (ms_ild (e := (.iload 6, 53, 0, 0, 0)) rfl (fun _ _ _ => rfl) : mo_Sim 190 51 (ma_load 0 6 53)) (mt_leaf (ms_i2 (e := (.ishr, 54, 0, 0, 0)) rfl (fun _ _ _ => rfl) hf_shr : mo_Sim 190 53 (ma_i2 ma_fshr 53 54)) (mt_none)))
set_option maxRecDepth 100000 in
theorem smt190_17 (k : Nat) : ∀ f, mt190_17 k = some f → mo_Sim 190 k f := mt_node (smt190_18 k) (smt190_19 k)
set_option maxRecDepth 100000 in
theorem smt190_15 (k : Nat) : ∀ f, mt190_15 k = some f → mo_Sim 190 k f := mt_node (smt190_16 k) (smt190_17 k)
set_option maxRecDepth 100000 in
theorem smt190_11 (k : Nat) : ∀ f, mt190_11 k = some f → mo_Sim 190 k f := mt_node (smt190_12 k) (smt190_15 k)
set_option maxRecDepth 100000 in
theorem smt190_1 (k : Nat) : ∀ f, mt190_1 k = some f → mo_Sim 190 k f := mt_node (smt190_2 k) (smt190_11 k)
set_option maxRecDepth 100000 in
theorem smt190_23 (k : Nat) : ∀ f, mt190_23 k = some f → mo_Sim 190 k f := mt_leaf (ms_pushi (e := (.iconst 1, 55, 0, 0, 0)) rfl (fun _ _ _ => rfl) (by decide) : mo_Sim 190 54 (ma_push (ma_ci (.ofNat 1)) 55)) (mt_leaf (ms_iand (e := (.iand, 56, 0, 0, 0)) rfl (fun _ _ _ => rfl) : mo_Sim 190 55 (ma_iand 55 56)) (mt_leaf (ms_if0 (e := (.ifCond .ne 5, 59, 61, 0, 0)) rfl (fun _ _ _ => rfl) : mo_Sim 190 56 (ma_if0 .ne 61 56 59)) (mt_leaf (ms_pushi (e := (.iconst 0, 60, 0, 0, 0)) rfl (fun _ _ _ => rfl) (by decide) : mo_Sim 190 59 (ma_push (ma_ci (.ofNat 0)) 60)) (mt_none))))
set_option maxRecDepth 100000 in
theorem smt190_24 (k : Nat) : ∀ f, mt190_24 k = some f → mo_Sim 190 k f := mt_leaf (ms_ret (e := (.ireturn, 61, 0, 0, 0)) rfl (Or.inr (Or.inl ⟨rfl, rfl, (fun _ _ _ => rfl)⟩)) : mo_Sim 190 60 (ma_ret 1)) (mt_leaf (ms_pushi (e := (.iconst 0, 62, 0, 0, 0)) rfl (fun _ _ _ => rfl) (by decide) : mo_Sim 190 61 (ma_push (ma_ci (.ofNat 0)) 62)) (mt_leaf (ms_ist (e := (.istore 7, 64, 0, 0, 0)) rfl (fun _ _ _ => rfl) : mo_Sim 190 62 (ma_stor 0 7 64)) (mt_leaf (ms_ild (e := (.iload 7, 66, 0, 0, 0)) rfl (fun _ _ _ => rfl) : mo_Sim 190 64 (ma_load 0 7 66)) (mt_none))))
set_option maxRecDepth 100000 in
theorem smt190_22 (k : Nat) : ∀ f, mt190_22 k = some f → mo_Sim 190 k f := mt_node (smt190_23 k) (smt190_24 k)
set_option maxRecDepth 100000 in
theorem smt190_26 (k : Nat) : ∀ f, mt190_26 k = some f → mo_Sim 190 k f := mt_leaf (ms_ild (e := (.iload 4, 68, 0, 0, 0)) rfl (fun _ _ _ => rfl) : mo_Sim 190 66 (ma_load 0 4 68)) (mt_leaf (ms_if2 (e := (.if_icmp .ge 40, 71, 108, 0, 0)) rfl (fun _ _ _ => rfl) : mo_Sim 190 68 (ma_if2 .ge 108 68 71)) (mt_leaf (ms_ald (e := (.aload_n 0, 72, 0, 0, 0)) rfl (fun _ _ _ => rfl) : mo_Sim 190 71 (ma_lda 0 72)) (mt_leaf (ms_getf (e := (.getfield 42, 75, 12, 13, 1065)) rfl (fun _ _ _ => rfl) : mo_Sim 190 72 (ma_getf 12 13 75)) (mt_none))))
set_option maxRecDepth 100000 in
theorem smt190_28 (k : Nat) : ∀ f, mt190_28 k = some f → mo_Sim 190 k f := mt_leaf (ms_pushi (e := (.iconst 3, 76, 0, 0, 0)) rfl (fun _ _ _ => rfl) (by decide) : mo_Sim 190 75 (ma_push (ma_ci (.ofNat 3)) 76)) (mt_leaf (ms_ild (e := (.iload_n 1, 77, 0, 0, 0)) rfl (fun _ _ _ => rfl) : mo_Sim 190 76 (ma_load 0 1 77)) (mt_none))
set_option maxRecDepth 100000 in
theorem smt190_29 (k : Nat) : ∀ f, mt190_29 k = some f → mo_Sim 190 k f := mt_leaf (ms_i2 (e := (.imul, 78, 0, 0, 0)) rfl (fun _ _ _ => rfl) hf_mul : mo_Sim 190 77 (ma_i2 ma_fmul 77 78)) (mt_leaf (ms_ild (e := (.iload 7, 80, 0, 0, 0)) rfl (fun _ _ _ => rfl) : mo_Sim 190 78 (ma_load 0 7 80)) (mt_leaf (ms_iadd (e := (.iadd, 81, 0, 0, 0)) rfl (fun _ _ _ => rfl) : mo_Sim 190 80 (ma_iadd 80 81)) (mt_none)))
set_option maxRecDepth 100000 in
theorem smt190_27 (k : Nat) : ∀ f, mt190_27 k = some f → mo_Sim 190 k f := mt_node (smt190_28 k) (smt190_29 k)
set_option maxRecDepth 100000 in
theorem smt190_25 (k : Nat) : ∀ f, mt190_25 k = some f → mo_Sim 190 k f := mt_node (smt190_26 k) (smt190_27 k)
set_option maxRecDepth 100000 in
theorem smt190_21 (k : Nat) : ∀ f, mt190_21 k = some f → mo_Sim 190 k f := mt_node (smt190_22 k) (smt190_25 k)
set_option maxRecDepth 100000 in
theorem smt190_32 (k : Nat) : ∀ f, mt190_32 k = some f → mo_Sim 190 k f := mt_leaf (ms_iald (e := (.iaload, 82, 0, 0, 0)) rfl (fun _ _ _ => rfl) : mo_Sim 190 81 (ma_iald 81 82)) (mt_leaf (ms_ild (e := (.iload 5, 84, 0, 0, 0)) rfl (fun _ _ _ => rfl) : mo_Sim 190 82 (ma_load 0 5 84)) (mt_leaf (ms_if2 (e := (.if_icmp .ne 18, 87, 102, 0, 0)) rfl (fun _ _ _ => rfl) : mo_Sim 190 84 (ma_if2 .ne 102 84 87)) (mt_leaf (ms_ald (e := (.aload_n 0, 88, 0, 0, 0)) rfl (fun _ _ _ => rfl) : mo_Sim 190 87 (ma_lda 0 88)) (mt_none))))
set_option maxRecDepth 100000 in
theorem smt190_34 (k : Nat) : ∀ f, mt190_34 k = some f → mo_Sim 190 k f := mt_leaf (ms_ild (e := (.iload_n 2, 89, 0, 0, 0)) rfl (fun _ _ _ => rfl) : mo_Sim 190 88 (ma_load 0 2 89)) (mt_leaf (ms_ild (e := (.iload_n 3, 90, 0, 0, 0)) rfl (fun _ _ _ => rfl) : mo_Sim 190 89 (ma_load 0 3 90)) (mt_none))
set_option maxRecDepth 100000 in
theorem smt190_35 (k : Nat) : ∀ f, mt190_35 k = some f → mo_Sim 190 k f := mt_leaf (ms_ild (e := (.iload 7, 92, 0, 0, 0)) rfl (fun _ _ _ => rfl) : mo_Sim 190 90 (ma_load 0 7 92)) (mt_leaf (ms_invV (p := 3) (e := (.invokevirtual 137, 95, 152, 0, 1224)) rfl rfl (fun _ _ _ => rfl) rfl rfl rfl (by decide) : mo_Sim 190 92 (ma_inv 152 4 4 12 95)) (mt_leaf (ms_ild (e := (.iload 6, 97, 0, 0, 0)) rfl (fun _ _ _ => rfl) : mo_Sim 190 95 (ma_load 0 6 97)) (mt_none)))
set_option maxRecDepth 100000 in
theorem smt190_33 (k : Nat) : ∀ f, mt190_33 k = some f → mo_Sim 190 k f := mt_node (smt190_34 k) (smt190_35 k)
set_option maxRecDepth 100000 in
theorem smt190_31 (k : Nat) : ∀ f, mt190_31 k = some f → mo_Sim 190 k f := mt_node (smt190_32 k) (smt190_33 k)
set_option maxRecDepth 100000 in
theorem smt190_37 (k : Nat) : ∀ f, mt190_37 k = some f → mo_Sim 190 k f := mt_leaf (ms_if2 (e := (.if_icmp .eq 5, 100, 102, 0, 0)) rfl (fun _ _ _ => rfl) : mo_Sim 190 97 (ma_if2 .eq 102 97 100)) (mt_leaf (ms_pushi (e := (.iconst 0, 101, 0, 0, 0)) rfl (fun _ _ _ => rfl) (by decide) : mo_Sim 190 100 (ma_push (ma_ci (.ofNat 0)) 101)) (mt_leaf (ms_ret (e := (.ireturn, 102, 0, 0, 0)) rfl (Or.inr (Or.inl ⟨rfl, rfl, (fun _ _ _ => rfl)⟩)) : mo_Sim 190 101 (ma_ret 1)) (mt_leaf (ms_iinc (e := (.iinc 7 1, 105, 0, 0, 0)) rfl (fun _ _ _ => rfl) (by decide) : mo_Sim 190 102 (ma_iinc 7 (.ofNat 1) 102 105)) (mt_none))))
set_option maxRecDepth 100000 in
theorem smt190_39 (k : Nat) : ∀ f, mt190_39 k = some f → mo_Sim 190 k f := mt_leaf (ms_goto (e := (.goto (-41), 108, 64, 0, 0)) rfl (fun _ _ _ => rfl) : mo_Sim 190 105 (ma_goto 64)) (mt_leaf (ms_iinc (e := (.iinc 4 1, 111, 0, 0, 0)) rfl (fun _ _ _ => rfl) (by decide) : mo_Sim 190 108 (ma_iinc 4 (.ofNat 1) 108 111)) (mt_none))
set_option maxRecDepth 100000 in
theorem smt190_40 (k : Nat) : ∀ f, mt190_40 k = some f → mo_Sim 190 k f := mt_leaf (ms_goto (e := (.goto (-96), 114, 15, 0, 0)) rfl (fun _ _ _ => rfl) : mo_Sim 190 111 (ma_goto 15)) (mt_leaf (ms_pushi (e := (.iconst 1, 115, 0, 0, 0)) rfl (fun _ _ _ => rfl) (by decide) : mo_Sim 190 114 (ma_push (ma_ci (.ofNat 1)) 115)) (mt_leaf (ms_ret (e := (.ireturn, 116, 0, 0, 0)) rfl (Or.inr (Or.inl ⟨rfl, rfl, (fun _ _ _ => rfl)⟩)) : mo_Sim 190 115 (ma_ret 1)) (mt_none)))
set_option maxRecDepth 100000 in
theorem smt190_38 (k : Nat) : ∀ f, mt190_38 k = some f → mo_Sim 190 k f := mt_node (smt190_39 k) (smt190_40 k)
set_option maxRecDepth 100000 in
theorem smt190_36 (k : Nat) : ∀ f, mt190_36 k = some f → mo_Sim 190 k f := mt_node (smt190_37 k) (smt190_38 k)
set_option maxRecDepth 100000 in
theorem smt190_30 (k : Nat) : ∀ f, mt190_30 k = some f → mo_Sim 190 k f := mt_node (smt190_31 k) (smt190_36 k)
set_option maxRecDepth 100000 in
theorem smt190_20 (k : Nat) : ∀ f, mt190_20 k = some f → mo_Sim 190 k f := mt_node (smt190_21 k) (smt190_30 k)
set_option maxRecDepth 100000 in
theorem smt190_0 (k : Nat) : ∀ f, mt190_0 k = some f → mo_Sim 190 k f := mt_node (smt190_1 k) (smt190_20 k)
set_option maxRecDepth 100000 in
theorem smt191_5 (k : Nat) : ∀ f, mt191_5 k = some f → mo_Sim 191 k f := mt_leaf (ms_pushi (e := (.iconst 0, 1, 0, 0, 0)) rfl (fun _ _ _ => rfl) (by decide) : mo_Sim 191 0 (ma_push (ma_ci (.ofNat 0)) 1)) (mt_leaf (ms_ist (e := (.istore_n 1, 2, 0, 0, 0)) rfl (fun _ _ _ => rfl) : mo_Sim 191 1 (ma_stor 0 1 2)) (mt_leaf (ms_ild (e := (.iload_n 1, 3, 0, 0, 0)) rfl (fun _ _ _ => rfl) : mo_Sim 191 2 (ma_load 0 1 3)) (mt_none)))
set_option maxRecDepth 100000 in
theorem smt191_6 (k : Nat) : ∀ f, mt191_6 k = some f → mo_Sim 191 k f := mt_leaf (ms_ald (e := (.aload_n 0, 4, 0, 0, 0)) rfl (fun _ _ _ => rfl) : mo_Sim 191 3 (ma_lda 0 4)) (mt_leaf (ms_getf (e := (.getfield 36, 7, 12, 10, 1062)) rfl (fun _ _ _ => rfl) : mo_Sim 191 4 (ma_getf 12 10 7)) (mt_leaf (ms_if2 (e := (.if_icmp .ge 23, 10, 30, 0, 0)) rfl (fun _ _ _ => rfl) : mo_Sim 191 7 (ma_if2 .ge 30 7 10)) (mt_leaf (ms_ald (e := (.aload_n 0, 11, 0, 0, 0)) rfl (fun _ _ _ => rfl) : mo_Sim 191 10 (ma_lda 0 11)) (mt_none))))
set_option maxRecDepth 100000 in
theorem smt191_4 (k : Nat) : ∀ f, mt191_4 k = some f → mo_Sim 191 k f := mt_node (smt191_5 k) (smt191_6 k)
set_option maxRecDepth 100000 in
theorem smt191_8 (k : Nat) : ∀ f, mt191_8 k = some f → mo_Sim 191 k f := mt_leaf (ms_getf (e := (.getfield 69, 14, 12, 24, 1076)) rfl (fun _ _ _ => rfl) : mo_Sim 191 11 (ma_getf 12 24 14)) (mt_leaf (ms_ild (e := (.iload_n 1, 15, 0, 0, 0)) rfl (fun _ _ _ => rfl) : mo_Sim 191 14 (ma_load 0 1 15)) (mt_leaf (ms_pushi (e := (.iconst 1, 16, 0, 0, 0)) rfl (fun _ _ _ => rfl) (by decide) : mo_Sim 191 15 (ma_push (ma_ci (.ofNat 1)) 16)) (mt_leaf (ms_ald (e := (.aload_n 0, 17, 0, 0, 0)) rfl (fun _ _ _ => rfl) : mo_Sim 191 16 (ma_lda 0 17)) (mt_none))))
set_option maxRecDepth 100000 in
theorem smt191_9 (k : Nat) : ∀ f, mt191_9 k = some f → mo_Sim 191 k f := mt_leaf (ms_getf (e := (.getfield 7, 20, 12, 0, 1052)) rfl (fun _ _ _ => rfl) : mo_Sim 191 17 (ma_getf 12 0 20)) (mt_leaf (ms_i2 (e := (.ishl, 21, 0, 0, 0)) rfl (fun _ _ _ => rfl) hf_shl : mo_Sim 191 20 (ma_i2 ma_fshl 20 21)) (mt_leaf (ms_pushi (e := (.iconst 1, 22, 0, 0, 0)) rfl (fun _ _ _ => rfl) (by decide) : mo_Sim 191 21 (ma_push (ma_ci (.ofNat 1)) 22)) (mt_leaf (ms_isub (e := (.isub, 23, 0, 0, 0)) rfl (fun _ _ _ => rfl) : mo_Sim 191 22 (ma_isub 22 23)) (mt_none))))
set_option maxRecDepth 100000 in
theorem smt191_7 (k : Nat) : ∀ f, mt191_7 k = some f → mo_Sim 191 k f := mt_node (smt191_8 k) (smt191_9 k)
set_option maxRecDepth 100000 in
theorem smt191_3 (k : Nat) : ∀ f, mt191_3 k = some f → mo_Sim 191 k f := mt_node (smt191_4 k) (smt191_7 k)
set_option maxRecDepth 100000 in
theorem smt191_12 (k : Nat) : ∀ f, mt191_12 k = some f → mo_Sim 191 k f := mt_leaf (ms_iast (e := (.iastore, 24, 0, 0, 0)) rfl rfl (fun _ _ _ => rfl) : mo_Sim 191 23 (ma_ast 13 0 23 24)) (mt_leaf (ms_iinc (e := (.iinc 1 1, 27, 0, 0, 0)) rfl (fun _ _ _ => rfl) (by decide) : mo_Sim 191 24 (ma_iinc 1 (.ofNat 1) 24 27)) (mt_leaf (ms_goto (e := (.goto (-25), 30, 2, 0, 0)) rfl (fun _ _ _ => rfl) : mo_Sim 191 27 (ma_goto 2)) (mt_none)))
set_option maxRecDepth 100000 in
theorem smt191_13 (k : Nat) : ∀ f, mt191_13 k = some f → mo_Sim 191 k f := mt_leaf (ms_pushi (e := (.iconst 1, 31, 0, 0, 0)) rfl (fun _ _ _ => rfl) (by decide) : mo_Sim 191 30 (ma_push (ma_ci (.ofNat 1)) 31)) (mt_leaf (ms_ist (e := (.istore_n 1, 32, 0, 0, 0)) rfl (fun _ _ _ => rfl) : mo_Sim 191 31 (ma_stor 0 1 32)) (mt_leaf (ms_ild (e := (.iload_n 1, 33, 0, 0, 0)) rfl (fun _ _ _ => rfl) : mo_Sim 191 32 (ma_load 0 1 33)) (mt_leaf (ms_if0 (e := (.ifCond .eq 174, 36, 207, 0, 0)) rfl (fun _ _ _ => rfl) : mo_Sim 191 33 (ma_if0 .eq 207 33 36)) (mt_none))))
set_option maxRecDepth 100000 in
theorem smt191_11 (k : Nat) : ∀ f, mt191_11 k = some f → mo_Sim 191 k f := mt_node (smt191_12 k) (smt191_13 k)
set_option maxRecDepth 100000 in
theorem smt191_15 (k : Nat) : ∀ f, mt191_15 k = some f → mo_Sim 191 k f := mt_leaf (ms_pushi (e := (.iconst 0, 37, 0, 0, 0)) rfl (fun _ _ _ => rfl) (by decide) : mo_Sim 191 36 (ma_push (ma_ci (.ofNat 0)) 37)) (mt_leaf (ms_ist (e := (.istore_n 1, 38, 0, 0, 0)) rfl (fun _ _ _ => rfl) : mo_Sim 191 37 (ma_stor 0 1 38)) (mt_leaf (ms_pushi (e := (.iconst 0, 39, 0, 0, 0)) rfl (fun _ _ _ => rfl) (by decide) : mo_Sim 191 38 (ma_push (ma_ci (.ofNat 0)) 39)) (mt_leaf (ms_ist (e := (.istore_n 2, 40, 0, 0, 0)) rfl (fun _ _ _ => rfl) : mo_Sim 191 39 (ma_stor 0 2 40)) (mt_none))))
set_option maxRecDepth 100000 in
theorem smt191_16 (k : Nat) : ∀ f, mt191_16 k = some f → mo_Sim 191 k f := mt_leaf (ms_ild (e := (.iload_n 2, 41, 0, 0, 0)) rfl (fun _ _ _ => rfl) : mo_Sim 191 40 (ma_load 0 2 41)) (mt_leaf (ms_ald (e := (.aload_n 0, 42, 0, 0, 0)) rfl (fun _ _ _ => rfl) : mo_Sim 191 41 (ma_lda 0 42)) (mt_leaf (ms_getf (e := (.getfield 78, 45, 12, 11, 1063)) rfl (fun _ _ _ => rfl) : mo_Sim 191 42 (ma_getf 12 11 45)) (mt_leaf (ms_if2 (e := (.if_icmp .ge 159, 48, 204, 0, 0)) rfl (fun _ _ _ => rfl) : mo_Sim 191 45 (ma_if2 .ge 204 45 48)) (mt_none))))
set_option maxRecDepth 100000 in
theorem smt191_14 (k : Nat) : ∀ f, mt191_14 k = some f → mo_Sim 191 k f := mt_node (smt191_15 k) (smt191_16 k)
set_option maxRecDepth 100000 in
theorem smt191_10 (k : Nat) : ∀ f, mt191_10 k = some f → mo_Sim 191 k f := mt_node (smt191_11 k) (smt191_14 k)
set_option maxRecDepth 100000 in
theorem smt191_2 (k : Nat) : ∀ f, mt191_2 k = some f → mo_Sim 191 k f := mt_node (smt191_3 k) (smt191_10 k)
set_option maxRecDepth 100000 in
theorem smt191_20 (k : Nat) : ∀ f, mt191_20 k = some f → mo_Sim 191 k f := mt_leaf (ms_ald (e := (.aload_n 0, 49, 0, 0, 0)) rfl (fun _ _ _ => rfl) : mo_Sim 191 48 (ma_lda 0 49)) (mt_leaf (ms_getf (e := (.getfield 39, 52, 12, 12, 1064)) rfl (fun _ _ _ => rfl) : mo_Sim 191 49 (ma_getf 12 12 52)) (mt_leaf (ms_ild (e := (.iload_n 2, 53, 0, 0, 0)) rfl (fun _ _ _ => rfl) : mo_Sim 191 52 (ma_load 0 2 53)) (mt_none)))
set_option maxRecDepth 100000 in
theorem smt191_21 (k : Nat) : ∀ f, mt191_21 k = some f → mo_Sim 191 k f := mt_leaf (ms_iald (e := (.iaload, 54, 0, 0, 0)) rfl (fun _ _ _ => rfl) : mo_Sim 191 53 (ma_iald 53 54)) (mt_leaf (ms_ist (e := (.istore_n 3, 55, 0, 0, 0)) rfl (fun _ _ _ => rfl) : mo_Sim 191 54 (ma_stor 0 3 55)) (mt_leaf (ms_ald (e := (.aload_n 0, 56, 0, 0, 0)) rfl (fun _ _ _ => rfl) : mo_Sim 191 55 (ma_lda 0 56)) (mt_leaf (ms_getf (e := (.getfield 30, 59, 12, 8, 1060)) rfl (fun _ _ _ => rfl) : mo_Sim 191 56 (ma_getf 12 8 59)) (mt_none))))
set_option maxRecDepth 100000 in
theorem smt191_19 (k : Nat) : ∀ f, mt191_19 k = some f → mo_Sim 191 k f := mt_node (smt191_20 k) (smt191_21 k)
set_option maxRecDepth 100000 in
theorem smt191_23 (k : Nat) : ∀ f, mt191_23 k = some f → mo_Sim 191 k f := mt_leaf (ms_ild (e := (.iload_n 3, 60, 0, 0, 0)) rfl (fun _ _ _ => rfl) : mo_Sim 191 59 (ma_load 0 3 60)) (mt_leaf (ms_iald (e := (.iaload, 61, 0, 0, 0)) rfl (fun _ _ _ => rfl) : mo_Sim 191 60 (ma_iald 60 61)) (mt_leaf (ms_ist (e := (.istore 4, 63, 0, 0, 0)) rfl (fun _ _ _ => rfl) : mo_Sim 191 61 (ma_stor 0 4 63)) (mt_leaf (ms_pushi (e := (.iconst 0, 64, 0, 0, 0)) rfl (fun _ _ _ => rfl) (by decide) : mo_Sim 191 63 (ma_push (ma_ci (.ofNat 0)) 64)) (mt_none))))
set_option maxRecDepth 100000 in
theorem smt191_24 (k : Nat) : ∀ f, mt191_24 k = some f → mo_Sim 191 k f := mt_leaf (ms_ist (e := (.istore 5, 66, 0, 0, 0)) rfl (fun _ _ _ => rfl) : mo_Sim 191 64 (ma_stor 0 5 66)) (mt_leaf (ms_ild (e := (.iload 5, 68, 0, 0, 0)) rfl (fun _ _ _ => rfl) : mo_Sim 191 66 (ma_load 0 5 68)) (mt_leaf (ms_ild (e := (.iload 4, 70, 0, 0, 0)) rfl (fun _ _ _ => rfl) : mo_Sim 191 68 (ma_load 0 4 70)) (mt_leaf (ms_if2 (e := (.if_icmp .ge 128, 73, 198, 0, 0)) rfl (fun _ _ _ => rfl) : mo_Sim 191 70 (ma_if2 .ge 198 70 73)) (mt_none))))
set_option maxRecDepth 100000 in
theorem smt191_22 (k : Nat) : ∀ f, mt191_22 k = some f → mo_Sim 191 k f := mt_node (smt191_23 k) (smt191_24 k)
set_option maxRecDepth 100000 in
theorem smt191_18 (k : Nat) : ∀ f, mt191_18 k = some f → mo_Sim 191 k f := mt_node (smt191_19 k) (smt191_22 k)
set_option maxRecDepth 100000 in
theorem smt191_27 (k : Nat) : ∀ f, mt191_27 k = some f → mo_Sim 191 k f := mt_leaf (ms_pushi (e := (.iconst 0, 74, 0, 0, 0)) rfl (fun _ _ _ => rfl) (by decide) : mo_Sim 191 73 (ma_push (ma_ci (.ofNat 0)) 74)) (mt_leaf (ms_ist (e := (.istore 6, 76, 0, 0, 0)) rfl (fun _ _ _ => rfl) : mo_Sim 191 74 (ma_stor 0 6 76)) (mt_leaf (ms_pushi (e := (.iconst 0, 77, 0, 0, 0)) rfl (fun _ _ _ => rfl) (by decide) : mo_Sim 191 76 (ma_push (ma_ci (.ofNat 0)) 77)) (mt_none)))
set_option maxRecDepth 100000 in
theorem smt191_28 (k : Nat) : ∀ f, mt191_28 k = some f → mo_Sim 191 k f := mt_leaf (ms_ist (e := (.istore 7, 79, 0, 0, 0)) rfl (fun _ _ _ => rfl) : mo_Sim 191 77 (ma_stor 0 7 79)) (mt_leaf (ms_ild (e := (.iload 7, 81, 0, 0, 0)) rfl (fun _ _ _ => rfl) : mo_Sim 191 79 (ma_load 0 7 81)) (mt_leaf (ms_ald (e := (.aload_n 0, 82, 0, 0, 0)) rfl (fun _ _ _ => rfl) : mo_Sim 191 81 (ma_lda 0 82)) (mt_leaf (ms_getf (e := (.getfield 7, 85, 12, 0, 1052)) rfl (fun _ _ _ => rfl) : mo_Sim 191 82 (ma_getf 12 0 85)) (mt_none))))
set_option maxRecDepth 100000 in
theorem smt191_26 (k : Nat) : ∀ f, mt191_26 k = some f → mo_Sim 191 k f := mt_node (smt191_27 k) (smt191_28 k)
set_option maxRecDepth 100000 in
theorem smt191_30 (k : Nat) : ∀ f, mt191_30 k = some f → mo_Sim 191 k f := mt_leaf (ms_ild (e := (.iload 4, 87, 0, 0, 0)) rfl (fun _ _ _ => rfl) : mo_Sim 191 85 (ma_load 0 4 87)) (mt_leaf (ms_invS (e := (.invokestatic 88, 90, 140, 1, 1155)) rfl rfl (fun _ _ _ => rfl) rfl rfl : mo_Sim 191 87 (ma_inv 140 2 4 20 90)) (mt_leaf (ms_if2 (e := (.if_icmp .ge 52, 93, 142, 0, 0)) rfl (fun _ _ _ => rfl) : mo_Sim 191 90 (ma_if2 .ge 142 90 93)) (mt_leaf (ms_ald (e := (.aload_n 0, 94, 0, 0, 0)) rfl (fun _ _ _ => rfl) : mo_Sim 191 93 (ma_lda 0 94)) (mt_none))))
set_option maxRecDepth 100000 in
theorem smt191_31 (k : Nat) : ∀ f, mt191_31 k = some f → mo_Sim 191 k f := mt_leaf (ms_getf (e := (.getfield 33, 97, 12, 9, 1061)) rfl (fun _ _ _ => rfl) : mo_Sim 191 94 (ma_getf 12 9 97)) (mt_leaf (ms_ild (e := (.iload_n 3, 98, 0, 0, 0)) rfl (fun _ _ _ => rfl) : mo_Sim 191 97 (ma_load 0 3 98)) (mt_leaf (ms_lald (e := (.laload, 99, 0, 0, 0)) rfl (fun _ _ _ => rfl) : mo_Sim 191 98 (ma_lald 99)) (mt_leaf (ms_ild (e := (.iload 7, 101, 0, 0, 0)) rfl (fun _ _ _ => rfl) : mo_Sim 191 99 (ma_load 0 7 101)) (mt_none))))
set_option maxRecDepth 100000 in
theorem smt191_29 (k : Nat) : ∀ f, mt191_29 k = some f → mo_Sim 191 k f := mt_node (smt191_30 k) (smt191_31 k)
set_option maxRecDepth 100000 in
theorem smt191_25 (k : Nat) : ∀ f, mt191_25 k = some f → mo_Sim 191 k f := mt_node (smt191_26 k) (smt191_29 k)
set_option maxRecDepth 100000 in
theorem smt191_17 (k : Nat) : ∀ f, mt191_17 k = some f → mo_Sim 191 k f := mt_node (smt191_18 k) (smt191_25 k)
set_option maxRecDepth 100000 in
theorem smt191_1 (k : Nat) : ∀ f, mt191_1 k = some f → mo_Sim 191 k f := mt_node (smt191_2 k) (smt191_17 k)
set_option maxRecDepth 100000 in
theorem smt191_36 (k : Nat) : ∀ f, mt191_36 k = some f → mo_Sim 191 k f := mt_leaf (ms_ls (e := (.lshr, 102, 0, 0, 0)) rfl (fun _ _ _ => rfl) hg_shr : mo_Sim 191 101 (ma_ls ma_gshr 101 102)) (mt_leaf (ms_pushl (e := (.lconst 1, 103, 0, 0, 0)) rfl (fun _ _ _ => rfl) (by decide) : mo_Sim 191 102 (ma_push (ma_cl (.ofNat 1)) 103)) (mt_leaf (ms_l2 (e := (.land, 104, 0, 0, 0)) rfl (fun _ _ _ => rfl) hg_and : mo_Sim 191 103 (ma_l2 ma_gand 104)) (mt_none)))
set_option maxRecDepth 100000 in
theorem smt191_37 (k : Nat) : ∀ f, mt191_37 k = some f → mo_Sim 191 k f := mt_leaf (ms_pushl (e := (.lconst 1, 105, 0, 0, 0)) rfl (fun _ _ _ => rfl) (by decide) : mo_Sim 191 104 (ma_push (ma_cl (.ofNat 1)) 105)) (mt_leaf (ms_lcmp (e := (.lcmp, 106, 0, 0, 0)) rfl (fun _ _ _ => rfl) : mo_Sim 191 105 (ma_lcmp 106)) (mt_leaf (ms_if0 (e := (.ifCond .ne 30, 109, 136, 0, 0)) rfl (fun _ _ _ => rfl) : mo_Sim 191 106 (ma_if0 .ne 136 106 109)) (mt_leaf (ms_ald (e := (.aload_n 0, 110, 0, 0, 0)) rfl (fun _ _ _ => rfl) : mo_Sim 191 109 (ma_lda 0 110)) (mt_none))))
set_option maxRecDepth 100000 in
theorem smt191_35 (k : Nat) : ∀ f, mt191_35 k = some f → mo_Sim 191 k f := mt_node (smt191_36 k) (smt191_37 k)
set_option maxRecDepth 100000 in
theorem smt191_39 (k : Nat) : ∀ f, mt191_39 k = some f → mo_Sim 191 k f := mt_leaf (ms_ild (e := (.iload_n 2, 111, 0, 0, 0)) rfl (fun _ _ _ => rfl) : mo_Sim 191 110 (ma_load 0 2 111)) (mt_leaf (ms_ild (e := (.iload 7, 113, 0, 0, 0)) rfl (fun _ _ _ => rfl) : mo_Sim 191 111 (ma_load 0 7 113)) (mt_leaf (ms_invV (p := 2) (e := (.invokevirtual 194, 116, 190, 0, 1339)) rfl rfl (fun _ _ _ => rfl) rfl rfl rfl (by decide) : mo_Sim 191 113 (ma_inv 190 3 8 12 116)) (mt_leaf (ms_if0 (e := (.ifCond .eq 20, 119, 136, 0, 0)) rfl (fun _ _ _ => rfl) : mo_Sim 191 116 (ma_if0 .eq 136 116 119)) (mt_none))))
set_option maxRecDepth 100000 in
theorem smt191_40 (k : Nat) : ∀ f, mt191_40 k = some f → mo_Sim 191 k f := mt_leaf (ms_ild (e := (.iload 6, 121, 0, 0, 0)) rfl (fun _ _ _ => rfl) : mo_Sim 191 119 (ma_load 0 6 121)) (mt_leaf (ms_pushi (e := (.iconst 1, 122, 0, 0, 0)) rfl (fun _ _ _ => rfl) (by decide) : mo_Sim 191 121 (ma_push (ma_ci (.ofNat 1)) 122)) (mt_leaf (ms_ald (e := (.aload_n 0, 123, 0, 0, 0)) rfl (fun _ _ _ => rfl) : mo_Sim 191 122 (ma_lda 0 123)) (mt_leaf (ms_ild (e := (.iload 7, 125, 0, 0, 0)) rfl (fun _ _ _ => rfl) : mo_Sim 191 123 (ma_load 0 7 125)) (mt_none))))
set_option maxRecDepth 100000 in
theorem smt191_38 (k : Nat) : ∀ f, mt191_38 k = some f → mo_Sim 191 k f := mt_node (smt191_39 k) (smt191_40 k)
set_option maxRecDepth 100000 in
theorem smt191_34 (k : Nat) : ∀ f, mt191_34 k = some f → mo_Sim 191 k f := mt_node (smt191_35 k) (smt191_38 k)
set_option maxRecDepth 100000 in
theorem smt191_43 (k : Nat) : ∀ f, mt191_43 k = some f → mo_Sim 191 k f := mt_leaf (ms_ild (e := (.iload 4, 127, 0, 0, 0)) rfl (fun _ _ _ => rfl) : mo_Sim 191 125 (ma_load 0 4 127)) (mt_leaf (ms_ild (e := (.iload 5, 129, 0, 0, 0)) rfl (fun _ _ _ => rfl) : mo_Sim 191 127 (ma_load 0 5 129)) (mt_leaf (ms_invV (p := 3) (e := (.invokevirtual 137, 132, 152, 0, 1224)) rfl rfl (fun _ _ _ => rfl) rfl rfl rfl (by decide) : mo_Sim 191 129 (ma_inv 152 4 4 12 132)) (mt_none)))
set_option maxRecDepth 100000 in
theorem smt191_44 (k : Nat) : ∀ f, mt191_44 k = some f → mo_Sim 191 k f := mt_leaf (ms_i2 (e := (.ishl, 133, 0, 0, 0)) rfl (fun _ _ _ => rfl) hf_shl : mo_Sim 191 132 (ma_i2 ma_fshl 132 133)) (mt_leaf (ms_i2 (e := (.ior, 134, 0, 0, 0)) rfl (fun _ _ _ => rfl) hf_or : mo_Sim 191 133 (ma_i2 ma_for 133 134)) (mt_leaf (ms_ist (e := (.istore 6, 136, 0, 0, 0)) rfl (fun _ _ _ => rfl) : mo_Sim 191 134 (ma_stor 0 6 136)) (mt_leaf (ms_iinc (e := (.iinc 7 1, 139, 0, 0, 0)) rfl (fun _ _ _ => rfl) (by decide) : mo_Sim 191 136 (ma_iinc 7 (.ofNat 1) 136 139)) (mt_none))))
set_option maxRecDepth 100000 in
theorem smt191_42 (k : Nat) : ∀ f, mt191_42 k = some f → mo_Sim 191 k f := mt_node (smt191_43 k) (smt191_44 k)
set_option maxRecDepth 100000 in
theorem smt191_46 (k : Nat) : ∀ f, mt191_46 k = some f → mo_Sim 191 k f := mt_leaf (ms_goto (e := (.goto (-60), 142, 79, 0, 0)) rfl (fun _ _ _ => rfl) : mo_Sim 191 139 (ma_goto 79)) (mt_leaf (ms_ald (e := (.aload_n 0, 143, 0, 0, 0)) rfl (fun _ _ _ => rfl) : mo_Sim 191 142 (ma_lda 0 143)) (mt_leaf (ms_getf (e := (.getfield 42, 146, 12, 13, 1065)) rfl (fun _ _ _ => rfl) : mo_Sim 191 143 (ma_getf 12 13 146)) (mt_leaf (ms_pushi (e := (.iconst 3, 147, 0, 0, 0)) rfl (fun _ _ _ => rfl) (by decide) : mo_Sim 191 146 (ma_push (ma_ci (.ofNat 3)) 147)) (mt_none))))
set_option maxRecDepth 100000 in
theorem smt191_47 (k : Nat) : ∀ f, mt191_47 k = some f → mo_Sim 191 k f := mt_leaf (ms_ild (e := (.iload_n 2, 148, 0, 0, 0)) rfl (fun _ _ _ => rfl) : mo_Sim 191 147 (ma_load 0 2 148)) (mt_leaf (ms_i2 (e := (.imul, 149, 0, 0, 0)) rfl (fun _ _ _ => rfl) hf_mul : mo_Sim 191 148 (ma_i2 ma_fmul 148 149)) (mt_leaf (ms_ild (e := (.iload 5, 151, 0, 0, 0)) rfl (fun _ _ _ => rfl) : mo_Sim 191 149 (ma_load 0 5 151)) (mt_leaf (ms_iadd (e := (.iadd, 152, 0, 0, 0)) rfl (fun _ _ _ => rfl) : mo_Sim 191 151 (ma_iadd 151 152)) (mt_none))))
set_option maxRecDepth 100000 in
theorem smt191_45 (k : Nat) : ∀ f, mt191_45 k = some f → mo_Sim 191 k f := mt_node (smt191_46 k) (smt191_47 k)
set_option maxRecDepth 100000 in
theorem smt191_41 (k : Nat) : ∀ f, mt191_41 k = some f → mo_Sim 191 k f := mt_node (smt191_42 k) (smt191_45 k)
set_option maxRecDepth 100000 in
theorem smt191_33 (k : Nat) : ∀ f, mt191_33 k = some f → mo_Sim 191 k f := mt_node (smt191_34 k) (smt191_41 k)
set_option maxRecDepth 100000 in
theorem smt191_51 (k : Nat) : ∀ f, mt191_51 k = some f → mo_Sim 191 k f := mt_leaf (ms_iald (e := (.iaload, 153, 0, 0, 0)) rfl (fun _ _ _ => rfl) : mo_Sim 191 152 (ma_iald 152 153)) (mt_leaf (ms_ist (e := (.istore 7, 155, 0, 0, 0)) rfl (fun _ _ _ => rfl) : mo_Sim 191 153 (ma_stor 0 7 155)) (mt_leaf (ms_ild (e := (.iload_n 1, 156, 0, 0, 0)) rfl (fun _ _ _ => rfl) : mo_Sim 191 155 (ma_load 0 1 156)) (mt_none)))
set_option maxRecDepth 100000 in
theorem smt191_52 (k : Nat) : ∀ f, mt191_52 k = some f → mo_Sim 191 k f := mt_leaf (ms_if0 (e := (.ifCond .ne 18, 159, 174, 0, 0)) rfl (fun _ _ _ => rfl) : mo_Sim 191 156 (ma_if0 .ne 174 156 159)) (mt_leaf (ms_ald (e := (.aload_n 0, 160, 0, 0, 0)) rfl (fun _ _ _ => rfl) : mo_Sim 191 159 (ma_lda 0 160)) (mt_leaf (ms_getf (e := (.getfield 69, 163, 12, 24, 1076)) rfl (fun _ _ _ => rfl) : mo_Sim 191 160 (ma_getf 12 24 163)) (mt_leaf (ms_ild (e := (.iload 7, 165, 0, 0, 0)) rfl (fun _ _ _ => rfl) : mo_Sim 191 163 (ma_load 0 7 165)) (mt_none))))
set_option maxRecDepth 100000 in
theorem smt191_50 (k : Nat) : ∀ f, mt191_50 k = some f → mo_Sim 191 k f := mt_node (smt191_51 k) (smt191_52 k)
set_option maxRecDepth 100000 in
theorem smt191_54 (k : Nat) : ∀ f, mt191_54 k = some f → mo_Sim 191 k f := mt_leaf (ms_iald (e := (.iaload, 166, 0, 0, 0)) rfl (fun _ _ _ => rfl) : mo_Sim 191 165 (ma_iald 165 166)) (mt_leaf (ms_ild (e := (.iload 6, 168, 0, 0, 0)) rfl (fun _ _ _ => rfl) : mo_Sim 191 166 (ma_load 0 6 168)) (mt_leaf (ms_pushi (e := (.iconst (-1), 169, 0, 0, 0)) rfl (fun _ _ _ => rfl) (by decide) : mo_Sim 191 168 (ma_push (ma_ci (.negSucc 0)) 169)) (mt_leaf (ms_i2 (e := (.ixor, 170, 0, 0, 0)) rfl (fun _ _ _ => rfl) hf_xor : mo_Sim 191 169 (ma_i2 ma_fxor 169 170)) (mt_none))))
set_option maxRecDepth 100000 in
theorem smt191_55 (k : Nat) : ∀ f, mt191_55 k = some f → mo_Sim 191 k f := mt_leaf (ms_iand (e := (.iand, 171, 0, 0, 0)) rfl (fun _ _ _ => rfl) : mo_Sim 191 170 (ma_iand 170 171)) (mt_leaf (ms_if0 (e := (.ifCond .eq 7, 174, 178, 0, 0)) rfl (fun _ _ _ => rfl) : mo_Sim 191 171 (ma_if0 .eq 178 171 174)) (mt_leaf (ms_pushi (e := (.iconst 1, 175, 0, 0, 0)) rfl (fun _ _ _ => rfl) (by decide) : mo_Sim 191 174 (ma_push (ma_ci (.ofNat 1)) 175)) (mt_leaf (ms_goto (e := (.goto 4, 178, 179, 0, 0)) rfl (fun _ _ _ => rfl) : mo_Sim 191 175 (ma_goto 179)) (mt_none))))
set_option maxRecDepth 100000 in
theorem smt191_53 (k : Nat) : ∀ f, mt191_53 k = some f → mo_Sim 191 k f := mt_node (smt191_54 k) (smt191_55 k)
set_option maxRecDepth 100000 in
theorem smt191_49 (k : Nat) : ∀ f, mt191_49 k = some f → mo_Sim 191 k f := mt_node (smt191_50 k) (smt191_53 k)
set_option maxRecDepth 100000 in
theorem smt191_58 (k : Nat) : ∀ f, mt191_58 k = some f → mo_Sim 191 k f := mt_leaf (ms_pushi (e := (.iconst 0, 179, 0, 0, 0)) rfl (fun _ _ _ => rfl) (by decide) : mo_Sim 191 178 (ma_push (ma_ci (.ofNat 0)) 179)) (mt_leaf (ms_ist (e := (.istore_n 1, 180, 0, 0, 0)) rfl (fun _ _ _ => rfl) : mo_Sim 191 179 (ma_stor 0 1 180)) (mt_leaf (ms_ald (e := (.aload_n 0, 181, 0, 0, 0)) rfl (fun _ _ _ => rfl) : mo_Sim 191 180 (ma_lda 0 181)) (mt_leaf (ms_getf (e := (.getfield 69, 184, 12, 24, 1076)) rfl (fun _ _ _ => rfl) : mo_Sim 191 181 (ma_getf 12 24 184)) (mt_none))))
set_option maxRecDepth 100000 in
theorem smt191_59 (k : Nat) : ∀ f, mt191_59 k = some f → mo_Sim 191 k f := mt_leaf (ms_ild (e := (.iload 7, 186, 0, 0, 0)) rfl (fun _ _ _ => rfl) : mo_Sim 191 184 (ma_load 0 7 186)) (mt_leaf (ms_d2 (e := (.dup2, 187, 0, 0, 0)) rfl (fun _ _ _ => rfl) : mo_Sim 191 186 (ma_d2 187)) (mt_leaf (ms_iald (e := (.iaload, 188, 0, 0, 0)) rfl (fun _ _ _ => rfl) : mo_Sim 191 187 (ma_iald 187 188)) (mt_leaf (ms_ild (e := (.iload 6, 190, 0, 0, 0)) rfl (fun _ _ _ => rfl) : mo_Sim 191 188 (ma_load 0 6 190)) (mt_none))))
set_option maxRecDepth 100000 in
theorem smt191_57 (k : Nat) : ∀ f, mt191_57 k = some f → mo_Sim 191 k f := mt_node (smt191_58 k) (smt191_59 k)
set_option maxRecDepth 100000 in
theorem smt191_61 (k : Nat) : ∀ f, mt191_61 k = some f → mo_Sim 191 k f := mt_leaf (ms_iand (e := (.iand, 191, 0, 0, 0)) rfl (fun _ _ _ => rfl) : mo_Sim 191 190 (ma_iand 190 191)) (mt_leaf (ms_iast (e := (.iastore, 192, 0, 0, 0)) rfl rfl (fun _ _ _ => rfl) : mo_Sim 191 191 (ma_ast 13 0 191 192)) (mt_leaf (ms_iinc (e := (.iinc 5 1, 195, 0, 0, 0)) rfl (fun _ _ _ => rfl) (by decide) : mo_Sim 191 192 (ma_iinc 5 (.ofNat 1) 192 195)) (mt_leaf (ms_goto (e := (.goto (-129), 198, 66, 0, 0)) rfl (fun _ _ _ => rfl) : mo_Sim 191 195 (ma_goto 66)) (mt_none))))
set_option maxRecDepth 100000 in
theorem smt191_62 (k : Nat) : ∀ f, mt191_62 k = some f → mo_Sim 191 k f := mt_leaf (ms_iinc (e := (.iinc 2 1, 201, 0, 0, 0)) rfl (fun _ _ _ => rfl) (by decide) : mo_Sim 191 198 (ma_iinc 2 (.ofNat 1) 198 201)) (mt_leaf (ms_goto (e := (.goto (-161), 204, 40, 0, 0)) rfl (fun _ _ _ => rfl) : mo_Sim 191 201 (ma_goto 40)) (mt_leaf (ms_goto (e := (.goto (-172), 207, 32, 0, 0)) rfl (fun _ _ _ => rfl) : mo_Sim 191 204 (ma_goto 32)) (mt_leaf (ms_retv (e := (.return_, 208, 0, 0, 0)) rfl rfl (fun _ _ _ => rfl) : mo_Sim 191 207 (ma_retv)) (mt_none))))
set_option maxRecDepth 100000 in
theorem smt191_60 (k : Nat) : ∀ f, mt191_60 k = some f → mo_Sim 191 k f := mt_node (smt191_61 k) (smt191_62 k)
set_option maxRecDepth 100000 in
theorem smt191_56 (k : Nat) : ∀ f, mt191_56 k = some f → mo_Sim 191 k f := mt_node (smt191_57 k) (smt191_60 k)
set_option maxRecDepth 100000 in
theorem smt191_48 (k : Nat) : ∀ f, mt191_48 k = some f → mo_Sim 191 k f := mt_node (smt191_49 k) (smt191_56 k)
set_option maxRecDepth 100000 in
theorem smt191_32 (k : Nat) : ∀ f, mt191_32 k = some f → mo_Sim 191 k f := mt_node (smt191_33 k) (smt191_48 k)
set_option maxRecDepth 100000 in
theorem smt191_0 (k : Nat) : ∀ f, mt191_0 k = some f → mo_Sim 191 k f := mt_node (smt191_1 k) (smt191_32 k)
set_option maxRecDepth 100000 in
theorem smt192_2 (k : Nat) : ∀ f, mt192_2 k = some f → mo_Sim 192 k f := mt_leaf (ms_ald (e := (.aload_n 0, 1, 0, 0, 0)) rfl (fun _ _ _ => rfl) : mo_Sim 192 0 (ma_lda 0 1)) (mt_leaf (ms_ild (e := (.iload_n 1, 2, 0, 0, 0)) rfl (fun _ _ _ => rfl) : mo_Sim 192 1 (ma_load 0 1 2)) (mt_leaf (ms_invV (p := 1) (e := (.invokevirtual 191, 5, 188, 0, 1327)) rfl rfl (fun _ _ _ => rfl) rfl rfl rfl (by decide) : mo_Sim 192 2 (ma_inv 188 2 2 12 5)) (mt_none)))
set_option maxRecDepth 100000 in
theorem smt192_3 (k : Nat) : ∀ f, mt192_3 k = some f → mo_Sim 192 k f := mt_leaf (ms_if0 (e := (.ifCond .ne 5, 8, 10, 0, 0)) rfl (fun _ _ _ => rfl) : mo_Sim 192 5 (ma_if0 .ne 10 5 8)) (mt_leaf (ms_pushi (e := (.iconst (-1), 9, 0, 0, 0)) rfl (fun _ _ _ => rfl) (by decide) : mo_Sim 192 8 (ma_push (ma_ci (.negSucc 0)) 9)) (mt_leaf (ms_ret (e := (.ireturn, 10, 0, 0, 0)) rfl (Or.inl ⟨rfl, rfl, (fun _ _ _ => rfl)⟩) : mo_Sim 192 9 (ma_ret 0)) (mt_none)))
set_option maxRecDepth 100000 in
theorem smt192_1 (k : Nat) : ∀ f, mt192_1 k = some f → mo_Sim 192 k f := mt_node (smt192_2 k) (smt192_3 k)
set_option maxRecDepth 100000 in
theorem smt192_5 (k : Nat) : ∀ f, mt192_5 k = some f → mo_Sim 192 k f := mt_leaf (ms_ald (e := (.aload_n 0, 11, 0, 0, 0)) rfl (fun _ _ _ => rfl) : mo_Sim 192 10 (ma_lda 0 11)) (mt_leaf (ms_invV (p := 0) (e := (.invokevirtual 197, 14, 191, 0, 1335)) rfl rfl (fun _ _ _ => rfl) rfl rfl rfl (by decide) : mo_Sim 192 11 (ma_inv 191 1 8 12 14)) (mt_leaf (ms_ald (e := (.aload_n 0, 15, 0, 0, 0)) rfl (fun _ _ _ => rfl) : mo_Sim 192 14 (ma_lda 0 15)) (mt_none)))
set_option maxRecDepth 100000 in
theorem smt192_6 (k : Nat) : ∀ f, mt192_6 k = some f → mo_Sim 192 k f := mt_leaf (ms_getf (e := (.getfield 69, 18, 12, 24, 1076)) rfl (fun _ _ _ => rfl) : mo_Sim 192 15 (ma_getf 12 24 18)) (mt_leaf (ms_ild (e := (.iload_n 1, 19, 0, 0, 0)) rfl (fun _ _ _ => rfl) : mo_Sim 192 18 (ma_load 0 1 19)) (mt_leaf (ms_iald (e := (.iaload, 20, 0, 0, 0)) rfl (fun _ _ _ => rfl) : mo_Sim 192 19 (ma_iald 19 20)) (mt_leaf (ms_ret (e := (.ireturn, 21, 0, 0, 0)) rfl (Or.inl ⟨rfl, rfl, (fun _ _ _ => rfl)⟩) : mo_Sim 192 20 (ma_ret 0)) (mt_none))))
set_option maxRecDepth 100000 in
theorem smt192_4 (k : Nat) : ∀ f, mt192_4 k = some f → mo_Sim 192 k f := mt_node (smt192_5 k) (smt192_6 k)
set_option maxRecDepth 100000 in
theorem smt192_0 (k : Nat) : ∀ f, mt192_0 k = some f → mo_Sim 192 k f := mt_node (smt192_1 k) (smt192_4 k)
set_option maxRecDepth 100000 in
theorem smt193_4 (k : Nat) : ∀ f, mt193_4 k = some f → mo_Sim 193 k f := mt_leaf (ms_pushi (e := (.iconst 0, 1, 0, 0, 0)) rfl (fun _ _ _ => rfl) (by decide) : mo_Sim 193 0 (ma_push (ma_ci (.ofNat 0)) 1)) (mt_leaf (ms_ist (e := (.istore_n 2, 2, 0, 0, 0)) rfl (fun _ _ _ => rfl) : mo_Sim 193 1 (ma_stor 0 2 2)) (mt_leaf (ms_ild (e := (.iload_n 2, 3, 0, 0, 0)) rfl (fun _ _ _ => rfl) : mo_Sim 193 2 (ma_load 0 2 3)) (mt_none)))
set_option maxRecDepth 100000 in
theorem smt193_5 (k : Nat) : ∀ f, mt193_5 k = some f → mo_Sim 193 k f := mt_leaf (ms_ald (e := (.aload_n 0, 4, 0, 0, 0)) rfl (fun _ _ _ => rfl) : mo_Sim 193 3 (ma_lda 0 4)) (mt_leaf (ms_getf (e := (.getfield 78, 7, 12, 11, 1063)) rfl (fun _ _ _ => rfl) : mo_Sim 193 4 (ma_getf 12 11 7)) (mt_leaf (ms_if2 (e := (.if_icmp .ge 87, 10, 94, 0, 0)) rfl (fun _ _ _ => rfl) : mo_Sim 193 7 (ma_if2 .ge 94 7 10)) (mt_leaf (ms_ald (e := (.aload_n 0, 11, 0, 0, 0)) rfl (fun _ _ _ => rfl) : mo_Sim 193 10 (ma_lda 0 11)) (mt_none))))
set_option maxRecDepth 100000 in
theorem smt193_3 (k : Nat) : ∀ f, mt193_3 k = some f → mo_Sim 193 k f := mt_node (smt193_4 k) (smt193_5 k)
set_option maxRecDepth 100000 in
theorem smt193_7 (k : Nat) : ∀ f, mt193_7 k = some f → mo_Sim 193 k f := mt_leaf (ms_getf (e := (.getfield 39, 14, 12, 12, 1064)) rfl (fun _ _ _ => rfl) : mo_Sim 193 11 (ma_getf 12 12 14)) (mt_leaf (ms_ild (e := (.iload_n 2, 15, 0, 0, 0)) rfl (fun _ _ _ => rfl) : mo_Sim 193 14 (ma_load 0 2 15)) (mt_leaf (ms_iald (e := (.iaload, 16, 0, 0, 0)) rfl (fun _ _ _ => rfl) : mo_Sim 193 15 (ma_iald 15 16)) (mt_none)))
set_option maxRecDepth 100000 in
theorem smt193_8 (k : Nat) : ∀ f, mt193_8 k = some f → mo_Sim 193 k f := mt_leaf (ms_ist (e := (.istore_n 3, 17, 0, 0, 0)) rfl (fun _ _ _ => rfl) : mo_Sim 193 16 (ma_stor 0 3 17)) (mt_leaf (ms_pushi (e := (.iconst 0, 18, 0, 0, 0)) rfl (fun _ _ _ => rfl) (by decide) : mo_Sim 193 17 (ma_push (ma_ci (.ofNat 0)) 18)) (mt_leaf (ms_ist (e := (.istore 4, 20, 0, 0, 0)) rfl (fun _ _ _ => rfl) : mo_Sim 193 18 (ma_stor 0 4 20)) (mt_leaf (ms_pushi (e := (.iconst 0, 21, 0, 0, 0)) rfl (fun _ _ _ => rfl) (by decide) : mo_Sim 193 20 (ma_push (ma_ci (.ofNat 0)) 21)) (mt_none))))
set_option maxRecDepth 100000 in
theorem smt193_6 (k : Nat) : ∀ f, mt193_6 k = some f → mo_Sim 193 k f := mt_node (smt193_7 k) (smt193_8 k)
set_option maxRecDepth 100000 in
theorem smt193_2 (k : Nat) : ∀ f, mt193_2 k = some f → mo_Sim 193 k f := mt_node (smt193_3 k) (smt193_6 k)
set_option maxRecDepth 100000 in
theorem smt193_11 (k : Nat) : ∀ f, mt193_11 k = some f → mo_Sim 193 k f := mt_leaf (ms_ist (e := (.istore 5, 23, 0, 0, 0)) rfl (fun _ _ _ => rfl) : mo_Sim 193 21 (ma_stor 0 5 23)) (mt_leaf (ms_ild (e := (.iload 5, 25, 0, 0, 0)) rfl (fun _ _ _ => rfl) : mo_Sim 193 23 (ma_load 0 5 25)) (mt_leaf (ms_ald (e := (.aload_n 0, 26, 0, 0, 0)) rfl (fun _ _ _ => rfl) : mo_Sim 193 25 (ma_lda 0 26)) (mt_none)))
set_option maxRecDepth 100000 in
theorem smt193_12 (k : Nat) : ∀ f, mt193_12 k = some f → mo_Sim 193 k f := mt_leaf (ms_getf (e := (.getfield 30, 29, 12, 8, 1060)) rfl (fun _ _ _ => rfl) : mo_Sim 193 26 (ma_getf 12 8 29)) (mt_leaf (ms_ild (e := (.iload_n 3, 30, 0, 0, 0)) rfl (fun _ _ _ => rfl) : mo_Sim 193 29 (ma_load 0 3 30)) (mt_leaf (ms_iald (e := (.iaload, 31, 0, 0, 0)) rfl (fun _ _ _ => rfl) : mo_Sim 193 30 (ma_iald 30 31)) (mt_leaf (ms_if2 (e := (.if_icmp .ge 39, 34, 70, 0, 0)) rfl (fun _ _ _ => rfl) : mo_Sim 193 31 (ma_if2 .ge 70 31 34)) (mt_none))))
set_option maxRecDepth 100000 in
theorem smt193_10 (k : Nat) : ∀ f, mt193_10 k = some f → mo_Sim 193 k f := mt_node (smt193_11 k) (smt193_12 k)
set_option maxRecDepth 100000 in
theorem smt193_14 (k : Nat) : ∀ f, mt193_14 k = some f → mo_Sim 193 k f := mt_leaf (ms_ild (e := (.iload 4, 36, 0, 0, 0)) rfl (fun _ _ _ => rfl) : mo_Sim 193 34 (ma_load 0 4 36)) (mt_leaf (ms_ald (e := (.aload_n 0, 37, 0, 0, 0)) rfl (fun _ _ _ => rfl) : mo_Sim 193 36 (ma_lda 0 37)) (mt_leaf (ms_getf (e := (.getfield 7, 40, 12, 0, 1052)) rfl (fun _ _ _ => rfl) : mo_Sim 193 37 (ma_getf 12 0 40)) (mt_leaf (ms_i2 (e := (.imul, 41, 0, 0, 0)) rfl (fun _ _ _ => rfl) hf_mul : mo_Sim 193 40 (ma_i2 ma_fmul 40 41)) (mt_none))))
set_option maxRecDepth 100000 in
theorem smt193_15 (k : Nat) : ∀ f, mt193_15 k = some f → mo_Sim 193 k f := mt_leaf (ms_ald (e := (.aload_n 0, 42, 0, 0, 0)) rfl (fun _ _ _ => rfl) : mo_Sim 193 41 (ma_lda 0 42)) (mt_leaf (ms_ild (e := (.iload_n 1, 43, 0, 0, 0)) rfl (fun _ _ _ => rfl) : mo_Sim 193 42 (ma_load 0 1 43)) (mt_leaf (ms_ald (e := (.aload_n 0, 44, 0, 0, 0)) rfl (fun _ _ _ => rfl) : mo_Sim 193 43 (ma_lda 0 44)) (mt_leaf (ms_getf (e := (.getfield 36, 47, 12, 10, 1062)) rfl (fun _ _ _ => rfl) : mo_Sim 193 44 (ma_getf 12 10 47)) (mt_none))))
set_option maxRecDepth 100000 in
theorem smt193_13 (k : Nat) : ∀ f, mt193_13 k = some f → mo_Sim 193 k f := mt_node (smt193_14 k) (smt193_15 k)
set_option maxRecDepth 100000 in
theorem smt193_9 (k : Nat) : ∀ f, mt193_9 k = some f → mo_Sim 193 k f := mt_node (smt193_10 k) (smt193_13 k)
set_option maxRecDepth 100000 in
theorem smt193_1 (k : Nat) : ∀ f, mt193_1 k = some f → mo_Sim 193 k f := mt_node (smt193_2 k) (smt193_9 k)
set_option maxRecDepth 100000 in
theorem smt193_19 (k : Nat) : ∀ f, mt193_19 k = some f → mo_Sim 193 k f := mt_leaf (ms_ald (e := (.aload_n 0, 48, 0, 0, 0)) rfl (fun _ _ _ => rfl) : mo_Sim 193 47 (ma_lda 0 48)) (mt_leaf (ms_getf (e := (.getfield 42, 51, 12, 13, 1065)) rfl (fun _ _ _ => rfl) : mo_Sim 193 48 (ma_getf 12 13 51)) (mt_leaf (ms_pushi (e := (.iconst 3, 52, 0, 0, 0)) rfl (fun _ _ _ => rfl) (by decide) : mo_Sim 193 51 (ma_push (ma_ci (.ofNat 3)) 52)) (mt_none)))
set_option maxRecDepth 100000 in
theorem smt193_20 (k : Nat) : ∀ f, mt193_20 k = some f → mo_Sim 193 k f := mt_leaf (ms_ild (e := (.iload_n 2, 53, 0, 0, 0)) rfl (fun _ _ _ => rfl) : mo_Sim 193 52 (ma_load 0 2 53)) (mt_leaf (ms_i2 (e := (.imul, 54, 0, 0, 0)) rfl (fun _ _ _ => rfl) hf_mul : mo_Sim 193 53 (ma_i2 ma_fmul 53 54)) (mt_leaf (ms_ild (e := (.iload 5, 56, 0, 0, 0)) rfl (fun _ _ _ => rfl) : mo_Sim 193 54 (ma_load 0 5 56)) (mt_leaf (ms_iadd (e := (.iadd, 57, 0, 0, 0)) rfl (fun _ _ _ => rfl) : mo_Sim 193 56 (ma_iadd 56 57)) (mt_none))))
set_option maxRecDepth 100000 in
theorem smt193_18 (k : Nat) : ∀ f, mt193_18 k = some f → mo_Sim 193 k f := mt_node (smt193_19 k) (smt193_20 k)
set_option maxRecDepth 100000 in
theorem smt193_22 (k : Nat) : ∀ f, mt193_22 k = some f → mo_Sim 193 k f := mt_leaf (ms_iald (e := (.iaload, 58, 0, 0, 0)) rfl (fun _ _ _ => rfl) : mo_Sim 193 57 (ma_iald 57 58)) (mt_leaf (ms_invV (p := 3) (e := (.invokevirtual 137, 61, 152, 0, 1224)) rfl rfl (fun _ _ _ => rfl) rfl rfl rfl (by decide) : mo_Sim 193 58 (ma_inv 152 4 4 12 61)) (mt_leaf (ms_iadd (e := (.iadd, 62, 0, 0, 0)) rfl (fun _ _ _ => rfl) : mo_Sim 193 61 (ma_iadd 61 62)) (mt_leaf (ms_ist (e := (.istore 4, 64, 0, 0, 0)) rfl (fun _ _ _ => rfl) : mo_Sim 193 62 (ma_stor 0 4 64)) (mt_none))))
set_option maxRecDepth 100000 in
theorem smt193_23 (k : Nat) : ∀ f, mt193_23 k = some f → mo_Sim 193 k f := mt_leaf (ms_iinc (e := (.iinc 5 1, 67, 0, 0, 0)) rfl (fun _ _ _ => rfl) (by decide) : mo_Sim 193 64 (ma_iinc 5 (.ofNat 1) 64 67)) (mt_leaf (ms_goto (e := (.goto (-44), 70, 23, 0, 0)) rfl (fun _ _ _ => rfl) : mo_Sim 193 67 (ma_goto 23)) (mt_leaf (ms_ald (e := (.aload_n 0, 71, 0, 0, 0)) rfl (fun _ _ _ => rfl) : mo_Sim 193 70 (ma_lda 0 71)) (mt_leaf (ms_getf (e := (.getfield 33, 74, 12, 9, 1061)) rfl (fun _ _ _ => rfl) : mo_Sim 193 71 (ma_getf 12 9 74)) (mt_none))))
set_option maxRecDepth 100000 in
theorem smt193_21 (k : Nat) : ∀ f, mt193_21 k = some f → mo_Sim 193 k f := mt_node (smt193_22 k) (smt193_23 k)
set_option maxRecDepth 100000 in
theorem smt193_17 (k : Nat) : ∀ f, mt193_17 k = some f → mo_Sim 193 k f := mt_node (smt193_18 k) (smt193_21 k)
set_option maxRecDepth 100000 in
theorem smt193_26 (k : Nat) : ∀ f, mt193_26 k = some f → mo_Sim 193 k f := mt_leaf (ms_ild (e := (.iload_n 3, 75, 0, 0, 0)) rfl (fun _ _ _ => rfl) : mo_Sim 193 74 (ma_load 0 3 75)) (mt_leaf (ms_lald (e := (.laload, 76, 0, 0, 0)) rfl (fun _ _ _ => rfl) : mo_Sim 193 75 (ma_lald 76)) (mt_leaf (ms_ild (e := (.iload 4, 78, 0, 0, 0)) rfl (fun _ _ _ => rfl) : mo_Sim 193 76 (ma_load 0 4 78)) (mt_none)))
set_option maxRecDepth 100000 in
theorem smt193_27 (k : Nat) : ∀ f, mt193_27 k = some f → mo_Sim 193 k f := mt_leaf (ms_ls (e := (.lshr, 79, 0, 0, 0)) rfl (fun _ _ _ => rfl) hg_shr : mo_Sim 193 78 (ma_ls ma_gshr 78 79)) (mt_leaf (ms_pushl (e := (.lconst 1, 80, 0, 0, 0)) rfl (fun _ _ _ => rfl) (by decide) : mo_Sim 193 79 (ma_push (ma_cl (.ofNat 1)) 80)) (mt_leaf (ms_l2 (e := (.land, 81, 0, 0, 0)) rfl (fun _ _ _ => rfl) hg_and : mo_Sim 193 80 (ma_l2 ma_gand 81)) (mt_leaf (ms_pushl (e := (.lconst 0, 82, 0, 0, 0)) rfl (fun _ _ _ => rfl) (by decide) : mo_Sim 193 81 (ma_push (ma_cl (.ofNat 0)) 82)) (mt_none))))
set_option maxRecDepth 100000 in
theorem smt193_25 (k : Nat) : ∀ f, mt193_25 k = some f → mo_Sim 193 k f := mt_node (smt193_26 k) (smt193_27 k)
set_option maxRecDepth 100000 in
theorem smt193_29 (k : Nat) : ∀ f, mt193_29 k = some f → mo_Sim 193 k f := mt_leaf (ms_lcmp (e := (.lcmp, 83, 0, 0, 0)) rfl (fun _ _ _ => rfl) : mo_Sim 193 82 (ma_lcmp 83)) (mt_leaf (ms_if0 (e := (.ifCond .ne 5, 86, 88, 0, 0)) rfl (fun _ _ _ => rfl) : mo_Sim 193 83 (ma_if0 .ne 88 83 86)) (mt_leaf (ms_pushi (e := (.iconst 0, 87, 0, 0, 0)) rfl (fun _ _ _ => rfl) (by decide) : mo_Sim 193 86 (ma_push (ma_ci (.ofNat 0)) 87)) (mt_leaf (ms_ret (e := (.ireturn, 88, 0, 0, 0)) rfl (Or.inr (Or.inl ⟨rfl, rfl, (fun _ _ _ => rfl)⟩)) : mo_Sim 193 87 (ma_ret 1)) (mt_none))))
set_option maxRecDepth 100000 in
theorem smt193_30 (k : Nat) : ∀ f, mt193_30 k = some f → mo_Sim 193 k f := mt_leaf (ms_iinc (e := (.iinc 2 1, 91, 0, 0, 0)) rfl (fun _ _ _ => rfl) (by decide) : mo_Sim 193 88 (ma_iinc 2 (.ofNat 1) 88 91)) (mt_leaf (ms_goto (e := (.goto (-89), 94, 2, 0, 0)) rfl (fun _ _ _ => rfl) : mo_Sim 193 91 (ma_goto 2)) (mt_leaf (ms_pushi (e := (.iconst 1, 95, 0, 0, 0)) rfl (fun _ _ _ => rfl) (by decide) : mo_Sim 193 94 (ma_push (ma_ci (.ofNat 1)) 95)) (mt_leaf (ms_ret (e := (.ireturn, 96, 0, 0, 0)) rfl (Or.inr (Or.inl ⟨rfl, rfl, (fun _ _ _ => rfl)⟩)) : mo_Sim 193 95 (ma_ret 1)) (mt_none))))
set_option maxRecDepth 100000 in
theorem smt193_28 (k : Nat) : ∀ f, mt193_28 k = some f → mo_Sim 193 k f := mt_node (smt193_29 k) (smt193_30 k)
set_option maxRecDepth 100000 in
theorem smt193_24 (k : Nat) : ∀ f, mt193_24 k = some f → mo_Sim 193 k f := mt_node (smt193_25 k) (smt193_28 k)
set_option maxRecDepth 100000 in
theorem smt193_16 (k : Nat) : ∀ f, mt193_16 k = some f → mo_Sim 193 k f := mt_node (smt193_17 k) (smt193_24 k)
set_option maxRecDepth 100000 in
theorem smt193_0 (k : Nat) : ∀ f, mt193_0 k = some f → mo_Sim 193 k f := mt_node (smt193_1 k) (smt193_16 k)
set_option maxRecDepth 100000 in
theorem smt194_3 (k : Nat) : ∀ f, mt194_3 k = some f → mo_Sim 194 k f := mt_leaf (ms_pushi (e := (.iconst 0, 1, 0, 0, 0)) rfl (fun _ _ _ => rfl) (by decide) : mo_Sim 194 0 (ma_push (ma_ci (.ofNat 0)) 1)) (mt_leaf (ms_ist (e := (.istore_n 1, 2, 0, 0, 0)) rfl (fun _ _ _ => rfl) : mo_Sim 194 1 (ma_stor 0 1 2)) (mt_leaf (ms_pushi (e := (.iconst 0, 3, 0, 0, 0)) rfl (fun _ _ _ => rfl) (by decide) : mo_Sim 194 2 (ma_push (ma_ci (.ofNat 0)) 3)) (mt_none)))
set_option maxRecDepth 100000 in
theorem smt194_4 (k : Nat) : ∀ f, mt194_4 k = some f → mo_Sim 194 k f := mt_leaf (ms_ist (e := (.istore_n 2, 4, 0, 0, 0)) rfl (fun _ _ _ => rfl) : mo_Sim 194 3 (ma_stor 0 2 4)) (mt_leaf (ms_ild (e := (.iload_n 2, 5, 0, 0, 0)) rfl (fun _ _ _ => rfl) : mo_Sim 194 4 (ma_load 0 2 5)) (mt_leaf (ms_ald (e := (.aload_n 0, 6, 0, 0, 0)) rfl (fun _ _ _ => rfl) : mo_Sim 194 5 (ma_lda 0 6)) (mt_none)))
set_option maxRecDepth 100000 in
theorem smt194_2 (k : Nat) : ∀ f, mt194_2 k = some f → mo_Sim 194 k f := mt_node (smt194_3 k) (smt194_4 k)
set_option maxRecDepth 100000 in
theorem smt194_6 (k : Nat) : ∀ f, mt194_6 k = some f → mo_Sim 194 k f := mt_leaf (ms_getf (e := (.getfield 7, 9, 12, 0, 1052)) rfl (fun _ _ _ => rfl) : mo_Sim 194 6 (ma_getf 12 0 9)) (mt_leaf (ms_ald (e := (.aload_n 0, 10, 0, 0, 0)) rfl (fun _ _ _ => rfl) : mo_Sim 194 9 (ma_lda 0 10)) (mt_leaf (ms_getf (e := (.getfield 36, 13, 12, 10, 1062)) rfl (fun _ _ _ => rfl) : mo_Sim 194 10 (ma_getf 12 10 13)) (mt_none)))
set_option maxRecDepth 100000 in
theorem smt194_7 (k : Nat) : ∀ f, mt194_7 k = some f → mo_Sim 194 k f := mt_leaf (ms_invS (e := (.invokestatic 88, 16, 140, 1, 1155)) rfl rfl (fun _ _ _ => rfl) rfl rfl : mo_Sim 194 13 (ma_inv 140 2 4 20 16)) (mt_leaf (ms_if2 (e := (.if_icmp .ge 25, 19, 41, 0, 0)) rfl (fun _ _ _ => rfl) : mo_Sim 194 16 (ma_if2 .ge 41 16 19)) (mt_leaf (ms_ild (e := (.iload_n 1, 20, 0, 0, 0)) rfl (fun _ _ _ => rfl) : mo_Sim 194 19 (ma_load 0 1 20)) (mt_none)))
set_option maxRecDepth 100000 in
theorem smt194_5 (k : Nat) : ∀ f, mt194_5 k = some f → mo_Sim 194 k f := mt_node (smt194_6 k) (smt194_7 k)
set_option maxRecDepth 100000 in
theorem smt194_1 (k : Nat) : ∀ f, mt194_1 k = some f → mo_Sim 194 k f := mt_node (smt194_2 k) (smt194_5 k)
set_option maxRecDepth 100000 in
theorem smt194_10 (k : Nat) : ∀ f, mt194_10 k = some f → mo_Sim 194 k f := mt_leaf (ms_ald (e := (.aload_n 0, 21, 0, 0, 0)) rfl (fun _ _ _ => rfl) : mo_Sim 194 20 (ma_lda 0 21)) (mt_leaf (ms_ild (e := (.iload_n 2, 22, 0, 0, 0)) rfl (fun _ _ _ => rfl) : mo_Sim 194 21 (ma_load 0 2 22)) (mt_leaf (ms_invV (p := 1) (e := (.invokevirtual 200, 25, 193, 0, 1347)) rfl rfl (fun _ _ _ => rfl) rfl rfl rfl (by decide) : mo_Sim 194 22 (ma_inv 193 2 6 12 25)) (mt_none)))
set_option maxRecDepth 100000 in
theorem smt194_11 (k : Nat) : ∀ f, mt194_11 k = some f → mo_Sim 194 k f := mt_leaf (ms_if0 (e := (.ifCond .eq 7, 28, 32, 0, 0)) rfl (fun _ _ _ => rfl) : mo_Sim 194 25 (ma_if0 .eq 32 25 28)) (mt_leaf (ms_pushi (e := (.iconst 1, 29, 0, 0, 0)) rfl (fun _ _ _ => rfl) (by decide) : mo_Sim 194 28 (ma_push (ma_ci (.ofNat 1)) 29)) (mt_leaf (ms_goto (e := (.goto 4, 32, 33, 0, 0)) rfl (fun _ _ _ => rfl) : mo_Sim 194 29 (ma_goto 33)) (mt_none)))
set_option maxRecDepth 100000 in
theorem smt194_9 (k : Nat) : ∀ f, mt194_9 k = some f → mo_Sim 194 k f := mt_node (smt194_10 k) (smt194_11 k)
set_option maxRecDepth 100000 in
theorem smt194_13 (k : Nat) : ∀ f, mt194_13 k = some f → mo_Sim 194 k f := mt_leaf (ms_pushi (e := (.iconst 0, 33, 0, 0, 0)) rfl (fun _ _ _ => rfl) (by decide) : mo_Sim 194 32 (ma_push (ma_ci (.ofNat 0)) 33)) (mt_leaf (ms_iadd (e := (.iadd, 34, 0, 0, 0)) rfl (fun _ _ _ => rfl) : mo_Sim 194 33 (ma_iadd 33 34)) (mt_leaf (ms_ist (e := (.istore_n 1, 35, 0, 0, 0)) rfl (fun _ _ _ => rfl) : mo_Sim 194 34 (ma_stor 0 1 35)) (mt_none)))
set_option maxRecDepth 100000 in
theorem smt194_14 (k : Nat) : ∀ f, mt194_14 k = some f → mo_Sim 194 k f := mt_leaf (ms_iinc (e := (.iinc 2 1, 38, 0, 0, 0)) rfl (fun _ _ _ => rfl) (by decide) : mo_Sim 194 35 (ma_iinc 2 (.ofNat 1) 35 38)) (mt_leaf (ms_goto (e := (.goto (-34), 41, 4, 0, 0)) rfl (fun _ _ _ => rfl) : mo_Sim 194 38 (ma_goto 4)) (mt_leaf (ms_ild (e := (.iload_n 1, 42, 0, 0, 0)) rfl (fun _ _ _ => rfl) : mo_Sim 194 41 (ma_load 0 1 42)) (mt_leaf (ms_ret (e := (.ireturn, 43, 0, 0, 0)) rfl (Or.inl ⟨rfl, rfl, (fun _ _ _ => rfl)⟩) : mo_Sim 194 42 (ma_ret 0)) (mt_none))))
set_option maxRecDepth 100000 in
theorem smt194_12 (k : Nat) : ∀ f, mt194_12 k = some f → mo_Sim 194 k f := mt_node (smt194_13 k) (smt194_14 k)
set_option maxRecDepth 100000 in
theorem smt194_8 (k : Nat) : ∀ f, mt194_8 k = some f → mo_Sim 194 k f := mt_node (smt194_9 k) (smt194_12 k)
set_option maxRecDepth 100000 in
theorem smt194_0 (k : Nat) : ∀ f, mt194_0 k = some f → mo_Sim 194 k f := mt_node (smt194_1 k) (smt194_8 k)
set_option maxRecDepth 100000 in
theorem smt195_3 (k : Nat) : ∀ f, mt195_3 k = some f → mo_Sim 195 k f := mt_leaf (ms_ild (e := (.iload_n 1, 1, 0, 0, 0)) rfl (fun _ _ _ => rfl) : mo_Sim 195 0 (ma_load 0 1 1)) (mt_leaf (ms_ist (e := (.istore_n 2, 2, 0, 0, 0)) rfl (fun _ _ _ => rfl) : mo_Sim 195 1 (ma_stor 0 2 2)) (mt_leaf (ms_pushi (e := (.iconst 0, 3, 0, 0, 0)) rfl (fun _ _ _ => rfl) (by decide) : mo_Sim 195 2 (ma_push (ma_ci (.ofNat 0)) 3)) (mt_none)))
set_option maxRecDepth 100000 in
theorem smt195_4 (k : Nat) : ∀ f, mt195_4 k = some f → mo_Sim 195 k f := mt_leaf (ms_ist (e := (.istore_n 3, 4, 0, 0, 0)) rfl (fun _ _ _ => rfl) : mo_Sim 195 3 (ma_stor 0 3 4)) (mt_leaf (ms_ild (e := (.iload_n 3, 5, 0, 0, 0)) rfl (fun _ _ _ => rfl) : mo_Sim 195 4 (ma_load 0 3 5)) (mt_leaf (ms_ald (e := (.aload_n 0, 6, 0, 0, 0)) rfl (fun _ _ _ => rfl) : mo_Sim 195 5 (ma_lda 0 6)) (mt_none)))
set_option maxRecDepth 100000 in
theorem smt195_2 (k : Nat) : ∀ f, mt195_2 k = some f → mo_Sim 195 k f := mt_node (smt195_3 k) (smt195_4 k)
set_option maxRecDepth 100000 in
theorem smt195_6 (k : Nat) : ∀ f, mt195_6 k = some f → mo_Sim 195 k f := mt_leaf (ms_getf (e := (.getfield 7, 9, 12, 0, 1052)) rfl (fun _ _ _ => rfl) : mo_Sim 195 6 (ma_getf 12 0 9)) (mt_leaf (ms_ald (e := (.aload_n 0, 10, 0, 0, 0)) rfl (fun _ _ _ => rfl) : mo_Sim 195 9 (ma_lda 0 10)) (mt_leaf (ms_getf (e := (.getfield 36, 13, 12, 10, 1062)) rfl (fun _ _ _ => rfl) : mo_Sim 195 10 (ma_getf 12 10 13)) (mt_none)))
set_option maxRecDepth 100000 in
theorem smt195_7 (k : Nat) : ∀ f, mt195_7 k = some f → mo_Sim 195 k f := mt_leaf (ms_invS (e := (.invokestatic 88, 16, 140, 1, 1155)) rfl rfl (fun _ _ _ => rfl) rfl rfl : mo_Sim 195 13 (ma_inv 140 2 4 20 16)) (mt_leaf (ms_if2 (e := (.if_icmp .ge 30, 19, 46, 0, 0)) rfl (fun _ _ _ => rfl) : mo_Sim 195 16 (ma_if2 .ge 46 16 19)) (mt_leaf (ms_ild (e := (.iload_n 2, 20, 0, 0, 0)) rfl (fun _ _ _ => rfl) : mo_Sim 195 19 (ma_load 0 2 20)) (mt_leaf (ms_if0 (e := (.ifCond .lt 26, 23, 46, 0, 0)) rfl (fun _ _ _ => rfl) : mo_Sim 195 20 (ma_if0 .lt 46 20 23)) (mt_none))))
set_option maxRecDepth 100000 in
theorem smt195_5 (k : Nat) : ∀ f, mt195_5 k = some f → mo_Sim 195 k f := mt_node (smt195_6 k) (smt195_7 k)
set_option maxRecDepth 100000 in
theorem smt195_1 (k : Nat) : ∀ f, mt195_1 k = some f → mo_Sim 195 k f := mt_node (smt195_2 k) (smt195_5 k)
set_option maxRecDepth 100000 in
theorem smt195_10 (k : Nat) : ∀ f, mt195_10 k = some f → mo_Sim 195 k f := mt_leaf (ms_ald (e := (.aload_n 0, 24, 0, 0, 0)) rfl (fun _ _ _ => rfl) : mo_Sim 195 23 (ma_lda 0 24)) (mt_leaf (ms_ild (e := (.iload_n 3, 25, 0, 0, 0)) rfl (fun _ _ _ => rfl) : mo_Sim 195 24 (ma_load 0 3 25)) (mt_leaf (ms_invV (p := 1) (e := (.invokevirtual 200, 28, 193, 0, 1347)) rfl rfl (fun _ _ _ => rfl) rfl rfl rfl (by decide) : mo_Sim 195 25 (ma_inv 193 2 6 12 28)) (mt_none)))
set_option maxRecDepth 100000 in
theorem smt195_11 (k : Nat) : ∀ f, mt195_11 k = some f → mo_Sim 195 k f := mt_leaf (ms_if0 (e := (.ifCond .eq 12, 31, 40, 0, 0)) rfl (fun _ _ _ => rfl) : mo_Sim 195 28 (ma_if0 .eq 40 28 31)) (mt_leaf (ms_ild (e := (.iload_n 2, 32, 0, 0, 0)) rfl (fun _ _ _ => rfl) : mo_Sim 195 31 (ma_load 0 2 32)) (mt_leaf (ms_if0 (e := (.ifCond .ne 5, 35, 37, 0, 0)) rfl (fun _ _ _ => rfl) : mo_Sim 195 32 (ma_if0 .ne 37 32 35)) (mt_none)))
set_option maxRecDepth 100000 in
theorem smt195_9 (k : Nat) : ∀ f, mt195_9 k = some f → mo_Sim 195 k f := mt_node (smt195_10 k) (smt195_11 k)
set_option maxRecDepth 100000 in
theorem smt195_13 (k : Nat) : ∀ f, mt195_13 k = some f → mo_Sim 195 k f := mt_leaf (ms_ild (e := (.iload_n 3, 36, 0, 0, 0)) rfl (fun _ _ _ => rfl) : mo_Sim 195 35 (ma_load 0 3 36)) (mt_leaf (ms_ret (e := (.ireturn, 37, 0, 0, 0)) rfl (Or.inl ⟨rfl, rfl, (fun _ _ _ => rfl)⟩) : mo_Sim 195 36 (ma_ret 0)) (mt_leaf (ms_iinc (e := (.iinc 2 (-1), 40, 0, 0, 0)) rfl (fun _ _ _ => rfl) (by decide) : mo_Sim 195 37 (ma_iinc 2 (.negSucc 0) 37 40)) (mt_none)))
set_option maxRecDepth 100000 in
theorem smt195_14 (k : Nat) : ∀ f, mt195_14 k = some f → mo_Sim 195 k f := mt_leaf (ms_iinc (e := (.iinc 3 1, 43, 0, 0, 0)) rfl (fun _ _ _ => rfl) (by decide) : mo_Sim 195 40 (ma_iinc 3 (.ofNat 1) 40 43)) (mt_leaf (ms_goto (e := (.goto (-39), 46, 4, 0, 0)) rfl (fun _ _ _ => rfl) : mo_Sim 195 43 (ma_goto 4)) (mt_leaf (ms_pushi (e := (.iconst (-1), 47, 0, 0, 0)) rfl (fun _ _ _ => rfl) (by decide) : mo_Sim 195 46 (ma_push (ma_ci (.negSucc 0)) 47)) (mt_leaf (ms_ret (e := (.ireturn, 48, 0, 0, 0)) rfl (Or.inl ⟨rfl, rfl, (fun _ _ _ => rfl)⟩) : mo_Sim 195 47 (ma_ret 0)) (mt_none))))
set_option maxRecDepth 100000 in
theorem smt195_12 (k : Nat) : ∀ f, mt195_12 k = some f → mo_Sim 195 k f := mt_node (smt195_13 k) (smt195_14 k)
set_option maxRecDepth 100000 in
theorem smt195_8 (k : Nat) : ∀ f, mt195_8 k = some f → mo_Sim 195 k f := mt_node (smt195_9 k) (smt195_12 k)
set_option maxRecDepth 100000 in
theorem smt195_0 (k : Nat) : ∀ f, mt195_0 k = some f → mo_Sim 195 k f := mt_node (smt195_1 k) (smt195_8 k)
set_option maxRecDepth 100000 in
theorem smt196_3 (k : Nat) : ∀ f, mt196_3 k = some f → mo_Sim 196 k f := mt_leaf (ms_pushi (e := (.iconst 0, 1, 0, 0, 0)) rfl (fun _ _ _ => rfl) (by decide) : mo_Sim 196 0 (ma_push (ma_ci (.ofNat 0)) 1)) (mt_leaf (ms_ist (e := (.istore_n 1, 2, 0, 0, 0)) rfl (fun _ _ _ => rfl) : mo_Sim 196 1 (ma_stor 0 1 2)) (mt_none))
set_option maxRecDepth 100000 in
theorem smt196_4 (k : Nat) : ∀ f, mt196_4 k = some f → mo_Sim 196 k f := mt_leaf (ms_pushi (e := (.iconst 0, 3, 0, 0, 0)) rfl (fun _ _ _ => rfl) (by decide) : mo_Sim 196 2 (ma_push (ma_ci (.ofNat 0)) 3)) (mt_leaf (ms_ist (e := (.istore_n 2, 4, 0, 0, 0)) rfl (fun _ _ _ => rfl) : mo_Sim 196 3 (ma_stor 0 2 4)) (mt_leaf (ms_ild (e := (.iload_n 2, 5, 0, 0, 0)) rfl (fun _ _ _ => rfl) : mo_Sim 196 4 (ma_load 0 2 5)) (mt_none)))
set_option maxRecDepth 100000 in
theorem smt196_2 (k : Nat) : ∀ f, mt196_2 k = some f → mo_Sim 196 k f := mt_node (smt196_3 k) (smt196_4 k)
set_option maxRecDepth 100000 in
theorem smt196_6 (k : Nat) : ∀ f, mt196_6 k = some f → mo_Sim 196 k f := mt_leaf (ms_ald (e := (.aload_n 0, 6, 0, 0, 0)) rfl (fun _ _ _ => rfl) : mo_Sim 196 5 (ma_lda 0 6)) (mt_leaf (ms_getf (e := (.getfield 78, 9, 12, 11, 1063)) rfl (fun _ _ _ => rfl) : mo_Sim 196 6 (ma_getf 12 11 9)) (mt_none))
set_option maxRecDepth 100000 in
theorem smt196_7 (k : Nat) : ∀ f, mt196_7 k = some f → mo_Sim 196 k f := mt_leaf (ms_if2 (e := (.if_icmp .ge 20, 12, 29, 0, 0)) rfl (fun _ _ _ => rfl) : mo_Sim 196 9 (ma_if2 .ge 29 9 12)) (mt_leaf (ms_ild (e := (.iload_n 1, 13, 0, 0, 0)) rfl (fun _ _ _ => rfl) : mo_Sim 196 12 (ma_load 0 1 13)) (mt_leaf (ms_pushi (e := (.iconst 1, 14, 0, 0, 0)) rfl (fun _ _ _ => rfl) (by decide) : mo_Sim 196 13 (ma_push (ma_ci (.ofNat 1)) 14)) (mt_none)))
set_option maxRecDepth 100000 in
theorem smt196_5 (k : Nat) : ∀ f, mt196_5 k = some f → mo_Sim 196 k f := mt_node (smt196_6 k) (smt196_7 k)
set_option maxRecDepth 100000 in
theorem smt196_1 (k : Nat) : ∀ f, mt196_1 k = some f → mo_Sim 196 k f := mt_node (smt196_2 k) (smt196_5 k)
set_option maxRecDepth 100000 in
theorem smt196_10 (k : Nat) : ∀ f, mt196_10 k = some f → mo_Sim 196 k f := mt_leaf (ms_ald (e := (.aload_n 0, 15, 0, 0, 0)) rfl (fun _ _ _ => rfl) : mo_Sim 196 14 (ma_lda 0 15)) (mt_leaf (ms_getf (e := (.getfield 39, 18, 12, 12, 1064)) rfl (fun _ _ _ => rfl) : mo_Sim 196 15 (ma_getf 12 12 18)) (mt_none))
set_option maxRecDepth 100000 in
theorem smt196_11 (k : Nat) : ∀ f, mt196_11 k = some f → mo_Sim 196 k f := mt_leaf (ms_ild (e := (.iload_n 2, 19, 0, 0, 0)) rfl (fun _ _ _ => rfl) : mo_Sim 196 18 (ma_load 0 2 19)) (mt_leaf (ms_iald (e := (.iaload, 20, 0, 0, 0)) rfl (fun _ _ _ => rfl) : mo_Sim 196 19 (ma_iald 19 20)) (mt_leaf (ms_i2 (e := (.ishl, 21, 0, 0, 0)) rfl (fun _ _ _ => rfl) hf_shl : mo_Sim 196 20 (ma_i2 ma_fshl 20 21)) (mt_none)))
set_option maxRecDepth 100000 in
theorem smt196_9 (k : Nat) : ∀ f, mt196_9 k = some f → mo_Sim 196 k f := mt_node (smt196_10 k) (smt196_11 k)
set_option maxRecDepth 100000 in
theorem smt196_13 (k : Nat) : ∀ f, mt196_13 k = some f → mo_Sim 196 k f := mt_leaf (ms_i2 (e := (.ior, 22, 0, 0, 0)) rfl (fun _ _ _ => rfl) hf_or : mo_Sim 196 21 (ma_i2 ma_for 21 22)) (mt_leaf (ms_ist (e := (.istore_n 1, 23, 0, 0, 0)) rfl (fun _ _ _ => rfl) : mo_Sim 196 22 (ma_stor 0 1 23)) (mt_leaf (ms_iinc (e := (.iinc 2 1, 26, 0, 0, 0)) rfl (fun _ _ _ => rfl) (by decide) : mo_Sim 196 23 (ma_iinc 2 (.ofNat 1) 23 26)) (mt_none)))
set_option maxRecDepth 100000 in
theorem smt196_14 (k : Nat) : ∀ f, mt196_14 k = some f → mo_Sim 196 k f := mt_leaf (ms_goto (e := (.goto (-22), 29, 4, 0, 0)) rfl (fun _ _ _ => rfl) : mo_Sim 196 26 (ma_goto 4)) (mt_leaf (ms_ild (e := (.iload_n 1, 30, 0, 0, 0)) rfl (fun _ _ _ => rfl) : mo_Sim 196 29 (ma_load 0 1 30)) (mt_leaf (ms_ret (e := (.ireturn, 31, 0, 0, 0)) rfl (Or.inl ⟨rfl, rfl, (fun _ _ _ => rfl)⟩) : mo_Sim 196 30 (ma_ret 0)) (mt_none)))
set_option maxRecDepth 100000 in
theorem smt196_12 (k : Nat) : ∀ f, mt196_12 k = some f → mo_Sim 196 k f := mt_node (smt196_13 k) (smt196_14 k)
set_option maxRecDepth 100000 in
theorem smt196_8 (k : Nat) : ∀ f, mt196_8 k = some f → mo_Sim 196 k f := mt_node (smt196_9 k) (smt196_12 k)
set_option maxRecDepth 100000 in
theorem smt196_0 (k : Nat) : ∀ f, mt196_0 k = some f → mo_Sim 196 k f := mt_node (smt196_1 k) (smt196_8 k)
