set_option maxRecDepth 100000 in
theorem smt149_5 (k : Nat) : ∀ f, mt149_5 k = some f → mo_Sim 149 k f := mt_leaf (ms_ild (e := (.iload_n 2, 1, 0, 0, 0)) rfl (fun _ _ _ => rfl) : mo_Sim 149 0 (ma_load 0 2 1)) (mt_leaf (ms_invS (e := (.invokestatic 84, 4, 143, 1, 1140)) rfl rfl (fun _ _ _ => rfl) rfl rfl : mo_Sim 149 1 (ma_inv 143 1 1 20 4)) (mt_leaf (ms_if0 (e := (.ifCond .eq 13, 7, 17, 0, 0)) rfl (fun _ _ _ => rfl) : mo_Sim 149 4 (ma_if0 .eq 17 4 7)) (mt_leaf (ms_ild (e := (.iload_n 1, 8, 0, 0, 0)) rfl (fun _ _ _ => rfl) : mo_Sim 149 7 (ma_load 0 1 8)) (mt_none))))
set_option maxRecDepth 100000 in
theorem smt149_6 (k : Nat) : ∀ f, mt149_6 k = some f → mo_Sim 149 k f := mt_leaf (ms_pushi (e := (.iconst 1, 9, 0, 0, 0)) rfl (fun _ _ _ => rfl) (by decide) : mo_Sim 149 8 (ma_push (ma_ci (.ofNat 1)) 9)) (mt_leaf (ms_if2 (e := (.if_icmp .lt 8, 12, 17, 0, 0)) rfl (fun _ _ _ => rfl) : mo_Sim 149 9 (ma_if2 .lt 17 9 12)) (mt_leaf (ms_ild (e := (.iload_n 1, 13, 0, 0, 0)) rfl (fun _ _ _ => rfl) : mo_Sim 149 12 (ma_load 0 1 13)) (mt_leaf (ms_pushi (e := (.iconst 3, 14, 0, 0, 0)) rfl (fun _ _ _ => rfl) (by decide) : mo_Sim 149 13 (ma_push (ma_ci (.ofNat 3)) 14)) (mt_none))))
set_option maxRecDepth 100000 in
theorem smt149_4 (k : Nat) : ∀ f, mt149_4 k = some f → mo_Sim 149 k f := mt_node (smt149_5 k) (smt149_6 k)
set_option maxRecDepth 100000 in
theorem smt149_8 (k : Nat) : ∀ f, mt149_8 k = some f → mo_Sim 149 k f := mt_leaf (ms_if2 (e := (.if_icmp .le 6, 17, 20, 0, 0)) rfl (fun _ _ _ => rfl) : mo_Sim 149 14 (ma_if2 .le 20 14 17)) (mt_leaf (ms_pushi (e := (.bipush (-2), 19, 0, 0, 0)) rfl (fun _ _ _ => rfl) (by decide) : mo_Sim 149 17 (ma_push (ma_ci (.negSucc 1)) 19)) (mt_leaf (ms_ret (e := (.ireturn, 20, 0, 0, 0)) rfl (Or.inl ⟨rfl, rfl, (fun _ _ _ => rfl)⟩) : mo_Sim 149 19 (ma_ret 0)) (mt_leaf (ms_ald (e := (.aload_n 0, 21, 0, 0, 0)) rfl (fun _ _ _ => rfl) : mo_Sim 149 20 (ma_lda 0 21)) (mt_none))))
set_option maxRecDepth 100000 in
theorem smt149_10 (k : Nat) : ∀ f, mt149_10 k = some f → mo_Sim 149 k f := mt_leaf (ms_getf (e := (.getfield 75, 24, 12, 7, 1059)) rfl (fun _ _ _ => rfl) : mo_Sim 149 21 (ma_getf 12 7 24)) (mt_leaf (ms_pushi (e := (.bipush 12, 26, 0, 0, 0)) rfl (fun _ _ _ => rfl) (by decide) : mo_Sim 149 24 (ma_push (ma_ci (.ofNat 12)) 26)) (mt_none))
set_option maxRecDepth 100000 in
theorem smt149_11 (k : Nat) : ∀ f, mt149_11 k = some f → mo_Sim 149 k f := mt_leaf (ms_if2 (e := (.if_icmp .ne 6, 29, 32, 0, 0)) rfl (fun _ _ _ => rfl) : mo_Sim 149 26 (ma_if2 .ne 32 26 29)) (mt_leaf (ms_pushi (e := (.bipush (-8), 31, 0, 0, 0)) rfl (fun _ _ _ => rfl) (by decide) : mo_Sim 149 29 (ma_push (ma_ci (.negSucc 7)) 31)) (mt_leaf (ms_ret (e := (.ireturn, 32, 0, 0, 0)) rfl (Or.inl ⟨rfl, rfl, (fun _ _ _ => rfl)⟩) : mo_Sim 149 31 (ma_ret 0)) (mt_none)))
set_option maxRecDepth 100000 in
theorem smt149_9 (k : Nat) : ∀ f, mt149_9 k = some f → mo_Sim 149 k f := mt_node (smt149_10 k) (smt149_11 k)
set_option maxRecDepth 100000 in
theorem smt149_7 (k : Nat) : ∀ f, mt149_7 k = some f → mo_Sim 149 k f := mt_node (smt149_8 k) (smt149_9 k)
set_option maxRecDepth 100000 in
theorem smt149_3 (k : Nat) : ∀ f, mt149_3 k = some f → mo_Sim 149 k f := mt_node (smt149_4 k) (smt149_7 k)
set_option maxRecDepth 100000 in
theorem smt149_14 (k : Nat) : ∀ f, mt149_14 k = some f → mo_Sim 149 k f := mt_leaf (ms_ald (e := (.aload_n 0, 33, 0, 0, 0)) rfl (fun _ _ _ => rfl) : mo_Sim 149 32 (ma_lda 0 33)) (mt_leaf (ms_getf (e := (.getfield 13, 36, 12, 1, 1053)) rfl (fun _ _ _ => rfl) : mo_Sim 149 33 (ma_getf 12 1 36)) (mt_leaf (ms_ild (e := (.iload_n 2, 37, 0, 0, 0)) rfl (fun _ _ _ => rfl) : mo_Sim 149 36 (ma_load 0 2 37)) (mt_leaf (ms_iald (e := (.iaload, 38, 0, 0, 0)) rfl (fun _ _ _ => rfl) : mo_Sim 149 37 (ma_iald 37 38)) (mt_none))))
set_option maxRecDepth 100000 in
theorem smt149_15 (k : Nat) : ∀ f, mt149_15 k = some f → mo_Sim 149 k f := mt_leaf (ms_if0 (e := (.ifCond .ne 6, 41, 44, 0, 0)) rfl (fun _ _ _ => rfl) : mo_Sim 149 38 (ma_if0 .ne 44 38 41)) (mt_leaf (ms_pushi (e := (.bipush (-5), 43, 0, 0, 0)) rfl (fun _ _ _ => rfl) (by decide) : mo_Sim 149 41 (ma_push (ma_ci (.negSucc 4)) 43)) (mt_leaf (ms_ret (e := (.ireturn, 44, 0, 0, 0)) rfl (Or.inl ⟨rfl, rfl, (fun _ _ _ => rfl)⟩) : mo_Sim 149 43 (ma_ret 0)) (mt_leaf (ms_ald (e := (.aload_n 0, 45, 0, 0, 0)) rfl (fun _ _ _ => rfl) : mo_Sim 149 44 (ma_lda 0 45)) (mt_none))))
set_option maxRecDepth 100000 in
theorem smt149_13 (k : Nat) : ∀ f, mt149_13 k = some f → mo_Sim 149 k f := mt_node (smt149_14 k) (smt149_15 k)
set_option maxRecDepth 100000 in
theorem smt149_17 (k : Nat) : ∀ f, mt149_17 k = some f → mo_Sim 149 k f := mt_leaf (ms_getf (e := (.getfield 13, 48, 12, 1, 1053)) rfl (fun _ _ _ => rfl) : mo_Sim 149 45 (ma_getf 12 1 48)) (mt_leaf (ms_ild (e := (.iload_n 2, 49, 0, 0, 0)) rfl (fun _ _ _ => rfl) : mo_Sim 149 48 (ma_load 0 2 49)) (mt_leaf (ms_iald (e := (.iaload, 50, 0, 0, 0)) rfl (fun _ _ _ => rfl) : mo_Sim 149 49 (ma_iald 49 50)) (mt_leaf (ms_pushi (e := (.iconst 1, 51, 0, 0, 0)) rfl (fun _ _ _ => rfl) (by decide) : mo_Sim 149 50 (ma_push (ma_ci (.ofNat 1)) 51)) (mt_none))))
set_option maxRecDepth 100000 in
theorem smt149_19 (k : Nat) : ∀ f, mt149_19 k = some f → mo_Sim 149 k f := mt_leaf (ms_isub (e := (.isub, 52, 0, 0, 0)) rfl (fun _ _ _ => rfl) : mo_Sim 149 51 (ma_isub 51 52)) (mt_leaf (ms_ist (e := (.istore_n 3, 53, 0, 0, 0)) rfl (fun _ _ _ => rfl) : mo_Sim 149 52 (ma_stor 0 3 53)) (mt_none))
set_option maxRecDepth 100000 in
theorem smt149_20 (k : Nat) : ∀ f, mt149_20 k = some f → mo_Sim 149 k f := mt_leaf (ms_ild (e := (.iload_n 3, 54, 0, 0, 0)) rfl (fun _ _ _ => rfl) : mo_Sim 149 53 (ma_load 0 3 54)) (mt_leaf (ms_if0 (e := (.ifCond .ne 6, 57, 60, 0, 0)) rfl (fun _ _ _ => rfl) : mo_Sim 149 54 (ma_if0 .ne 60 54 57)) (mt_leaf (ms_pushi (e := (.bipush (-6), 59, 0, 0, 0)) rfl (fun _ _ _ => rfl) (by decide) : mo_Sim 149 57 (ma_push (ma_ci (.negSucc 5)) 59)) (mt_none)))
set_option maxRecDepth 100000 in
theorem smt149_18 (k : Nat) : ∀ f, mt149_18 k = some f → mo_Sim 149 k f := mt_node (smt149_19 k) (smt149_20 k)
set_option maxRecDepth 100000 in
theorem smt149_16 (k : Nat) : ∀ f, mt149_16 k = some f → mo_Sim 149 k f := mt_node (smt149_17 k) (smt149_18 k)
set_option maxRecDepth 100000 in
theorem smt149_12 (k : Nat) : ∀ f, mt149_12 k = some f → mo_Sim 149 k f := mt_node (smt149_13 k) (smt149_16 k)
set_option maxRecDepth 100000 in
theorem smt149_2 (k : Nat) : ∀ f, mt149_2 k = some f → mo_Sim 149 k f := mt_node (smt149_3 k) (smt149_12 k)
set_option maxRecDepth 100000 in
theorem smt149_24 (k : Nat) : ∀ f, mt149_24 k = some f → mo_Sim 149 k f := mt_leaf (ms_ret (e := (.ireturn, 60, 0, 0, 0)) rfl (Or.inl ⟨rfl, rfl, (fun _ _ _ => rfl)⟩) : mo_Sim 149 59 (ma_ret 0)) (mt_leaf (ms_ald (e := (.aload_n 0, 61, 0, 0, 0)) rfl (fun _ _ _ => rfl) : mo_Sim 149 60 (ma_lda 0 61)) (mt_leaf (ms_getf (e := (.getfield 20, 64, 12, 3, 1055)) rfl (fun _ _ _ => rfl) : mo_Sim 149 61 (ma_getf 12 3 64)) (mt_leaf (ms_pushi (e := (.bipush 40, 66, 0, 0, 0)) rfl (fun _ _ _ => rfl) (by decide) : mo_Sim 149 64 (ma_push (ma_ci (.ofNat 40)) 66)) (mt_none))))
set_option maxRecDepth 100000 in
theorem smt149_25 (k : Nat) : ∀ f, mt149_25 k = some f → mo_Sim 149 k f := mt_leaf (ms_ild (e := (.iload_n 2, 67, 0, 0, 0)) rfl (fun _ _ _ => rfl) : mo_Sim 149 66 (ma_load 0 2 67)) (mt_leaf (ms_i2 (e := (.imul, 68, 0, 0, 0)) rfl (fun _ _ _ => rfl) hf_mul : mo_Sim 149 67 (ma_i2 ma_fmul 67 68)) (mt_leaf (ms_lald (e := (.laload, 69, 0, 0, 0)) rfl (fun _ _ _ => rfl) : mo_Sim 149 68 (ma_lald 69)) (mt_leaf (ms_lst (e := (.lstore 4, 71, 0, 0, 0)) rfl (fun _ _ _ => rfl) : mo_Sim 149 69 (ma_stol 4 71)) (mt_none))))
set_option maxRecDepth 100000 in
theorem smt149_23 (k : Nat) : ∀ f, mt149_23 k = some f → mo_Sim 149 k f := mt_node (smt149_24 k) (smt149_25 k)
set_option maxRecDepth 100000 in
theorem smt149_27 (k : Nat) : ∀ f, mt149_27 k = some f → mo_Sim 149 k f := mt_leaf (ms_lld (e := (.lload 4, 73, 0, 0, 0)) rfl (fun _ _ _ => rfl) : mo_Sim 149 71 (ma_load 2 4 73)) (mt_leaf (ms_pushl (e := (.lconst 0, 74, 0, 0, 0)) rfl (fun _ _ _ => rfl) (by decide) : mo_Sim 149 73 (ma_push (ma_cl (.ofNat 0)) 74)) (mt_leaf (ms_lcmp (e := (.lcmp, 75, 0, 0, 0)) rfl (fun _ _ _ => rfl) : mo_Sim 149 74 (ma_lcmp 75)) (mt_leaf (ms_if0 (e := (.ifCond .lt 12, 78, 87, 0, 0)) rfl (fun _ _ _ => rfl) : mo_Sim 149 75 (ma_if0 .lt 87 75 78)) (mt_none))))
set_option maxRecDepth 100000 in
theorem smt149_29 (k : Nat) : ∀ f, mt149_29 k = some f → mo_Sim 149 k f := mt_leaf (ms_lld (e := (.lload 4, 80, 0, 0, 0)) rfl (fun _ _ _ => rfl) : mo_Sim 149 78 (ma_load 2 4 80)) (mt_leaf (ms_pushl (e := (.ldc2_w 96, 83, 27, 0, 1166)) rfl (fun _ _ _ => rfl) (by decide) : mo_Sim 149 80 (ma_push (ma_cl (.ofNat 27)) 83)) (mt_none))
set_option maxRecDepth 100000 in
theorem smt149_30 (k : Nat) : ∀ f, mt149_30 k = some f → mo_Sim 149 k f := mt_leaf (ms_lcmp (e := (.lcmp, 84, 0, 0, 0)) rfl (fun _ _ _ => rfl) : mo_Sim 149 83 (ma_lcmp 84)) (mt_leaf (ms_if0 (e := (.ifCond .le 6, 87, 90, 0, 0)) rfl (fun _ _ _ => rfl) : mo_Sim 149 84 (ma_if0 .le 90 84 87)) (mt_leaf (ms_pushi (e := (.bipush (-4), 89, 0, 0, 0)) rfl (fun _ _ _ => rfl) (by decide) : mo_Sim 149 87 (ma_push (ma_ci (.negSucc 3)) 89)) (mt_none)))
set_option maxRecDepth 100000 in
theorem smt149_28 (k : Nat) : ∀ f, mt149_28 k = some f → mo_Sim 149 k f := mt_node (smt149_29 k) (smt149_30 k)
set_option maxRecDepth 100000 in
theorem smt149_26 (k : Nat) : ∀ f, mt149_26 k = some f → mo_Sim 149 k f := mt_node (smt149_27 k) (smt149_28 k)
set_option maxRecDepth 100000 in
theorem smt149_22 (k : Nat) : ∀ f, mt149_22 k = some f → mo_Sim 149 k f := mt_node (smt149_23 k) (smt149_26 k)
set_option maxRecDepth 100000 in
theorem smt149_33 (k : Nat) : ∀ f, mt149_33 k = some f → mo_Sim 149 k f := mt_leaf (ms_ret (e := (.ireturn, 90, 0, 0, 0)) rfl (Or.inl ⟨rfl, rfl, (fun _ _ _ => rfl)⟩) : mo_Sim 149 89 (ma_ret 0)) (mt_leaf (ms_pushl (e := (.lconst 0, 91, 0, 0, 0)) rfl (fun _ _ _ => rfl) (by decide) : mo_Sim 149 90 (ma_push (ma_cl (.ofNat 0)) 91)) (mt_leaf (ms_lst (e := (.lstore 6, 93, 0, 0, 0)) rfl (fun _ _ _ => rfl) : mo_Sim 149 91 (ma_stol 6 93)) (mt_leaf (ms_pushi (e := (.iconst 1, 94, 0, 0, 0)) rfl (fun _ _ _ => rfl) (by decide) : mo_Sim 149 93 (ma_push (ma_ci (.ofNat 1)) 94)) (mt_none))))
set_option maxRecDepth 100000 in
theorem smt149_34 (k : Nat) : ∀ f, mt149_34 k = some f → mo_Sim 149 k f := mt_leaf (ms_ist (e := (.istore 8, 96, 0, 0, 0)) rfl (fun _ _ _ => rfl) : mo_Sim 149 94 (ma_stor 0 8 96)) (mt_leaf (ms_pushi (e := (.iconst 0, 97, 0, 0, 0)) rfl (fun _ _ _ => rfl) (by decide) : mo_Sim 149 96 (ma_push (ma_ci (.ofNat 0)) 97)) (mt_leaf (ms_ist (e := (.istore 9, 99, 0, 0, 0)) rfl (fun _ _ _ => rfl) : mo_Sim 149 97 (ma_stor 0 9 99)) (mt_leaf (ms_ild (e := (.iload 9, 101, 0, 0, 0)) rfl (fun _ _ _ => rfl) : mo_Sim 149 99 (ma_load 0 9 101)) (mt_none))))
set_option maxRecDepth 100000 in
theorem smt149_32 (k : Nat) : ∀ f, mt149_32 k = some f → mo_Sim 149 k f := mt_node (smt149_33 k) (smt149_34 k)
set_option maxRecDepth 100000 in
theorem smt149_36 (k : Nat) : ∀ f, mt149_36 k = some f → mo_Sim 149 k f := mt_leaf (ms_i2l (e := (.i2l, 102, 0, 0, 0)) rfl (fun _ _ _ => rfl) : mo_Sim 149 101 (ma_i2l 102)) (mt_leaf (ms_lld (e := (.lload 4, 104, 0, 0, 0)) rfl (fun _ _ _ => rfl) : mo_Sim 149 102 (ma_load 2 4 104)) (mt_leaf (ms_lcmp (e := (.lcmp, 105, 0, 0, 0)) rfl (fun _ _ _ => rfl) : mo_Sim 149 104 (ma_lcmp 105)) (mt_leaf (ms_if0 (e := (.ifCond .ge 93, 108, 198, 0, 0)) rfl (fun _ _ _ => rfl) : mo_Sim 149 105 (ma_if0 .ge 198 105 108)) (mt_none))))
set_option maxRecDepth 100000 in
theorem smt149_38 (k : Nat) : ∀ f, mt149_38 k = some f → mo_Sim 149 k f := mt_leaf (ms_pushi (e := (.iconst 0, 109, 0, 0, 0)) rfl (fun _ _ _ => rfl) (by decide) : mo_Sim 149 108 (ma_push (ma_ci (.ofNat 0)) 109)) (mt_leaf (ms_ist (e := (.istore 10, 111, 0, 0, 0)) rfl (fun _ _ _ => rfl) : mo_Sim 149 109 (ma_stor 0 10 111)) (mt_none))
set_option maxRecDepth 100000 in
theorem smt149_39 (k : Nat) : ∀ f, mt149_39 k = some f → mo_Sim 149 k f := mt_leaf (ms_pushi (e := (.iconst 0, 112, 0, 0, 0)) rfl (fun _ _ _ => rfl) (by decide) : mo_Sim 149 111 (ma_push (ma_ci (.ofNat 0)) 112)) (mt_leaf (ms_ist (e := (.istore 11, 114, 0, 0, 0)) rfl (fun _ _ _ => rfl) : mo_Sim 149 112 (ma_stor 0 11 114)) (mt_leaf (ms_ild (e := (.iload 11, 116, 0, 0, 0)) rfl (fun _ _ _ => rfl) : mo_Sim 149 114 (ma_load 0 11 116)) (mt_none)))
set_option maxRecDepth 100000 in
theorem smt149_37 (k : Nat) : ∀ f, mt149_37 k = some f → mo_Sim 149 k f := mt_node (smt149_38 k) (smt149_39 k)
set_option maxRecDepth 100000 in
theorem smt149_35 (k : Nat) : ∀ f, mt149_35 k = some f → mo_Sim 149 k f := mt_node (smt149_36 k) (smt149_37 k)
set_option maxRecDepth 100000 in
theorem smt149_31 (k : Nat) : ∀ f, mt149_31 k = some f → mo_Sim 149 k f := mt_node (smt149_32 k) (smt149_35 k)
set_option maxRecDepth 100000 in
theorem smt149_21 (k : Nat) : ∀ f, mt149_21 k = some f → mo_Sim 149 k f := mt_node (smt149_22 k) (smt149_31 k)
set_option maxRecDepth 100000 in
theorem smt149_1 (k : Nat) : ∀ f, mt149_1 k = some f → mo_Sim 149 k f := mt_node (smt149_2 k) (smt149_21 k)
set_option maxRecDepth 100000 in
theorem smt149_44 (k : Nat) : ∀ f, mt149_44 k = some f → mo_Sim 149 k f := mt_leaf (ms_ild (e := (.iload_n 1, 117, 0, 0, 0)) rfl (fun _ _ _ => rfl) : mo_Sim 149 116 (ma_load 0 1 117)) (mt_leaf (ms_if2 (e := (.if_icmp .ge 66, 120, 183, 0, 0)) rfl (fun _ _ _ => rfl) : mo_Sim 149 117 (ma_if2 .ge 183 117 120)) (mt_leaf (ms_ild (e := (.iload 8, 122, 0, 0, 0)) rfl (fun _ _ _ => rfl) : mo_Sim 149 120 (ma_load 0 8 122)) (mt_leaf (ms_ild (e := (.iload_n 3, 123, 0, 0, 0)) rfl (fun _ _ _ => rfl) : mo_Sim 149 122 (ma_load 0 3 123)) (mt_none))))
set_option maxRecDepth 100000 in
theorem smt149_45 (k : Nat) : ∀ f, mt149_45 k = some f → mo_Sim 149 k f := mt_leaf (ms_if2 (e := (.if_icmp .lt 6, 126, 129, 0, 0)) rfl (fun _ _ _ => rfl) : mo_Sim 149 123 (ma_if2 .lt 129 123 126)) (mt_leaf (ms_pushi (e := (.bipush (-6), 128, 0, 0, 0)) rfl (fun _ _ _ => rfl) (by decide) : mo_Sim 149 126 (ma_push (ma_ci (.negSucc 5)) 128)) (mt_leaf (ms_ret (e := (.ireturn, 129, 0, 0, 0)) rfl (Or.inl ⟨rfl, rfl, (fun _ _ _ => rfl)⟩) : mo_Sim 149 128 (ma_ret 0)) (mt_leaf (ms_ald (e := (.aload_n 0, 130, 0, 0, 0)) rfl (fun _ _ _ => rfl) : mo_Sim 149 129 (ma_lda 0 130)) (mt_none))))
set_option maxRecDepth 100000 in
theorem smt149_43 (k : Nat) : ∀ f, mt149_43 k = some f → mo_Sim 149 k f := mt_node (smt149_44 k) (smt149_45 k)
set_option maxRecDepth 100000 in
theorem smt149_47 (k : Nat) : ∀ f, mt149_47 k = some f → mo_Sim 149 k f := mt_leaf (ms_ald (e := (.aload_n 0, 131, 0, 0, 0)) rfl (fun _ _ _ => rfl) : mo_Sim 149 130 (ma_lda 0 131)) (mt_leaf (ms_getf (e := (.getfield 20, 134, 12, 3, 1055)) rfl (fun _ _ _ => rfl) : mo_Sim 149 131 (ma_getf 12 3 134)) (mt_leaf (ms_pushi (e := (.bipush 40, 136, 0, 0, 0)) rfl (fun _ _ _ => rfl) (by decide) : mo_Sim 149 134 (ma_push (ma_ci (.ofNat 40)) 136)) (mt_leaf (ms_ild (e := (.iload_n 2, 137, 0, 0, 0)) rfl (fun _ _ _ => rfl) : mo_Sim 149 136 (ma_load 0 2 137)) (mt_none))))
set_option maxRecDepth 100000 in
theorem smt149_49 (k : Nat) : ∀ f, mt149_49 k = some f → mo_Sim 149 k f := mt_leaf (ms_i2 (e := (.imul, 138, 0, 0, 0)) rfl (fun _ _ _ => rfl) hf_mul : mo_Sim 149 137 (ma_i2 ma_fmul 137 138)) (mt_leaf (ms_ild (e := (.iload 8, 140, 0, 0, 0)) rfl (fun _ _ _ => rfl) : mo_Sim 149 138 (ma_load 0 8 140)) (mt_none))
set_option maxRecDepth 100000 in
theorem smt149_50 (k : Nat) : ∀ f, mt149_50 k = some f → mo_Sim 149 k f := mt_leaf (ms_iadd (e := (.iadd, 141, 0, 0, 0)) rfl (fun _ _ _ => rfl) : mo_Sim 149 140 (ma_iadd 140 141)) (mt_leaf (ms_lald (e := (.laload, 142, 0, 0, 0)) rfl (fun _ _ _ => rfl) : mo_Sim 149 141 (ma_lald 142)) (mt_leaf (ms_invV (p := 1) (e := (.invokevirtual 92, 145, 147, 0, 1158)) rfl rfl (fun _ _ _ => rfl) rfl rfl rfl (by decide) : mo_Sim 149 142 (ma_inv 147 2 3 12 145)) (mt_none)))
set_option maxRecDepth 100000 in
theorem smt149_48 (k : Nat) : ∀ f, mt149_48 k = some f → mo_Sim 149 k f := mt_node (smt149_49 k) (smt149_50 k)
set_option maxRecDepth 100000 in
theorem smt149_46 (k : Nat) : ∀ f, mt149_46 k = some f → mo_Sim 149 k f := mt_node (smt149_47 k) (smt149_48 k)
set_option maxRecDepth 100000 in
theorem smt149_42 (k : Nat) : ∀ f, mt149_42 k = some f → mo_Sim 149 k f := mt_node (smt149_43 k) (smt149_46 k)
set_option maxRecDepth 100000 in
theorem smt149_53 (k : Nat) : ∀ f, mt149_53 k = some f → mo_Sim 149 k f := mt_leaf (ms_if0 (e := (.ifCond .ne 6, 148, 151, 0, 0)) rfl (fun _ _ _ => rfl) : mo_Sim 149 145 (ma_if0 .ne 151 145 148)) (mt_leaf (ms_pushi (e := (.bipush (-4), 150, 0, 0, 0)) rfl (fun _ _ _ => rfl) (by decide) : mo_Sim 149 148 (ma_push (ma_ci (.negSucc 3)) 150)) (mt_leaf (ms_ret (e := (.ireturn, 151, 0, 0, 0)) rfl (Or.inl ⟨rfl, rfl, (fun _ _ _ => rfl)⟩) : mo_Sim 149 150 (ma_ret 0)) (mt_leaf (ms_ild (e := (.iload 10, 153, 0, 0, 0)) rfl (fun _ _ _ => rfl) : mo_Sim 149 151 (ma_load 0 10 153)) (mt_none))))
set_option maxRecDepth 100000 in
theorem smt149_54 (k : Nat) : ∀ f, mt149_54 k = some f → mo_Sim 149 k f := mt_leaf (ms_ald (e := (.aload_n 0, 154, 0, 0, 0)) rfl (fun _ _ _ => rfl) : mo_Sim 149 153 (ma_lda 0 154)) (mt_leaf (ms_getf (e := (.getfield 7, 157, 12, 0, 1052)) rfl (fun _ _ _ => rfl) : mo_Sim 149 154 (ma_getf 12 0 157)) (mt_leaf (ms_i2 (e := (.imul, 158, 0, 0, 0)) rfl (fun _ _ _ => rfl) hf_mul : mo_Sim 149 157 (ma_i2 ma_fmul 157 158)) (mt_leaf (ms_ald (e := (.aload_n 0, 159, 0, 0, 0)) rfl (fun _ _ _ => rfl) : mo_Sim 149 158 (ma_lda 0 159)) (mt_none))))
set_option maxRecDepth 100000 in
theorem smt149_52 (k : Nat) : ∀ f, mt149_52 k = some f → mo_Sim 149 k f := mt_node (smt149_53 k) (smt149_54 k)
set_option maxRecDepth 100000 in
theorem smt149_56 (k : Nat) : ∀ f, mt149_56 k = some f → mo_Sim 149 k f := mt_leaf (ms_getf (e := (.getfield 20, 162, 12, 3, 1055)) rfl (fun _ _ _ => rfl) : mo_Sim 149 159 (ma_getf 12 3 162)) (mt_leaf (ms_pushi (e := (.bipush 40, 164, 0, 0, 0)) rfl (fun _ _ _ => rfl) (by decide) : mo_Sim 149 162 (ma_push (ma_ci (.ofNat 40)) 164)) (mt_leaf (ms_ild (e := (.iload_n 2, 165, 0, 0, 0)) rfl (fun _ _ _ => rfl) : mo_Sim 149 164 (ma_load 0 2 165)) (mt_leaf (ms_i2 (e := (.imul, 166, 0, 0, 0)) rfl (fun _ _ _ => rfl) hf_mul : mo_Sim 149 165 (ma_i2 ma_fmul 165 166)) (mt_none))))
set_option maxRecDepth 100000 in
theorem smt149_58 (k : Nat) : ∀ f, mt149_58 k = some f → mo_Sim 149 k f := mt_leaf (ms_ild (e := (.iload 8, 168, 0, 0, 0)) rfl (fun _ _ _ => rfl) : mo_Sim 149 166 (ma_load 0 8 168)) (mt_leaf (ms_iadd (e := (.iadd, 169, 0, 0, 0)) rfl (fun _ _ _ => rfl) : mo_Sim 149 168 (ma_iadd 168 169)) (mt_none))
set_option maxRecDepth 100000 in
theorem smt149_59 (k : Nat) : ∀ f, mt149_59 k = some f → mo_Sim 149 k f := mt_leaf (ms_lald (e := (.laload, 170, 0, 0, 0)) rfl (fun _ _ _ => rfl) : mo_Sim 149 169 (ma_lald 170)) (mt_leaf (ms_l2i (e := (.l2i, 171, 0, 0, 0)) rfl (fun _ _ _ => rfl) : mo_Sim 149 170 (ma_l2i 171)) (mt_leaf (ms_iadd (e := (.iadd, 172, 0, 0, 0)) rfl (fun _ _ _ => rfl) : mo_Sim 149 171 (ma_iadd 171 172)) (mt_none)))
set_option maxRecDepth 100000 in
theorem smt149_57 (k : Nat) : ∀ f, mt149_57 k = some f → mo_Sim 149 k f := mt_node (smt149_58 k) (smt149_59 k)
set_option maxRecDepth 100000 in
theorem smt149_55 (k : Nat) : ∀ f, mt149_55 k = some f → mo_Sim 149 k f := mt_node (smt149_56 k) (smt149_57 k)
set_option maxRecDepth 100000 in
theorem smt149_51 (k : Nat) : ∀ f, mt149_51 k = some f → mo_Sim 149 k f := mt_node (smt149_52 k) (smt149_55 k)
set_option maxRecDepth 100000 in
theorem smt149_41 (k : Nat) : ∀ f, mt149_41 k = some f → mo_Sim 149 k f := mt_node (smt149_42 k) (smt149_51 k)
set_option maxRecDepth 100000 in
theorem smt149_63 (k : Nat) : ∀ f, mt149_63 k = some f → mo_Sim 149 k f := mt_leaf (ms_ist (e := (.istore 10, 174, 0, 0, 0)) rfl (fun _ _ _ => rfl) : mo_Sim 149 172 (ma_stor 0 10 174)) (mt_leaf (ms_iinc (e := (.iinc 8 1, 177, 0, 0, 0)) rfl (fun _ _ _ => rfl) (by decide) : mo_Sim 149 174 (ma_iinc 8 (.ofNat 1) 174 177)) (mt_leaf (ms_iinc (e := (.iinc 11 1, 180, 0, 0, 0)) rfl (fun _ _ _ => rfl) (by decide) : mo_Sim 149 177 (ma_iinc 11 (.ofNat 1) 177 180)) (mt_leaf (ms_goto (e := (.goto (-66), 183, 114, 0, 0)) rfl (fun _ _ _ => rfl) : mo_Sim 149 180 (ma_goto 114)) (mt_none))))
set_option maxRecDepth 100000 in
theorem smt149_64 (k : Nat) : ∀ f, mt149_64 k = some f → mo_Sim 149 k f := mt_leaf (ms_lld (e := (.lload 6, 185, 0, 0, 0)) rfl (fun _ _ _ => rfl) : mo_Sim 149 183 (ma_load 2 6 185)) (mt_leaf (ms_pushl (e := (.lconst 1, 186, 0, 0, 0)) rfl (fun _ _ _ => rfl) (by decide) : mo_Sim 149 185 (ma_push (ma_cl (.ofNat 1)) 186)) (mt_leaf (ms_ild (e := (.iload 10, 188, 0, 0, 0)) rfl (fun _ _ _ => rfl) : mo_Sim 149 186 (ma_load 0 10 188)) (mt_leaf (ms_ls (e := (.lshl, 189, 0, 0, 0)) rfl (fun _ _ _ => rfl) hg_shl : mo_Sim 149 188 (ma_ls ma_gshl 188 189)) (mt_none))))
set_option maxRecDepth 100000 in
theorem smt149_62 (k : Nat) : ∀ f, mt149_62 k = some f → mo_Sim 149 k f := mt_node (smt149_63 k) (smt149_64 k)
set_option maxRecDepth 100000 in
theorem smt149_66 (k : Nat) : ∀ f, mt149_66 k = some f → mo_Sim 149 k f := mt_leaf (ms_l2 (e := (.lor, 190, 0, 0, 0)) rfl (fun _ _ _ => rfl) hg_or : mo_Sim 149 189 (ma_l2 ma_gor 190)) (mt_leaf (ms_lst (e := (.lstore 6, 192, 0, 0, 0)) rfl (fun _ _ _ => rfl) : mo_Sim 149 190 (ma_stol 6 192)) (mt_leaf (ms_iinc (e := (.iinc 9 1, 195, 0, 0, 0)) rfl (fun _ _ _ => rfl) (by decide) : mo_Sim 149 192 (ma_iinc 9 (.ofNat 1) 192 195)) (mt_leaf (ms_goto (e := (.goto (-96), 198, 99, 0, 0)) rfl (fun _ _ _ => rfl) : mo_Sim 149 195 (ma_goto 99)) (mt_none))))
set_option maxRecDepth 100000 in
theorem smt149_68 (k : Nat) : ∀ f, mt149_68 k = some f → mo_Sim 149 k f := mt_leaf (ms_ald (e := (.aload_n 0, 199, 0, 0, 0)) rfl (fun _ _ _ => rfl) : mo_Sim 149 198 (ma_lda 0 199)) (mt_leaf (ms_getf (e := (.getfield 30, 202, 12, 8, 1060)) rfl (fun _ _ _ => rfl) : mo_Sim 149 199 (ma_getf 12 8 202)) (mt_none))
set_option maxRecDepth 100000 in
theorem smt149_69 (k : Nat) : ∀ f, mt149_69 k = some f → mo_Sim 149 k f := mt_leaf (ms_ald (e := (.aload_n 0, 203, 0, 0, 0)) rfl (fun _ _ _ => rfl) : mo_Sim 149 202 (ma_lda 0 203)) (mt_leaf (ms_getf (e := (.getfield 75, 206, 12, 7, 1059)) rfl (fun _ _ _ => rfl) : mo_Sim 149 203 (ma_getf 12 7 206)) (mt_leaf (ms_ild (e := (.iload_n 1, 207, 0, 0, 0)) rfl (fun _ _ _ => rfl) : mo_Sim 149 206 (ma_load 0 1 207)) (mt_none)))
set_option maxRecDepth 100000 in
theorem smt149_67 (k : Nat) : ∀ f, mt149_67 k = some f → mo_Sim 149 k f := mt_node (smt149_68 k) (smt149_69 k)
set_option maxRecDepth 100000 in
theorem smt149_65 (k : Nat) : ∀ f, mt149_65 k = some f → mo_Sim 149 k f := mt_node (smt149_66 k) (smt149_67 k)
set_option maxRecDepth 100000 in
theorem smt149_61 (k : Nat) : ∀ f, mt149_61 k = some f → mo_Sim 149 k f := mt_node (smt149_62 k) (smt149_65 k)
set_option maxRecDepth 100000 in
theorem smt149_72 (k : Nat) : ∀ f, mt149_72 k = some f → mo_Sim 149 k f := mt_leaf (ms_iast (e := (.iastore, 208, 0, 0, 0)) rfl rfl (fun _ _ _ => rfl) : mo_Sim 149 207 (ma_ast 13 0 207 208)) (mt_leaf (ms_ald (e := (.aload_n 0, 209, 0, 0, 0)) rfl (fun _ _ _ => rfl) : mo_Sim 149 208 (ma_lda 0 209)) (mt_leaf (ms_getf (e := (.getfield 33, 212, 12, 9, 1061)) rfl (fun _ _ _ => rfl) : mo_Sim 149 209 (ma_getf 12 9 212)) (mt_leaf (ms_ald (e := (.aload_n 0, 213, 0, 0, 0)) rfl (fun _ _ _ => rfl) : mo_Sim 149 212 (ma_lda 0 213)) (mt_none))))
set_option maxRecDepth 100000 in
theorem smt149_74 (k : Nat) : ∀ f, mt149_74 k = some f → mo_Sim 149 k f := mt_leaf (ms_getf (e := (.getfield 75, 216, 12, 7, 1059)) rfl (fun _ _ _ => rfl) : mo_Sim 149 213 (ma_getf 12 7 216)) (mt_leaf (ms_lld (e := (.lload 6, 218, 0, 0, 0)) rfl (fun _ _ _ => rfl) : mo_Sim 149 216 (ma_load 2 6 218)) (mt_none))
set_option maxRecDepth 100000 in
theorem smt149_75 (k : Nat) : ∀ f, mt149_75 k = some f → mo_Sim 149 k f := mt_leaf (ms_last (e := (.lastore, 219, 0, 0, 0)) rfl rfl (fun _ _ _ => rfl) : mo_Sim 149 218 (ma_ast 14 2 218 219)) (mt_leaf (ms_ald (e := (.aload_n 0, 220, 0, 0, 0)) rfl (fun _ _ _ => rfl) : mo_Sim 149 219 (ma_lda 0 220)) (mt_leaf (ms_dup (e := (.dup, 221, 0, 0, 0)) rfl (fun _ _ _ => rfl) : mo_Sim 149 220 (ma_dup 221)) (mt_none)))
set_option maxRecDepth 100000 in
theorem smt149_73 (k : Nat) : ∀ f, mt149_73 k = some f → mo_Sim 149 k f := mt_node (smt149_74 k) (smt149_75 k)
set_option maxRecDepth 100000 in
theorem smt149_71 (k : Nat) : ∀ f, mt149_71 k = some f → mo_Sim 149 k f := mt_node (smt149_72 k) (smt149_73 k)
set_option maxRecDepth 100000 in
theorem smt149_77 (k : Nat) : ∀ f, mt149_77 k = some f → mo_Sim 149 k f := mt_leaf (ms_getf (e := (.getfield 75, 224, 12, 7, 1059)) rfl (fun _ _ _ => rfl) : mo_Sim 149 221 (ma_getf 12 7 224)) (mt_leaf (ms_pushi (e := (.iconst 1, 225, 0, 0, 0)) rfl (fun _ _ _ => rfl) (by decide) : mo_Sim 149 224 (ma_push (ma_ci (.ofNat 1)) 225)) (mt_leaf (ms_iadd (e := (.iadd, 226, 0, 0, 0)) rfl (fun _ _ _ => rfl) : mo_Sim 149 225 (ma_iadd 225 226)) (mt_leaf (ms_putf (e := (.putfield 75, 229, 12, 7, 1059)) rfl rfl (fun _ _ _ => rfl) (Or.inl ⟨rfl, rfl⟩) : mo_Sim 149 226 (ma_putf 12 7 0 229)) (mt_none))))
set_option maxRecDepth 100000 in
theorem smt149_79 (k : Nat) : ∀ f, mt149_79 k = some f → mo_Sim 149 k f := mt_leaf (ms_ald (e := (.aload_n 0, 230, 0, 0, 0)) rfl (fun _ _ _ => rfl) : mo_Sim 149 229 (ma_lda 0 230)) (mt_leaf (ms_getf (e := (.getfield 75, 233, 12, 7, 1059)) rfl (fun _ _ _ => rfl) : mo_Sim 149 230 (ma_getf 12 7 233)) (mt_none))
set_option maxRecDepth 100000 in
theorem smt149_80 (k : Nat) : ∀ f, mt149_80 k = some f → mo_Sim 149 k f := mt_leaf (ms_pushi (e := (.iconst 1, 234, 0, 0, 0)) rfl (fun _ _ _ => rfl) (by decide) : mo_Sim 149 233 (ma_push (ma_ci (.ofNat 1)) 234)) (mt_leaf (ms_isub (e := (.isub, 235, 0, 0, 0)) rfl (fun _ _ _ => rfl) : mo_Sim 149 234 (ma_isub 234 235)) (mt_leaf (ms_ret (e := (.ireturn, 236, 0, 0, 0)) rfl (Or.inl ⟨rfl, rfl, (fun _ _ _ => rfl)⟩) : mo_Sim 149 235 (ma_ret 0)) (mt_none)))
set_option maxRecDepth 100000 in
theorem smt149_78 (k : Nat) : ∀ f, mt149_78 k = some f → mo_Sim 149 k f := mt_node (smt149_79 k) (smt149_80 k)
set_option maxRecDepth 100000 in
theorem smt149_76 (k : Nat) : ∀ f, mt149_76 k = some f → mo_Sim 149 k f := mt_node (smt149_77 k) (smt149_78 k)
set_option maxRecDepth 100000 in
theorem smt149_70 (k : Nat) : ∀ f, mt149_70 k = some f → mo_Sim 149 k f := mt_node (smt149_71 k) (smt149_76 k)
set_option maxRecDepth 100000 in
theorem smt149_60 (k : Nat) : ∀ f, mt149_60 k = some f → mo_Sim 149 k f := mt_node (smt149_61 k) (smt149_70 k)
set_option maxRecDepth 100000 in
theorem smt149_40 (k : Nat) : ∀ f, mt149_40 k = some f → mo_Sim 149 k f := mt_node (smt149_41 k) (smt149_60 k)
set_option maxRecDepth 100000 in
theorem smt149_0 (k : Nat) : ∀ f, mt149_0 k = some f → mo_Sim 149 k f := mt_node (smt149_1 k) (smt149_40 k)
set_option maxRecDepth 100000 in
theorem smt150_3 (k : Nat) : ∀ f, mt150_3 k = some f → mo_Sim 150 k f := mt_leaf (ms_ild (e := (.iload_n 1, 1, 0, 0, 0)) rfl (fun _ _ _ => rfl) : mo_Sim 150 0 (ma_load 0 1 1)) (mt_leaf (ms_if0 (e := (.ifCond .lt 32, 4, 33, 0, 0)) rfl (fun _ _ _ => rfl) : mo_Sim 150 1 (ma_if0 .lt 33 1 4)) (mt_leaf (ms_ild (e := (.iload_n 1, 5, 0, 0, 0)) rfl (fun _ _ _ => rfl) : mo_Sim 150 4 (ma_load 0 1 5)) (mt_none)))
set_option maxRecDepth 100000 in
theorem smt150_4 (k : Nat) : ∀ f, mt150_4 k = some f → mo_Sim 150 k f := mt_leaf (ms_ald (e := (.aload_n 0, 6, 0, 0, 0)) rfl (fun _ _ _ => rfl) : mo_Sim 150 5 (ma_lda 0 6)) (mt_leaf (ms_getf (e := (.getfield 72, 9, 12, 4, 1056)) rfl (fun _ _ _ => rfl) : mo_Sim 150 6 (ma_getf 12 4 9)) (mt_leaf (ms_if2 (e := (.if_icmp .ge 24, 12, 33, 0, 0)) rfl (fun _ _ _ => rfl) : mo_Sim 150 9 (ma_if2 .ge 33 9 12)) (mt_leaf (ms_ild (e := (.iload_n 2, 13, 0, 0, 0)) rfl (fun _ _ _ => rfl) : mo_Sim 150 12 (ma_load 0 2 13)) (mt_none))))
set_option maxRecDepth 100000 in
theorem smt150_2 (k : Nat) : ∀ f, mt150_2 k = some f → mo_Sim 150 k f := mt_node (smt150_3 k) (smt150_4 k)
set_option maxRecDepth 100000 in
theorem smt150_6 (k : Nat) : ∀ f, mt150_6 k = some f → mo_Sim 150 k f := mt_leaf (ms_if0 (e := (.ifCond .lt 20, 16, 33, 0, 0)) rfl (fun _ _ _ => rfl) : mo_Sim 150 13 (ma_if0 .lt 33 13 16)) (mt_leaf (ms_ild (e := (.iload_n 2, 17, 0, 0, 0)) rfl (fun _ _ _ => rfl) : mo_Sim 150 16 (ma_load 0 2 17)) (mt_leaf (ms_ald (e := (.aload_n 0, 18, 0, 0, 0)) rfl (fun _ _ _ => rfl) : mo_Sim 150 17 (ma_lda 0 18)) (mt_none)))
set_option maxRecDepth 100000 in
theorem smt150_7 (k : Nat) : ∀ f, mt150_7 k = some f → mo_Sim 150 k f := mt_leaf (ms_getf (e := (.getfield 7, 21, 12, 0, 1052)) rfl (fun _ _ _ => rfl) : mo_Sim 150 18 (ma_getf 12 0 21)) (mt_leaf (ms_ald (e := (.aload_n 0, 22, 0, 0, 0)) rfl (fun _ _ _ => rfl) : mo_Sim 150 21 (ma_lda 0 22)) (mt_leaf (ms_getf (e := (.getfield 24, 25, 12, 5, 1057)) rfl (fun _ _ _ => rfl) : mo_Sim 150 22 (ma_getf 12 5 25)) (mt_leaf (ms_ild (e := (.iload_n 1, 26, 0, 0, 0)) rfl (fun _ _ _ => rfl) : mo_Sim 150 25 (ma_load 0 1 26)) (mt_none))))
set_option maxRecDepth 100000 in
theorem smt150_5 (k : Nat) : ∀ f, mt150_5 k = some f → mo_Sim 150 k f := mt_node (smt150_6 k) (smt150_7 k)
set_option maxRecDepth 100000 in
theorem smt150_1 (k : Nat) : ∀ f, mt150_1 k = some f → mo_Sim 150 k f := mt_node (smt150_2 k) (smt150_5 k)
set_option maxRecDepth 100000 in
theorem smt150_10 (k : Nat) : ∀ f, mt150_10 k = some f → mo_Sim 150 k f := mt_leaf (ms_iald (e := (.iaload, 27, 0, 0, 0)) rfl (fun _ _ _ => rfl) : mo_Sim 150 26 (ma_iald 26 27)) (mt_leaf (ms_invS (e := (.invokestatic 88, 30, 140, 1, 1155)) rfl rfl (fun _ _ _ => rfl) rfl rfl : mo_Sim 150 27 (ma_inv 140 2 4 20 30)) (mt_leaf (ms_if2 (e := (.if_icmp .lt 7, 33, 37, 0, 0)) rfl (fun _ _ _ => rfl) : mo_Sim 150 30 (ma_if2 .lt 37 30 33)) (mt_none)))
set_option maxRecDepth 100000 in
theorem smt150_11 (k : Nat) : ∀ f, mt150_11 k = some f → mo_Sim 150 k f := mt_leaf (ms_pushi (e := (.iconst (-1), 34, 0, 0, 0)) rfl (fun _ _ _ => rfl) (by decide) : mo_Sim 150 33 (ma_push (ma_ci (.negSucc 0)) 34)) (mt_leaf (ms_goto (e := (.goto 14, 37, 48, 0, 0)) rfl (fun _ _ _ => rfl) : mo_Sim 150 34 (ma_goto 48)) (mt_leaf (ms_ald (e := (.aload_n 0, 38, 0, 0, 0)) rfl (fun _ _ _ => rfl) : mo_Sim 150 37 (ma_lda 0 38)) (mt_leaf (ms_getf (e := (.getfield 27, 41, 12, 6, 1058)) rfl (fun _ _ _ => rfl) : mo_Sim 150 38 (ma_getf 12 6 41)) (mt_none))))
set_option maxRecDepth 100000 in
theorem smt150_9 (k : Nat) : ∀ f, mt150_9 k = some f → mo_Sim 150 k f := mt_node (smt150_10 k) (smt150_11 k)
set_option maxRecDepth 100000 in
theorem smt150_13 (k : Nat) : ∀ f, mt150_13 k = some f → mo_Sim 150 k f := mt_leaf (ms_pushi (e := (.bipush 27, 43, 0, 0, 0)) rfl (fun _ _ _ => rfl) (by decide) : mo_Sim 150 41 (ma_push (ma_ci (.ofNat 27)) 43)) (mt_leaf (ms_ild (e := (.iload_n 1, 44, 0, 0, 0)) rfl (fun _ _ _ => rfl) : mo_Sim 150 43 (ma_load 0 1 44)) (mt_leaf (ms_i2 (e := (.imul, 45, 0, 0, 0)) rfl (fun _ _ _ => rfl) hf_mul : mo_Sim 150 44 (ma_i2 ma_fmul 44 45)) (mt_none)))
set_option maxRecDepth 100000 in
theorem smt150_14 (k : Nat) : ∀ f, mt150_14 k = some f → mo_Sim 150 k f := mt_leaf (ms_ild (e := (.iload_n 2, 46, 0, 0, 0)) rfl (fun _ _ _ => rfl) : mo_Sim 150 45 (ma_load 0 2 46)) (mt_leaf (ms_iadd (e := (.iadd, 47, 0, 0, 0)) rfl (fun _ _ _ => rfl) : mo_Sim 150 46 (ma_iadd 46 47)) (mt_leaf (ms_iald (e := (.iaload, 48, 0, 0, 0)) rfl (fun _ _ _ => rfl) : mo_Sim 150 47 (ma_iald 47 48)) (mt_leaf (ms_ret (e := (.ireturn, 49, 0, 0, 0)) rfl (Or.inl ⟨rfl, rfl, (fun _ _ _ => rfl)⟩) : mo_Sim 150 48 (ma_ret 0)) (mt_none))))
set_option maxRecDepth 100000 in
theorem smt150_12 (k : Nat) : ∀ f, mt150_12 k = some f → mo_Sim 150 k f := mt_node (smt150_13 k) (smt150_14 k)
set_option maxRecDepth 100000 in
theorem smt150_8 (k : Nat) : ∀ f, mt150_8 k = some f → mo_Sim 150 k f := mt_node (smt150_9 k) (smt150_12 k)
set_option maxRecDepth 100000 in
theorem smt150_0 (k : Nat) : ∀ f, mt150_0 k = some f → mo_Sim 150 k f := mt_node (smt150_1 k) (smt150_8 k)
set_option maxRecDepth 100000 in
theorem smt151_2 (k : Nat) : ∀ f, mt151_2 k = some f → mo_Sim 151 k f := mt_leaf (ms_ild (e := (.iload_n 1, 1, 0, 0, 0)) rfl (fun _ _ _ => rfl) : mo_Sim 151 0 (ma_load 0 1 1)) (mt_leaf (ms_if0 (e := (.ifCond .lt 11, 4, 12, 0, 0)) rfl (fun _ _ _ => rfl) : mo_Sim 151 1 (ma_if0 .lt 12 1 4)) (mt_leaf (ms_ild (e := (.iload_n 1, 5, 0, 0, 0)) rfl (fun _ _ _ => rfl) : mo_Sim 151 4 (ma_load 0 1 5)) (mt_none)))
set_option maxRecDepth 100000 in
theorem smt151_3 (k : Nat) : ∀ f, mt151_3 k = some f → mo_Sim 151 k f := mt_leaf (ms_ald (e := (.aload_n 0, 6, 0, 0, 0)) rfl (fun _ _ _ => rfl) : mo_Sim 151 5 (ma_lda 0 6)) (mt_leaf (ms_getf (e := (.getfield 75, 9, 12, 7, 1059)) rfl (fun _ _ _ => rfl) : mo_Sim 151 6 (ma_getf 12 7 9)) (mt_leaf (ms_if2 (e := (.if_icmp .lt 9, 12, 18, 0, 0)) rfl (fun _ _ _ => rfl) : mo_Sim 151 9 (ma_if2 .lt 18 9 12)) (mt_none)))
set_option maxRecDepth 100000 in
theorem smt151_1 (k : Nat) : ∀ f, mt151_1 k = some f → mo_Sim 151 k f := mt_node (smt151_2 k) (smt151_3 k)
set_option maxRecDepth 100000 in
theorem smt151_5 (k : Nat) : ∀ f, mt151_5 k = some f → mo_Sim 151 k f := mt_leaf (ms_pushl (e := (.ldc2_w 98, 15, 18446744073709551615, 0, 1175)) rfl (fun _ _ _ => rfl) (by decide) : mo_Sim 151 12 (ma_push (ma_cl (.negSucc 0)) 15)) (mt_leaf (ms_goto (e := (.goto 9, 18, 24, 0, 0)) rfl (fun _ _ _ => rfl) : mo_Sim 151 15 (ma_goto 24)) (mt_leaf (ms_ald (e := (.aload_n 0, 19, 0, 0, 0)) rfl (fun _ _ _ => rfl) : mo_Sim 151 18 (ma_lda 0 19)) (mt_none)))
set_option maxRecDepth 100000 in
theorem smt151_6 (k : Nat) : ∀ f, mt151_6 k = some f → mo_Sim 151 k f := mt_leaf (ms_getf (e := (.getfield 33, 22, 12, 9, 1061)) rfl (fun _ _ _ => rfl) : mo_Sim 151 19 (ma_getf 12 9 22)) (mt_leaf (ms_ild (e := (.iload_n 1, 23, 0, 0, 0)) rfl (fun _ _ _ => rfl) : mo_Sim 151 22 (ma_load 0 1 23)) (mt_leaf (ms_lald (e := (.laload, 24, 0, 0, 0)) rfl (fun _ _ _ => rfl) : mo_Sim 151 23 (ma_lald 24)) (mt_leaf (ms_ret (e := (.lreturn, 25, 0, 0, 0)) rfl (Or.inr (Or.inr (Or.inr ⟨rfl, rfl, (fun _ _ _ => rfl)⟩))) : mo_Sim 151 24 (ma_ret 3)) (mt_none))))
set_option maxRecDepth 100000 in
theorem smt151_4 (k : Nat) : ∀ f, mt151_4 k = some f → mo_Sim 151 k f := mt_node (smt151_5 k) (smt151_6 k)
set_option maxRecDepth 100000 in
theorem smt151_0 (k : Nat) : ∀ f, mt151_0 k = some f → mo_Sim 151 k f := mt_node (smt151_1 k) (smt151_4 k)
set_option maxRecDepth 100000 in
theorem smt152_2 (k : Nat) : ∀ f, mt152_2 k = some f → mo_Sim 152 k f := mt_leaf (ms_ild (e := (.iload_n 1, 1, 0, 0, 0)) rfl (fun _ _ _ => rfl) : mo_Sim 152 0 (ma_load 0 1 1)) (mt_leaf (ms_ald (e := (.aload_n 0, 2, 0, 0, 0)) rfl (fun _ _ _ => rfl) : mo_Sim 152 1 (ma_lda 0 2)) (mt_leaf (ms_getf (e := (.getfield 7, 5, 12, 0, 1052)) rfl (fun _ _ _ => rfl) : mo_Sim 152 2 (ma_getf 12 0 5)) (mt_none)))
set_option maxRecDepth 100000 in
theorem smt152_3 (k : Nat) : ∀ f, mt152_3 k = some f → mo_Sim 152 k f := mt_leaf (ms_ild (e := (.iload_n 2, 6, 0, 0, 0)) rfl (fun _ _ _ => rfl) : mo_Sim 152 5 (ma_load 0 2 6)) (mt_leaf (ms_pushi (e := (.iconst 1, 7, 0, 0, 0)) rfl (fun _ _ _ => rfl) (by decide) : mo_Sim 152 6 (ma_push (ma_ci (.ofNat 1)) 7)) (mt_leaf (ms_isub (e := (.isub, 8, 0, 0, 0)) rfl (fun _ _ _ => rfl) : mo_Sim 152 7 (ma_isub 7 8)) (mt_leaf (ms_ild (e := (.iload_n 3, 9, 0, 0, 0)) rfl (fun _ _ _ => rfl) : mo_Sim 152 8 (ma_load 0 3 9)) (mt_none))))
set_option maxRecDepth 100000 in
theorem smt152_1 (k : Nat) : ∀ f, mt152_1 k = some f → mo_Sim 152 k f := mt_node (smt152_2 k) (smt152_3 k)
set_option maxRecDepth 100000 in
theorem smt152_5 (k : Nat) : ∀ f, mt152_5 k = some f → mo_Sim 152 k f := mt_leaf (ms_isub (e := (.isub, 10, 0, 0, 0)) rfl (fun _ _ _ => rfl) : mo_Sim 152 9 (ma_isub 9 10)) (mt_leaf (ms_invS (e := (.invokestatic 88, 13, 140, 1, 1155)) rfl rfl (fun _ _ _ => rfl) rfl rfl : mo_Sim 152 10 (ma_inv 140 2 4 20 13)) (mt_leaf (ms_id (e := (.idiv, 14, 0, 0, 0)) rfl (fun _ _ _ => rfl) hf_div : mo_Sim 152 13 (ma_i2 ma_fdiv 13 14)) (mt_none)))
set_option maxRecDepth 100000 in
theorem smt152_6 (k : Nat) : ∀ f, mt152_6 k = some f → mo_Sim 152 k f := mt_leaf (ms_ald (e := (.aload_n 0, 15, 0, 0, 0)) rfl (fun _ _ _ => rfl) : mo_Sim 152 14 (ma_lda 0 15)) (mt_leaf (ms_getf (e := (.getfield 7, 18, 12, 0, 1052)) rfl (fun _ _ _ => rfl) : mo_Sim 152 15 (ma_getf 12 0 18)) (mt_leaf (ms_id (e := (.irem, 19, 0, 0, 0)) rfl (fun _ _ _ => rfl) hf_rem : mo_Sim 152 18 (ma_i2 ma_frem 18 19)) (mt_leaf (ms_ret (e := (.ireturn, 20, 0, 0, 0)) rfl (Or.inl ⟨rfl, rfl, (fun _ _ _ => rfl)⟩) : mo_Sim 152 19 (ma_ret 0)) (mt_none))))
set_option maxRecDepth 100000 in
theorem smt152_4 (k : Nat) : ∀ f, mt152_4 k = some f → mo_Sim 152 k f := mt_node (smt152_5 k) (smt152_6 k)
set_option maxRecDepth 100000 in
theorem smt152_0 (k : Nat) : ∀ f, mt152_0 k = some f → mo_Sim 152 k f := mt_node (smt152_1 k) (smt152_4 k)
set_option maxRecDepth 100000 in
theorem smt153_4 (k : Nat) : ∀ f, mt153_4 k = some f → mo_Sim 153 k f := mt_leaf (ms_pushi (e := (.iconst 0, 1, 0, 0, 0)) rfl (fun _ _ _ => rfl) (by decide) : mo_Sim 153 0 (ma_push (ma_ci (.ofNat 0)) 1)) (mt_leaf (ms_ist (e := (.istore 8, 3, 0, 0, 0)) rfl (fun _ _ _ => rfl) : mo_Sim 153 1 (ma_stor 0 8 3)) (mt_leaf (ms_ald (e := (.aload_n 0, 4, 0, 0, 0)) rfl (fun _ _ _ => rfl) : mo_Sim 153 3 (ma_lda 0 4)) (mt_leaf (ms_getf (e := (.getfield 7, 7, 12, 0, 1052)) rfl (fun _ _ _ => rfl) : mo_Sim 153 4 (ma_getf 12 0 7)) (mt_none))))
set_option maxRecDepth 100000 in
theorem smt153_5 (k : Nat) : ∀ f, mt153_5 k = some f → mo_Sim 153 k f := mt_leaf (ms_ild (e := (.iload 4, 9, 0, 0, 0)) rfl (fun _ _ _ => rfl) : mo_Sim 153 7 (ma_load 0 4 9)) (mt_leaf (ms_pushi (e := (.iconst 1, 10, 0, 0, 0)) rfl (fun _ _ _ => rfl) (by decide) : mo_Sim 153 9 (ma_push (ma_ci (.ofNat 1)) 10)) (mt_leaf (ms_isub (e := (.isub, 11, 0, 0, 0)) rfl (fun _ _ _ => rfl) : mo_Sim 153 10 (ma_isub 10 11)) (mt_leaf (ms_invS (e := (.invokestatic 88, 14, 140, 1, 1155)) rfl rfl (fun _ _ _ => rfl) rfl rfl : mo_Sim 153 11 (ma_inv 140 2 4 20 14)) (mt_none))))
set_option maxRecDepth 100000 in
theorem smt153_3 (k : Nat) : ∀ f, mt153_3 k = some f → mo_Sim 153 k f := mt_node (smt153_4 k) (smt153_5 k)
set_option maxRecDepth 100000 in
theorem smt153_7 (k : Nat) : ∀ f, mt153_7 k = some f → mo_Sim 153 k f := mt_leaf (ms_ist (e := (.istore 9, 16, 0, 0, 0)) rfl (fun _ _ _ => rfl) : mo_Sim 153 14 (ma_stor 0 9 16)) (mt_leaf (ms_pushi (e := (.iconst 0, 17, 0, 0, 0)) rfl (fun _ _ _ => rfl) (by decide) : mo_Sim 153 16 (ma_push (ma_ci (.ofNat 0)) 17)) (mt_leaf (ms_ist (e := (.istore 10, 19, 0, 0, 0)) rfl (fun _ _ _ => rfl) : mo_Sim 153 17 (ma_stor 0 10 19)) (mt_leaf (ms_ild (e := (.iload 10, 21, 0, 0, 0)) rfl (fun _ _ _ => rfl) : mo_Sim 153 19 (ma_load 0 10 21)) (mt_none))))
set_option maxRecDepth 100000 in
theorem smt153_9 (k : Nat) : ∀ f, mt153_9 k = some f → mo_Sim 153 k f := mt_leaf (ms_ild (e := (.iload 4, 23, 0, 0, 0)) rfl (fun _ _ _ => rfl) : mo_Sim 153 21 (ma_load 0 4 23)) (mt_leaf (ms_if2 (e := (.if_icmp .ge 96, 26, 119, 0, 0)) rfl (fun _ _ _ => rfl) : mo_Sim 153 23 (ma_if2 .ge 119 23 26)) (mt_none))
set_option maxRecDepth 100000 in
theorem smt153_10 (k : Nat) : ∀ f, mt153_10 k = some f → mo_Sim 153 k f := mt_leaf (ms_ild (e := (.iload 5, 28, 0, 0, 0)) rfl (fun _ _ _ => rfl) : mo_Sim 153 26 (ma_load 0 5 28)) (mt_leaf (ms_ild (e := (.iload 9, 30, 0, 0, 0)) rfl (fun _ _ _ => rfl) : mo_Sim 153 28 (ma_load 0 9 30)) (mt_leaf (ms_id (e := (.idiv, 31, 0, 0, 0)) rfl (fun _ _ _ => rfl) hf_div : mo_Sim 153 30 (ma_i2 ma_fdiv 30 31)) (mt_none)))
set_option maxRecDepth 100000 in
theorem smt153_8 (k : Nat) : ∀ f, mt153_8 k = some f → mo_Sim 153 k f := mt_node (smt153_9 k) (smt153_10 k)
set_option maxRecDepth 100000 in
theorem smt153_6 (k : Nat) : ∀ f, mt153_6 k = some f → mo_Sim 153 k f := mt_node (smt153_7 k) (smt153_8 k)
set_option maxRecDepth 100000 in
theorem smt153_2 (k : Nat) : ∀ f, mt153_2 k = some f → mo_Sim 153 k f := mt_node (smt153_3 k) (smt153_6 k)
set_option maxRecDepth 100000 in
theorem smt153_13 (k : Nat) : ∀ f, mt153_13 k = some f → mo_Sim 153 k f := mt_leaf (ms_ald (e := (.aload_n 0, 32, 0, 0, 0)) rfl (fun _ _ _ => rfl) : mo_Sim 153 31 (ma_lda 0 32)) (mt_leaf (ms_getf (e := (.getfield 7, 35, 12, 0, 1052)) rfl (fun _ _ _ => rfl) : mo_Sim 153 32 (ma_getf 12 0 35)) (mt_leaf (ms_id (e := (.irem, 36, 0, 0, 0)) rfl (fun _ _ _ => rfl) hf_rem : mo_Sim 153 35 (ma_i2 ma_frem 35 36)) (mt_leaf (ms_ist (e := (.istore 11, 38, 0, 0, 0)) rfl (fun _ _ _ => rfl) : mo_Sim 153 36 (ma_stor 0 11 38)) (mt_none))))
set_option maxRecDepth 100000 in
theorem smt153_15 (k : Nat) : ∀ f, mt153_15 k = some f → mo_Sim 153 k f := mt_leaf (ms_ild (e := (.iload_n 1, 39, 0, 0, 0)) rfl (fun _ _ _ => rfl) : mo_Sim 153 38 (ma_load 0 1 39)) (mt_leaf (ms_pushi (e := (.iconst 1, 40, 0, 0, 0)) rfl (fun _ _ _ => rfl) (by decide) : mo_Sim 153 39 (ma_push (ma_ci (.ofNat 1)) 40)) (mt_none))
set_option maxRecDepth 100000 in
theorem smt153_16 (k : Nat) : ∀ f, mt153_16 k = some f → mo_Sim 153 k f := mt_leaf (ms_if2 (e := (.if_icmp .le 23, 43, 63, 0, 0)) rfl (fun _ _ _ => rfl) : mo_Sim 153 40 (ma_if2 .le 63 40 43)) (mt_leaf (ms_ild (e := (.iload 11, 45, 0, 0, 0)) rfl (fun _ _ _ => rfl) : mo_Sim 153 43 (ma_load 0 11 45)) (mt_leaf (ms_ald (e := (.aload_n 0, 46, 0, 0, 0)) rfl (fun _ _ _ => rfl) : mo_Sim 153 45 (ma_lda 0 46)) (mt_none)))
set_option maxRecDepth 100000 in
theorem smt153_14 (k : Nat) : ∀ f, mt153_14 k = some f → mo_Sim 153 k f := mt_node (smt153_15 k) (smt153_16 k)
set_option maxRecDepth 100000 in
theorem smt153_12 (k : Nat) : ∀ f, mt153_12 k = some f → mo_Sim 153 k f := mt_node (smt153_13 k) (smt153_14 k)
set_option maxRecDepth 100000 in
theorem smt153_18 (k : Nat) : ∀ f, mt153_18 k = some f → mo_Sim 153 k f := mt_leaf (ms_getf (e := (.getfield 7, 49, 12, 0, 1052)) rfl (fun _ _ _ => rfl) : mo_Sim 153 46 (ma_getf 12 0 49)) (mt_leaf (ms_i2 (e := (.imul, 50, 0, 0, 0)) rfl (fun _ _ _ => rfl) hf_mul : mo_Sim 153 49 (ma_i2 ma_fmul 49 50)) (mt_leaf (ms_ild (e := (.iload 6, 52, 0, 0, 0)) rfl (fun _ _ _ => rfl) : mo_Sim 153 50 (ma_load 0 6 52)) (mt_leaf (ms_ild (e := (.iload 9, 54, 0, 0, 0)) rfl (fun _ _ _ => rfl) : mo_Sim 153 52 (ma_load 0 9 54)) (mt_none))))
set_option maxRecDepth 100000 in
theorem smt153_20 (k : Nat) : ∀ f, mt153_20 k = some f → mo_Sim 153 k f := mt_leaf (ms_id (e := (.idiv, 55, 0, 0, 0)) rfl (fun _ _ _ => rfl) hf_div : mo_Sim 153 54 (ma_i2 ma_fdiv 54 55)) (mt_leaf (ms_ald (e := (.aload_n 0, 56, 0, 0, 0)) rfl (fun _ _ _ => rfl) : mo_Sim 153 55 (ma_lda 0 56)) (mt_none))
set_option maxRecDepth 100000 in
theorem smt153_21 (k : Nat) : ∀ f, mt153_21 k = some f → mo_Sim 153 k f := mt_leaf (ms_getf (e := (.getfield 7, 59, 12, 0, 1052)) rfl (fun _ _ _ => rfl) : mo_Sim 153 56 (ma_getf 12 0 59)) (mt_leaf (ms_id (e := (.irem, 60, 0, 0, 0)) rfl (fun _ _ _ => rfl) hf_rem : mo_Sim 153 59 (ma_i2 ma_frem 59 60)) (mt_leaf (ms_iadd (e := (.iadd, 61, 0, 0, 0)) rfl (fun _ _ _ => rfl) : mo_Sim 153 60 (ma_iadd 60 61)) (mt_none)))
set_option maxRecDepth 100000 in
theorem smt153_19 (k : Nat) : ∀ f, mt153_19 k = some f → mo_Sim 153 k f := mt_node (smt153_20 k) (smt153_21 k)
set_option maxRecDepth 100000 in
theorem smt153_17 (k : Nat) : ∀ f, mt153_17 k = some f → mo_Sim 153 k f := mt_node (smt153_18 k) (smt153_19 k)
set_option maxRecDepth 100000 in
theorem smt153_11 (k : Nat) : ∀ f, mt153_11 k = some f → mo_Sim 153 k f := mt_node (smt153_12 k) (smt153_17 k)
set_option maxRecDepth 100000 in
theorem smt153_1 (k : Nat) : ∀ f, mt153_1 k = some f → mo_Sim 153 k f := mt_node (smt153_2 k) (smt153_11 k)
set_option maxRecDepth 100000 in
theorem smt153_25 (k : Nat) : ∀ f, mt153_25 k = some f → mo_Sim 153 k f := mt_leaf (ms_ist (e := (.istore 11, 63, 0, 0, 0)) rfl (fun _ _ _ => rfl) : mo_Sim 153 61 (ma_stor 0 11 63)) (mt_leaf (ms_ild (e := (.iload_n 1, 64, 0, 0, 0)) rfl (fun _ _ _ => rfl) : mo_Sim 153 63 (ma_load 0 1 64)) (mt_leaf (ms_pushi (e := (.iconst 2, 65, 0, 0, 0)) rfl (fun _ _ _ => rfl) (by decide) : mo_Sim 153 64 (ma_push (ma_ci (.ofNat 2)) 65)) (mt_leaf (ms_if2 (e := (.if_icmp .le 23, 68, 88, 0, 0)) rfl (fun _ _ _ => rfl) : mo_Sim 153 65 (ma_if2 .le 88 65 68)) (mt_none))))
set_option maxRecDepth 100000 in
theorem smt153_27 (k : Nat) : ∀ f, mt153_27 k = some f → mo_Sim 153 k f := mt_leaf (ms_ild (e := (.iload 11, 70, 0, 0, 0)) rfl (fun _ _ _ => rfl) : mo_Sim 153 68 (ma_load 0 11 70)) (mt_leaf (ms_ald (e := (.aload_n 0, 71, 0, 0, 0)) rfl (fun _ _ _ => rfl) : mo_Sim 153 70 (ma_lda 0 71)) (mt_none))
set_option maxRecDepth 100000 in
theorem smt153_28 (k : Nat) : ∀ f, mt153_28 k = some f → mo_Sim 153 k f := mt_leaf (ms_getf (e := (.getfield 7, 74, 12, 0, 1052)) rfl (fun _ _ _ => rfl) : mo_Sim 153 71 (ma_getf 12 0 74)) (mt_leaf (ms_i2 (e := (.imul, 75, 0, 0, 0)) rfl (fun _ _ _ => rfl) hf_mul : mo_Sim 153 74 (ma_i2 ma_fmul 74 75)) (mt_leaf (ms_ild (e := (.iload 7, 77, 0, 0, 0)) rfl (fun _ _ _ => rfl) : mo_Sim 153 75 (ma_load 0 7 77)) (mt_none)))
set_option maxRecDepth 100000 in
theorem smt153_26 (k : Nat) : ∀ f, mt153_26 k = some f → mo_Sim 153 k f := mt_node (smt153_27 k) (smt153_28 k)
set_option maxRecDepth 100000 in
theorem smt153_24 (k : Nat) : ∀ f, mt153_24 k = some f → mo_Sim 153 k f := mt_node (smt153_25 k) (smt153_26 k)
set_option maxRecDepth 100000 in
theorem smt153_30 (k : Nat) : ∀ f, mt153_30 k = some f → mo_Sim 153 k f := mt_leaf (ms_ild (e := (.iload 9, 79, 0, 0, 0)) rfl (fun _ _ _ => rfl) : mo_Sim 153 77 (ma_load 0 9 79)) (mt_leaf (ms_id (e := (.idiv, 80, 0, 0, 0)) rfl (fun _ _ _ => rfl) hf_div : mo_Sim 153 79 (ma_i2 ma_fdiv 79 80)) (mt_leaf (ms_ald (e := (.aload_n 0, 81, 0, 0, 0)) rfl (fun _ _ _ => rfl) : mo_Sim 153 80 (ma_lda 0 81)) (mt_leaf (ms_getf (e := (.getfield 7, 84, 12, 0, 1052)) rfl (fun _ _ _ => rfl) : mo_Sim 153 81 (ma_getf 12 0 84)) (mt_none))))
set_option maxRecDepth 100000 in
theorem smt153_32 (k : Nat) : ∀ f, mt153_32 k = some f → mo_Sim 153 k f := mt_leaf (ms_id (e := (.irem, 85, 0, 0, 0)) rfl (fun _ _ _ => rfl) hf_rem : mo_Sim 153 84 (ma_i2 ma_frem 84 85)) (mt_leaf (ms_iadd (e := (.iadd, 86, 0, 0, 0)) rfl (fun _ _ _ => rfl) : mo_Sim 153 85 (ma_iadd 85 86)) (mt_none))
set_option maxRecDepth 100000 in
theorem smt153_33 (k : Nat) : ∀ f, mt153_33 k = some f → mo_Sim 153 k f := mt_leaf (ms_ist (e := (.istore 11, 88, 0, 0, 0)) rfl (fun _ _ _ => rfl) : mo_Sim 153 86 (ma_stor 0 11 88)) (mt_leaf (ms_ild (e := (.iload 8, 90, 0, 0, 0)) rfl (fun _ _ _ => rfl) : mo_Sim 153 88 (ma_load 0 8 90)) (mt_leaf (ms_ald (e := (.aload_n 0, 91, 0, 0, 0)) rfl (fun _ _ _ => rfl) : mo_Sim 153 90 (ma_lda 0 91)) (mt_none)))
set_option maxRecDepth 100000 in
theorem smt153_31 (k : Nat) : ∀ f, mt153_31 k = some f → mo_Sim 153 k f := mt_node (smt153_32 k) (smt153_33 k)
set_option maxRecDepth 100000 in
theorem smt153_29 (k : Nat) : ∀ f, mt153_29 k = some f → mo_Sim 153 k f := mt_node (smt153_30 k) (smt153_31 k)
set_option maxRecDepth 100000 in
theorem smt153_23 (k : Nat) : ∀ f, mt153_23 k = some f → mo_Sim 153 k f := mt_node (smt153_24 k) (smt153_29 k)
set_option maxRecDepth 100000 in
theorem smt153_36 (k : Nat) : ∀ f, mt153_36 k = some f → mo_Sim 153 k f := mt_leaf (ms_getf (e := (.getfield 7, 94, 12, 0, 1052)) rfl (fun _ _ _ => rfl) : mo_Sim 153 91 (ma_getf 12 0 94)) (mt_leaf (ms_i2 (e := (.imul, 95, 0, 0, 0)) rfl (fun _ _ _ => rfl) hf_mul : mo_Sim 153 94 (ma_i2 ma_fmul 94 95)) (mt_leaf (ms_ald (e := (.aload_n 2, 96, 0, 0, 0)) rfl (fun _ _ _ => rfl) : mo_Sim 153 95 (ma_lda 2 96)) (mt_leaf (ms_ild (e := (.iload_n 3, 97, 0, 0, 0)) rfl (fun _ _ _ => rfl) : mo_Sim 153 96 (ma_load 0 3 97)) (mt_none))))
set_option maxRecDepth 100000 in
theorem smt153_38 (k : Nat) : ∀ f, mt153_38 k = some f → mo_Sim 153 k f := mt_leaf (ms_ild (e := (.iload 11, 99, 0, 0, 0)) rfl (fun _ _ _ => rfl) : mo_Sim 153 97 (ma_load 0 11 99)) (mt_leaf (ms_iadd (e := (.iadd, 100, 0, 0, 0)) rfl (fun _ _ _ => rfl) : mo_Sim 153 99 (ma_iadd 99 100)) (mt_none))
set_option maxRecDepth 100000 in
theorem smt153_39 (k : Nat) : ∀ f, mt153_39 k = some f → mo_Sim 153 k f := mt_leaf (ms_iald (e := (.iaload, 101, 0, 0, 0)) rfl (fun _ _ _ => rfl) : mo_Sim 153 100 (ma_iald 100 101)) (mt_leaf (ms_iadd (e := (.iadd, 102, 0, 0, 0)) rfl (fun _ _ _ => rfl) : mo_Sim 153 101 (ma_iadd 101 102)) (mt_leaf (ms_ist (e := (.istore 8, 104, 0, 0, 0)) rfl (fun _ _ _ => rfl) : mo_Sim 153 102 (ma_stor 0 8 104)) (mt_none)))
set_option maxRecDepth 100000 in
theorem smt153_37 (k : Nat) : ∀ f, mt153_37 k = some f → mo_Sim 153 k f := mt_node (smt153_38 k) (smt153_39 k)
set_option maxRecDepth 100000 in
theorem smt153_35 (k : Nat) : ∀ f, mt153_35 k = some f → mo_Sim 153 k f := mt_node (smt153_36 k) (smt153_37 k)
set_option maxRecDepth 100000 in
theorem smt153_41 (k : Nat) : ∀ f, mt153_41 k = some f → mo_Sim 153 k f := mt_leaf (ms_ild (e := (.iload 9, 106, 0, 0, 0)) rfl (fun _ _ _ => rfl) : mo_Sim 153 104 (ma_load 0 9 106)) (mt_leaf (ms_ald (e := (.aload_n 0, 107, 0, 0, 0)) rfl (fun _ _ _ => rfl) : mo_Sim 153 106 (ma_lda 0 107)) (mt_leaf (ms_getf (e := (.getfield 7, 110, 12, 0, 1052)) rfl (fun _ _ _ => rfl) : mo_Sim 153 107 (ma_getf 12 0 110)) (mt_leaf (ms_id (e := (.idiv, 111, 0, 0, 0)) rfl (fun _ _ _ => rfl) hf_div : mo_Sim 153 110 (ma_i2 ma_fdiv 110 111)) (mt_none))))
set_option maxRecDepth 100000 in
theorem smt153_43 (k : Nat) : ∀ f, mt153_43 k = some f → mo_Sim 153 k f := mt_leaf (ms_ist (e := (.istore 9, 113, 0, 0, 0)) rfl (fun _ _ _ => rfl) : mo_Sim 153 111 (ma_stor 0 9 113)) (mt_leaf (ms_iinc (e := (.iinc 10 1, 116, 0, 0, 0)) rfl (fun _ _ _ => rfl) (by decide) : mo_Sim 153 113 (ma_iinc 10 (.ofNat 1) 113 116)) (mt_none))
set_option maxRecDepth 100000 in
theorem smt153_44 (k : Nat) : ∀ f, mt153_44 k = some f → mo_Sim 153 k f := mt_leaf (ms_goto (e := (.goto (-97), 119, 19, 0, 0)) rfl (fun _ _ _ => rfl) : mo_Sim 153 116 (ma_goto 19)) (mt_leaf (ms_ild (e := (.iload 8, 121, 0, 0, 0)) rfl (fun _ _ _ => rfl) : mo_Sim 153 119 (ma_load 0 8 121)) (mt_leaf (ms_ret (e := (.ireturn, 122, 0, 0, 0)) rfl (Or.inl ⟨rfl, rfl, (fun _ _ _ => rfl)⟩) : mo_Sim 153 121 (ma_ret 0)) (mt_none)))
set_option maxRecDepth 100000 in
theorem smt153_42 (k : Nat) : ∀ f, mt153_42 k = some f → mo_Sim 153 k f := mt_node (smt153_43 k) (smt153_44 k)
set_option maxRecDepth 100000 in
theorem smt153_40 (k : Nat) : ∀ f, mt153_40 k = some f → mo_Sim 153 k f := mt_node (smt153_41 k) (smt153_42 k)
set_option maxRecDepth 100000 in
theorem smt153_34 (k : Nat) : ∀ f, mt153_34 k = some f → mo_Sim 153 k f := mt_node (smt153_35 k) (smt153_40 k)
set_option maxRecDepth 100000 in
theorem smt153_22 (k : Nat) : ∀ f, mt153_22 k = some f → mo_Sim 153 k f := mt_node (smt153_23 k) (smt153_34 k)
set_option maxRecDepth 100000 in
theorem smt153_0 (k : Nat) : ∀ f, mt153_0 k = some f → mo_Sim 153 k f := mt_node (smt153_1 k) (smt153_22 k)
set_option maxRecDepth 100000 in
theorem smt154_5 (k : Nat) : ∀ f, mt154_5 k = some f → mo_Sim 154 k f := mt_leaf (ms_ald (e := (.aload_n 0, 1, 0, 0, 0)) rfl (fun _ _ _ => rfl) : mo_Sim 154 0 (ma_lda 0 1)) (mt_leaf (ms_getf (e := (.getfield 7, 4, 12, 0, 1052)) rfl (fun _ _ _ => rfl) : mo_Sim 154 1 (ma_getf 12 0 4)) (mt_none))
set_option maxRecDepth 100000 in
theorem smt154_6 (k : Nat) : ∀ f, mt154_6 k = some f → mo_Sim 154 k f := mt_leaf (ms_ild (e := (.iload 4, 6, 0, 0, 0)) rfl (fun _ _ _ => rfl) : mo_Sim 154 4 (ma_load 0 4 6)) (mt_leaf (ms_invS (e := (.invokestatic 88, 9, 140, 1, 1155)) rfl rfl (fun _ _ _ => rfl) rfl rfl : mo_Sim 154 6 (ma_inv 140 2 4 20 9)) (mt_leaf (ms_ist (e := (.istore 7, 11, 0, 0, 0)) rfl (fun _ _ _ => rfl) : mo_Sim 154 9 (ma_stor 0 7 11)) (mt_none)))
set_option maxRecDepth 100000 in
theorem smt154_4 (k : Nat) : ∀ f, mt154_4 k = some f → mo_Sim 154 k f := mt_node (smt154_5 k) (smt154_6 k)
set_option maxRecDepth 100000 in
theorem smt154_8 (k : Nat) : ∀ f, mt154_8 k = some f → mo_Sim 154 k f := mt_leaf (ms_pushi (e := (.iconst 0, 12, 0, 0, 0)) rfl (fun _ _ _ => rfl) (by decide) : mo_Sim 154 11 (ma_push (ma_ci (.ofNat 0)) 12)) (mt_leaf (ms_ist (e := (.istore 8, 14, 0, 0, 0)) rfl (fun _ _ _ => rfl) : mo_Sim 154 12 (ma_stor 0 8 14)) (mt_leaf (ms_ild (e := (.iload 8, 16, 0, 0, 0)) rfl (fun _ _ _ => rfl) : mo_Sim 154 14 (ma_load 0 8 16)) (mt_none)))
set_option maxRecDepth 100000 in
theorem smt154_9 (k : Nat) : ∀ f, mt154_9 k = some f → mo_Sim 154 k f := mt_leaf (ms_ild (e := (.iload 7, 18, 0, 0, 0)) rfl (fun _ _ _ => rfl) : mo_Sim 154 16 (ma_load 0 7 18)) (mt_leaf (ms_if2 (e := (.if_icmp .ge 146, 21, 164, 0, 0)) rfl (fun _ _ _ => rfl) : mo_Sim 154 18 (ma_if2 .ge 164 18 21)) (mt_leaf (ms_lld (e := (.lload 5, 23, 0, 0, 0)) rfl (fun _ _ _ => rfl) : mo_Sim 154 21 (ma_load 2 5 23)) (mt_none)))
set_option maxRecDepth 100000 in
theorem smt154_7 (k : Nat) : ∀ f, mt154_7 k = some f → mo_Sim 154 k f := mt_node (smt154_8 k) (smt154_9 k)
set_option maxRecDepth 100000 in
theorem smt154_3 (k : Nat) : ∀ f, mt154_3 k = some f → mo_Sim 154 k f := mt_node (smt154_4 k) (smt154_7 k)
set_option maxRecDepth 100000 in
theorem smt154_12 (k : Nat) : ∀ f, mt154_12 k = some f → mo_Sim 154 k f := mt_leaf (ms_ild (e := (.iload 8, 25, 0, 0, 0)) rfl (fun _ _ _ => rfl) : mo_Sim 154 23 (ma_load 0 8 25)) (mt_leaf (ms_ls (e := (.lshr, 26, 0, 0, 0)) rfl (fun _ _ _ => rfl) hg_shr : mo_Sim 154 25 (ma_ls ma_gshr 25 26)) (mt_none))
set_option maxRecDepth 100000 in
theorem smt154_13 (k : Nat) : ∀ f, mt154_13 k = some f → mo_Sim 154 k f := mt_leaf (ms_pushl (e := (.lconst 1, 27, 0, 0, 0)) rfl (fun _ _ _ => rfl) (by decide) : mo_Sim 154 26 (ma_push (ma_cl (.ofNat 1)) 27)) (mt_leaf (ms_l2 (e := (.land, 28, 0, 0, 0)) rfl (fun _ _ _ => rfl) hg_and : mo_Sim 154 27 (ma_l2 ma_gand 28)) (mt_leaf (ms_pushl (e := (.lconst 0, 29, 0, 0, 0)) rfl (fun _ _ _ => rfl) (by decide) : mo_Sim 154 28 (ma_push (ma_cl (.ofNat 0)) 29)) (mt_none)))
set_option maxRecDepth 100000 in
theorem smt154_11 (k : Nat) : ∀ f, mt154_11 k = some f → mo_Sim 154 k f := mt_node (smt154_12 k) (smt154_13 k)
set_option maxRecDepth 100000 in
theorem smt154_15 (k : Nat) : ∀ f, mt154_15 k = some f → mo_Sim 154 k f := mt_leaf (ms_lcmp (e := (.lcmp, 30, 0, 0, 0)) rfl (fun _ _ _ => rfl) : mo_Sim 154 29 (ma_lcmp 30)) (mt_leaf (ms_if0 (e := (.ifCond .ne 6, 33, 36, 0, 0)) rfl (fun _ _ _ => rfl) : mo_Sim 154 30 (ma_if0 .ne 36 30 33)) (mt_leaf (ms_goto (e := (.goto 125, 36, 158, 0, 0)) rfl (fun _ _ _ => rfl) : mo_Sim 154 33 (ma_goto 158)) (mt_none)))
set_option maxRecDepth 100000 in
theorem smt154_16 (k : Nat) : ∀ f, mt154_16 k = some f → mo_Sim 154 k f := mt_leaf (ms_pushi (e := (.iconst 0, 37, 0, 0, 0)) rfl (fun _ _ _ => rfl) (by decide) : mo_Sim 154 36 (ma_push (ma_ci (.ofNat 0)) 37)) (mt_leaf (ms_ist (e := (.istore 9, 39, 0, 0, 0)) rfl (fun _ _ _ => rfl) : mo_Sim 154 37 (ma_stor 0 9 39)) (mt_leaf (ms_ild (e := (.iload 9, 41, 0, 0, 0)) rfl (fun _ _ _ => rfl) : mo_Sim 154 39 (ma_load 0 9 41)) (mt_none)))
set_option maxRecDepth 100000 in
theorem smt154_14 (k : Nat) : ∀ f, mt154_14 k = some f → mo_Sim 154 k f := mt_node (smt154_15 k) (smt154_16 k)
set_option maxRecDepth 100000 in
theorem smt154_10 (k : Nat) : ∀ f, mt154_10 k = some f → mo_Sim 154 k f := mt_node (smt154_11 k) (smt154_14 k)
set_option maxRecDepth 100000 in
theorem smt154_2 (k : Nat) : ∀ f, mt154_2 k = some f → mo_Sim 154 k f := mt_node (smt154_3 k) (smt154_10 k)
set_option maxRecDepth 100000 in
theorem smt154_20 (k : Nat) : ∀ f, mt154_20 k = some f → mo_Sim 154 k f := mt_leaf (ms_ild (e := (.iload_n 1, 42, 0, 0, 0)) rfl (fun _ _ _ => rfl) : mo_Sim 154 41 (ma_load 0 1 42)) (mt_leaf (ms_pushi (e := (.iconst 1, 43, 0, 0, 0)) rfl (fun _ _ _ => rfl) (by decide) : mo_Sim 154 42 (ma_push (ma_ci (.ofNat 1)) 43)) (mt_none))
set_option maxRecDepth 100000 in
theorem smt154_21 (k : Nat) : ∀ f, mt154_21 k = some f → mo_Sim 154 k f := mt_leaf (ms_if2 (e := (.if_icmp .le 8, 46, 51, 0, 0)) rfl (fun _ _ _ => rfl) : mo_Sim 154 43 (ma_if2 .le 51 43 46)) (mt_leaf (ms_ild (e := (.iload 7, 48, 0, 0, 0)) rfl (fun _ _ _ => rfl) : mo_Sim 154 46 (ma_load 0 7 48)) (mt_leaf (ms_goto (e := (.goto 4, 51, 52, 0, 0)) rfl (fun _ _ _ => rfl) : mo_Sim 154 48 (ma_goto 52)) (mt_none)))
set_option maxRecDepth 100000 in
theorem smt154_19 (k : Nat) : ∀ f, mt154_19 k = some f → mo_Sim 154 k f := mt_node (smt154_20 k) (smt154_21 k)
set_option maxRecDepth 100000 in
theorem smt154_23 (k : Nat) : ∀ f, mt154_23 k = some f → mo_Sim 154 k f := mt_leaf (ms_pushi (e := (.iconst 1, 52, 0, 0, 0)) rfl (fun _ _ _ => rfl) (by decide) : mo_Sim 154 51 (ma_push (ma_ci (.ofNat 1)) 52)) (mt_leaf (ms_if2 (e := (.if_icmp .ge 106, 55, 158, 0, 0)) rfl (fun _ _ _ => rfl) : mo_Sim 154 52 (ma_if2 .ge 158 52 55)) (mt_leaf (ms_ild (e := (.iload_n 1, 56, 0, 0, 0)) rfl (fun _ _ _ => rfl) : mo_Sim 154 55 (ma_load 0 1 56)) (mt_none)))
set_option maxRecDepth 100000 in
theorem smt154_24 (k : Nat) : ∀ f, mt154_24 k = some f → mo_Sim 154 k f := mt_leaf (ms_pushi (e := (.iconst 1, 57, 0, 0, 0)) rfl (fun _ _ _ => rfl) (by decide) : mo_Sim 154 56 (ma_push (ma_ci (.ofNat 1)) 57)) (mt_leaf (ms_if2 (e := (.if_icmp .le 18, 60, 75, 0, 0)) rfl (fun _ _ _ => rfl) : mo_Sim 154 57 (ma_if2 .le 75 57 60)) (mt_leaf (ms_lld (e := (.lload 5, 62, 0, 0, 0)) rfl (fun _ _ _ => rfl) : mo_Sim 154 60 (ma_load 2 5 62)) (mt_none)))
set_option maxRecDepth 100000 in
theorem smt154_22 (k : Nat) : ∀ f, mt154_22 k = some f → mo_Sim 154 k f := mt_node (smt154_23 k) (smt154_24 k)
set_option maxRecDepth 100000 in
theorem smt154_18 (k : Nat) : ∀ f, mt154_18 k = some f → mo_Sim 154 k f := mt_node (smt154_19 k) (smt154_22 k)
set_option maxRecDepth 100000 in
theorem smt154_27 (k : Nat) : ∀ f, mt154_27 k = some f → mo_Sim 154 k f := mt_leaf (ms_ild (e := (.iload 9, 64, 0, 0, 0)) rfl (fun _ _ _ => rfl) : mo_Sim 154 62 (ma_load 0 9 64)) (mt_leaf (ms_ls (e := (.lshr, 65, 0, 0, 0)) rfl (fun _ _ _ => rfl) hg_shr : mo_Sim 154 64 (ma_ls ma_gshr 64 65)) (mt_leaf (ms_pushl (e := (.lconst 1, 66, 0, 0, 0)) rfl (fun _ _ _ => rfl) (by decide) : mo_Sim 154 65 (ma_push (ma_cl (.ofNat 1)) 66)) (mt_none)))
set_option maxRecDepth 100000 in
theorem smt154_28 (k : Nat) : ∀ f, mt154_28 k = some f → mo_Sim 154 k f := mt_leaf (ms_l2 (e := (.land, 67, 0, 0, 0)) rfl (fun _ _ _ => rfl) hg_and : mo_Sim 154 66 (ma_l2 ma_gand 67)) (mt_leaf (ms_pushl (e := (.lconst 0, 68, 0, 0, 0)) rfl (fun _ _ _ => rfl) (by decide) : mo_Sim 154 67 (ma_push (ma_cl (.ofNat 0)) 68)) (mt_leaf (ms_lcmp (e := (.lcmp, 69, 0, 0, 0)) rfl (fun _ _ _ => rfl) : mo_Sim 154 68 (ma_lcmp 69)) (mt_none)))
set_option maxRecDepth 100000 in
theorem smt154_26 (k : Nat) : ∀ f, mt154_26 k = some f → mo_Sim 154 k f := mt_node (smt154_27 k) (smt154_28 k)
set_option maxRecDepth 100000 in
theorem smt154_30 (k : Nat) : ∀ f, mt154_30 k = some f → mo_Sim 154 k f := mt_leaf (ms_if0 (e := (.ifCond .ne 6, 72, 75, 0, 0)) rfl (fun _ _ _ => rfl) : mo_Sim 154 69 (ma_if0 .ne 75 69 72)) (mt_leaf (ms_goto (e := (.goto 80, 75, 152, 0, 0)) rfl (fun _ _ _ => rfl) : mo_Sim 154 72 (ma_goto 152)) (mt_leaf (ms_pushi (e := (.iconst 0, 76, 0, 0, 0)) rfl (fun _ _ _ => rfl) (by decide) : mo_Sim 154 75 (ma_push (ma_ci (.ofNat 0)) 76)) (mt_none)))
set_option maxRecDepth 100000 in
theorem smt154_31 (k : Nat) : ∀ f, mt154_31 k = some f → mo_Sim 154 k f := mt_leaf (ms_ist (e := (.istore 10, 78, 0, 0, 0)) rfl (fun _ _ _ => rfl) : mo_Sim 154 76 (ma_stor 0 10 78)) (mt_leaf (ms_ild (e := (.iload 10, 80, 0, 0, 0)) rfl (fun _ _ _ => rfl) : mo_Sim 154 78 (ma_load 0 10 80)) (mt_leaf (ms_ild (e := (.iload_n 1, 81, 0, 0, 0)) rfl (fun _ _ _ => rfl) : mo_Sim 154 80 (ma_load 0 1 81)) (mt_none)))
set_option maxRecDepth 100000 in
theorem smt154_29 (k : Nat) : ∀ f, mt154_29 k = some f → mo_Sim 154 k f := mt_node (smt154_30 k) (smt154_31 k)
set_option maxRecDepth 100000 in
theorem smt154_25 (k : Nat) : ∀ f, mt154_25 k = some f → mo_Sim 154 k f := mt_node (smt154_26 k) (smt154_29 k)
set_option maxRecDepth 100000 in
theorem smt154_17 (k : Nat) : ∀ f, mt154_17 k = some f → mo_Sim 154 k f := mt_node (smt154_18 k) (smt154_25 k)
set_option maxRecDepth 100000 in
theorem smt154_1 (k : Nat) : ∀ f, mt154_1 k = some f → mo_Sim 154 k f := mt_node (smt154_2 k) (smt154_17 k)
set_option maxRecDepth 100000 in
theorem smt154_36 (k : Nat) : ∀ f, mt154_36 k = some f → mo_Sim 154 k f := mt_leaf (ms_pushi (e := (.iconst 2, 82, 0, 0, 0)) rfl (fun _ _ _ => rfl) (by decide) : mo_Sim 154 81 (ma_push (ma_ci (.ofNat 2)) 82)) (mt_leaf (ms_if2 (e := (.if_icmp .le 8, 85, 90, 0, 0)) rfl (fun _ _ _ => rfl) : mo_Sim 154 82 (ma_if2 .le 90 82 85)) (mt_none))
set_option maxRecDepth 100000 in
theorem smt154_37 (k : Nat) : ∀ f, mt154_37 k = some f → mo_Sim 154 k f := mt_leaf (ms_ild (e := (.iload 7, 87, 0, 0, 0)) rfl (fun _ _ _ => rfl) : mo_Sim 154 85 (ma_load 0 7 87)) (mt_leaf (ms_goto (e := (.goto 4, 90, 91, 0, 0)) rfl (fun _ _ _ => rfl) : mo_Sim 154 87 (ma_goto 91)) (mt_leaf (ms_pushi (e := (.iconst 1, 91, 0, 0, 0)) rfl (fun _ _ _ => rfl) (by decide) : mo_Sim 154 90 (ma_push (ma_ci (.ofNat 1)) 91)) (mt_none)))
set_option maxRecDepth 100000 in
theorem smt154_35 (k : Nat) : ∀ f, mt154_35 k = some f → mo_Sim 154 k f := mt_node (smt154_36 k) (smt154_37 k)
set_option maxRecDepth 100000 in
theorem smt154_39 (k : Nat) : ∀ f, mt154_39 k = some f → mo_Sim 154 k f := mt_leaf (ms_if2 (e := (.if_icmp .ge 61, 94, 152, 0, 0)) rfl (fun _ _ _ => rfl) : mo_Sim 154 91 (ma_if2 .ge 152 91 94)) (mt_leaf (ms_ild (e := (.iload_n 1, 95, 0, 0, 0)) rfl (fun _ _ _ => rfl) : mo_Sim 154 94 (ma_load 0 1 95)) (mt_leaf (ms_pushi (e := (.iconst 2, 96, 0, 0, 0)) rfl (fun _ _ _ => rfl) (by decide) : mo_Sim 154 95 (ma_push (ma_ci (.ofNat 2)) 96)) (mt_none)))
set_option maxRecDepth 100000 in
theorem smt154_40 (k : Nat) : ∀ f, mt154_40 k = some f → mo_Sim 154 k f := mt_leaf (ms_if2 (e := (.if_icmp .le 18, 99, 114, 0, 0)) rfl (fun _ _ _ => rfl) : mo_Sim 154 96 (ma_if2 .le 114 96 99)) (mt_leaf (ms_lld (e := (.lload 5, 101, 0, 0, 0)) rfl (fun _ _ _ => rfl) : mo_Sim 154 99 (ma_load 2 5 101)) (mt_leaf (ms_ild (e := (.iload 10, 103, 0, 0, 0)) rfl (fun _ _ _ => rfl) : mo_Sim 154 101 (ma_load 0 10 103)) (mt_none)))
set_option maxRecDepth 100000 in
theorem smt154_38 (k : Nat) : ∀ f, mt154_38 k = some f → mo_Sim 154 k f := mt_node (smt154_39 k) (smt154_40 k)
set_option maxRecDepth 100000 in
theorem smt154_34 (k : Nat) : ∀ f, mt154_34 k = some f → mo_Sim 154 k f := mt_node (smt154_35 k) (smt154_38 k)
set_option maxRecDepth 100000 in
theorem smt154_43 (k : Nat) : ∀ f, mt154_43 k = some f → mo_Sim 154 k f := mt_leaf (ms_ls (e := (.lshr, 104, 0, 0, 0)) rfl (fun _ _ _ => rfl) hg_shr : mo_Sim 154 103 (ma_ls ma_gshr 103 104)) (mt_leaf (ms_pushl (e := (.lconst 1, 105, 0, 0, 0)) rfl (fun _ _ _ => rfl) (by decide) : mo_Sim 154 104 (ma_push (ma_cl (.ofNat 1)) 105)) (mt_leaf (ms_l2 (e := (.land, 106, 0, 0, 0)) rfl (fun _ _ _ => rfl) hg_and : mo_Sim 154 105 (ma_l2 ma_gand 106)) (mt_none)))
set_option maxRecDepth 100000 in
theorem smt154_44 (k : Nat) : ∀ f, mt154_44 k = some f → mo_Sim 154 k f := mt_leaf (ms_pushl (e := (.lconst 0, 107, 0, 0, 0)) rfl (fun _ _ _ => rfl) (by decide) : mo_Sim 154 106 (ma_push (ma_cl (.ofNat 0)) 107)) (mt_leaf (ms_lcmp (e := (.lcmp, 108, 0, 0, 0)) rfl (fun _ _ _ => rfl) : mo_Sim 154 107 (ma_lcmp 108)) (mt_leaf (ms_if0 (e := (.ifCond .ne 6, 111, 114, 0, 0)) rfl (fun _ _ _ => rfl) : mo_Sim 154 108 (ma_if0 .ne 114 108 111)) (mt_none)))
set_option maxRecDepth 100000 in
theorem smt154_42 (k : Nat) : ∀ f, mt154_42 k = some f → mo_Sim 154 k f := mt_node (smt154_43 k) (smt154_44 k)
set_option maxRecDepth 100000 in
theorem smt154_46 (k : Nat) : ∀ f, mt154_46 k = some f → mo_Sim 154 k f := mt_leaf (ms_goto (e := (.goto 35, 114, 146, 0, 0)) rfl (fun _ _ _ => rfl) : mo_Sim 154 111 (ma_goto 146)) (mt_leaf (ms_ald (e := (.aload_n 0, 115, 0, 0, 0)) rfl (fun _ _ _ => rfl) : mo_Sim 154 114 (ma_lda 0 115)) (mt_leaf (ms_ild (e := (.iload_n 1, 116, 0, 0, 0)) rfl (fun _ _ _ => rfl) : mo_Sim 154 115 (ma_load 0 1 116)) (mt_none)))
set_option maxRecDepth 100000 in
theorem smt154_47 (k : Nat) : ∀ f, mt154_47 k = some f → mo_Sim 154 k f := mt_leaf (ms_ald (e := (.aload_n 2, 117, 0, 0, 0)) rfl (fun _ _ _ => rfl) : mo_Sim 154 116 (ma_lda 2 117)) (mt_leaf (ms_ild (e := (.iload_n 3, 118, 0, 0, 0)) rfl (fun _ _ _ => rfl) : mo_Sim 154 117 (ma_load 0 3 118)) (mt_leaf (ms_ild (e := (.iload 4, 120, 0, 0, 0)) rfl (fun _ _ _ => rfl) : mo_Sim 154 118 (ma_load 0 4 120)) (mt_none)))
set_option maxRecDepth 100000 in
theorem smt154_45 (k : Nat) : ∀ f, mt154_45 k = some f → mo_Sim 154 k f := mt_node (smt154_46 k) (smt154_47 k)
set_option maxRecDepth 100000 in
theorem smt154_41 (k : Nat) : ∀ f, mt154_41 k = some f → mo_Sim 154 k f := mt_node (smt154_42 k) (smt154_45 k)
set_option maxRecDepth 100000 in
theorem smt154_33 (k : Nat) : ∀ f, mt154_33 k = some f → mo_Sim 154 k f := mt_node (smt154_34 k) (smt154_41 k)
set_option maxRecDepth 100000 in
theorem smt154_51 (k : Nat) : ∀ f, mt154_51 k = some f → mo_Sim 154 k f := mt_leaf (ms_ild (e := (.iload 8, 122, 0, 0, 0)) rfl (fun _ _ _ => rfl) : mo_Sim 154 120 (ma_load 0 8 122)) (mt_leaf (ms_ild (e := (.iload 9, 124, 0, 0, 0)) rfl (fun _ _ _ => rfl) : mo_Sim 154 122 (ma_load 0 9 124)) (mt_none))
set_option maxRecDepth 100000 in
theorem smt154_52 (k : Nat) : ∀ f, mt154_52 k = some f → mo_Sim 154 k f := mt_leaf (ms_ild (e := (.iload 10, 126, 0, 0, 0)) rfl (fun _ _ _ => rfl) : mo_Sim 154 124 (ma_load 0 10 126)) (mt_leaf (ms_invV (p := 7) (e := (.invokevirtual 100, 129, 153, 0, 1188)) rfl rfl (fun _ _ _ => rfl) rfl rfl rfl (by decide) : mo_Sim 154 126 (ma_inv 153 8 12 12 129)) (mt_leaf (ms_ist (e := (.istore 11, 131, 0, 0, 0)) rfl (fun _ _ _ => rfl) : mo_Sim 154 129 (ma_stor 0 11 131)) (mt_none)))
set_option maxRecDepth 100000 in
theorem smt154_50 (k : Nat) : ∀ f, mt154_50 k = some f → mo_Sim 154 k f := mt_node (smt154_51 k) (smt154_52 k)
set_option maxRecDepth 100000 in
theorem smt154_54 (k : Nat) : ∀ f, mt154_54 k = some f → mo_Sim 154 k f := mt_leaf (ms_lld (e := (.lload 5, 133, 0, 0, 0)) rfl (fun _ _ _ => rfl) : mo_Sim 154 131 (ma_load 2 5 133)) (mt_leaf (ms_ild (e := (.iload 11, 135, 0, 0, 0)) rfl (fun _ _ _ => rfl) : mo_Sim 154 133 (ma_load 0 11 135)) (mt_leaf (ms_ls (e := (.lshr, 136, 0, 0, 0)) rfl (fun _ _ _ => rfl) hg_shr : mo_Sim 154 135 (ma_ls ma_gshr 135 136)) (mt_none)))
set_option maxRecDepth 100000 in
theorem smt154_55 (k : Nat) : ∀ f, mt154_55 k = some f → mo_Sim 154 k f := mt_leaf (ms_pushl (e := (.lconst 1, 137, 0, 0, 0)) rfl (fun _ _ _ => rfl) (by decide) : mo_Sim 154 136 (ma_push (ma_cl (.ofNat 1)) 137)) (mt_leaf (ms_l2 (e := (.land, 138, 0, 0, 0)) rfl (fun _ _ _ => rfl) hg_and : mo_Sim 154 137 (ma_l2 ma_gand 138)) (mt_leaf (ms_pushl (e := (.lconst 0, 139, 0, 0, 0)) rfl (fun _ _ _ => rfl) (by decide) : mo_Sim 154 138 (ma_push (ma_cl (.ofNat 0)) 139)) (mt_none)))
set_option maxRecDepth 100000 in
theorem smt154_53 (k : Nat) : ∀ f, mt154_53 k = some f → mo_Sim 154 k f := mt_node (smt154_54 k) (smt154_55 k)
set_option maxRecDepth 100000 in
theorem smt154_49 (k : Nat) : ∀ f, mt154_49 k = some f → mo_Sim 154 k f := mt_node (smt154_50 k) (smt154_53 k)
set_option maxRecDepth 100000 in
theorem smt154_58 (k : Nat) : ∀ f, mt154_58 k = some f → mo_Sim 154 k f := mt_leaf (ms_lcmp (e := (.lcmp, 140, 0, 0, 0)) rfl (fun _ _ _ => rfl) : mo_Sim 154 139 (ma_lcmp 140)) (mt_leaf (ms_if0 (e := (.ifCond .ne 6, 143, 146, 0, 0)) rfl (fun _ _ _ => rfl) : mo_Sim 154 140 (ma_if0 .ne 146 140 143)) (mt_leaf (ms_ild (e := (.iload 11, 145, 0, 0, 0)) rfl (fun _ _ _ => rfl) : mo_Sim 154 143 (ma_load 0 11 145)) (mt_none)))
set_option maxRecDepth 100000 in
theorem smt154_59 (k : Nat) : ∀ f, mt154_59 k = some f → mo_Sim 154 k f := mt_leaf (ms_ret (e := (.ireturn, 146, 0, 0, 0)) rfl (Or.inl ⟨rfl, rfl, (fun _ _ _ => rfl)⟩) : mo_Sim 154 145 (ma_ret 0)) (mt_leaf (ms_iinc (e := (.iinc 10 1, 149, 0, 0, 0)) rfl (fun _ _ _ => rfl) (by decide) : mo_Sim 154 146 (ma_iinc 10 (.ofNat 1) 146 149)) (mt_leaf (ms_goto (e := (.goto (-71), 152, 78, 0, 0)) rfl (fun _ _ _ => rfl) : mo_Sim 154 149 (ma_goto 78)) (mt_none)))
set_option maxRecDepth 100000 in
theorem smt154_57 (k : Nat) : ∀ f, mt154_57 k = some f → mo_Sim 154 k f := mt_node (smt154_58 k) (smt154_59 k)
set_option maxRecDepth 100000 in
theorem smt154_61 (k : Nat) : ∀ f, mt154_61 k = some f → mo_Sim 154 k f := mt_leaf (ms_iinc (e := (.iinc 9 1, 155, 0, 0, 0)) rfl (fun _ _ _ => rfl) (by decide) : mo_Sim 154 152 (ma_iinc 9 (.ofNat 1) 152 155)) (mt_leaf (ms_goto (e := (.goto (-116), 158, 39, 0, 0)) rfl (fun _ _ _ => rfl) : mo_Sim 154 155 (ma_goto 39)) (mt_leaf (ms_iinc (e := (.iinc 8 1, 161, 0, 0, 0)) rfl (fun _ _ _ => rfl) (by decide) : mo_Sim 154 158 (ma_iinc 8 (.ofNat 1) 158 161)) (mt_none)))
set_option maxRecDepth 100000 in
theorem smt154_62 (k : Nat) : ∀ f, mt154_62 k = some f → mo_Sim 154 k f := mt_leaf (ms_goto (e := (.goto (-147), 164, 14, 0, 0)) rfl (fun _ _ _ => rfl) : mo_Sim 154 161 (ma_goto 14)) (mt_leaf (ms_pushi (e := (.iconst (-1), 165, 0, 0, 0)) rfl (fun _ _ _ => rfl) (by decide) : mo_Sim 154 164 (ma_push (ma_ci (.negSucc 0)) 165)) (mt_leaf (ms_ret (e := (.ireturn, 166, 0, 0, 0)) rfl (Or.inl ⟨rfl, rfl, (fun _ _ _ => rfl)⟩) : mo_Sim 154 165 (ma_ret 0)) (mt_none)))
set_option maxRecDepth 100000 in
theorem smt154_60 (k : Nat) : ∀ f, mt154_60 k = some f → mo_Sim 154 k f := mt_node (smt154_61 k) (smt154_62 k)
set_option maxRecDepth 100000 in
theorem smt154_56 (k : Nat) : ∀ f, mt154_56 k = some f → mo_Sim 154 k f := mt_node (smt154_57 k) (smt154_60 k)
set_option maxRecDepth 100000 in
theorem smt154_48 (k : Nat) : ∀ f, mt154_48 k = some f → mo_Sim 154 k f := mt_node (smt154_49 k) (smt154_56 k)
set_option maxRecDepth 100000 in
theorem smt154_32 (k : Nat) : ∀ f, mt154_32 k = some f → mo_Sim 154 k f := mt_node (smt154_33 k) (smt154_48 k)
set_option maxRecDepth 100000 in
theorem smt154_0 (k : Nat) : ∀ f, mt154_0 k = some f → mo_Sim 154 k f := mt_node (smt154_1 k) (smt154_32 k)
set_option maxRecDepth 100000 in
theorem smt155_2 (k : Nat) : ∀ f, mt155_2 k = some f → mo_Sim 155 k f := mt_leaf (ms_ald (e := (.aload_n 0, 1, 0, 0, 0)) rfl (fun _ _ _ => rfl) : mo_Sim 155 0 (ma_lda 0 1)) (mt_leaf (ms_ald (e := (.aload_n 0, 2, 0, 0, 0)) rfl (fun _ _ _ => rfl) : mo_Sim 155 1 (ma_lda 0 2)) (mt_leaf (ms_getf (e := (.getfield 24, 5, 12, 5, 1057)) rfl (fun _ _ _ => rfl) : mo_Sim 155 2 (ma_getf 12 5 5)) (mt_leaf (ms_ild (e := (.iload_n 1, 6, 0, 0, 0)) rfl (fun _ _ _ => rfl) : mo_Sim 155 5 (ma_load 0 1 6)) (mt_none))))
set_option maxRecDepth 100000 in
theorem smt155_4 (k : Nat) : ∀ f, mt155_4 k = some f → mo_Sim 155 k f := mt_leaf (ms_iald (e := (.iaload, 7, 0, 0, 0)) rfl (fun _ _ _ => rfl) : mo_Sim 155 6 (ma_iald 6 7)) (mt_leaf (ms_ald (e := (.aload_n 0, 8, 0, 0, 0)) rfl (fun _ _ _ => rfl) : mo_Sim 155 7 (ma_lda 0 8)) (mt_none))
set_option maxRecDepth 100000 in
theorem smt155_5 (k : Nat) : ∀ f, mt155_5 k = some f → mo_Sim 155 k f := mt_leaf (ms_getf (e := (.getfield 27, 11, 12, 6, 1058)) rfl (fun _ _ _ => rfl) : mo_Sim 155 8 (ma_getf 12 6 11)) (mt_leaf (ms_pushi (e := (.bipush 27, 13, 0, 0, 0)) rfl (fun _ _ _ => rfl) (by decide) : mo_Sim 155 11 (ma_push (ma_ci (.ofNat 27)) 13)) (mt_leaf (ms_ild (e := (.iload_n 1, 14, 0, 0, 0)) rfl (fun _ _ _ => rfl) : mo_Sim 155 13 (ma_load 0 1 14)) (mt_none)))
set_option maxRecDepth 100000 in
theorem smt155_3 (k : Nat) : ∀ f, mt155_3 k = some f → mo_Sim 155 k f := mt_node (smt155_4 k) (smt155_5 k)
set_option maxRecDepth 100000 in
theorem smt155_1 (k : Nat) : ∀ f, mt155_1 k = some f → mo_Sim 155 k f := mt_node (smt155_2 k) (smt155_3 k)
set_option maxRecDepth 100000 in
theorem smt155_8 (k : Nat) : ∀ f, mt155_8 k = some f → mo_Sim 155 k f := mt_leaf (ms_i2 (e := (.imul, 15, 0, 0, 0)) rfl (fun _ _ _ => rfl) hf_mul : mo_Sim 155 14 (ma_i2 ma_fmul 14 15)) (mt_leaf (ms_ild (e := (.iload_n 2, 16, 0, 0, 0)) rfl (fun _ _ _ => rfl) : mo_Sim 155 15 (ma_load 0 2 16)) (mt_none))
set_option maxRecDepth 100000 in
theorem smt155_9 (k : Nat) : ∀ f, mt155_9 k = some f → mo_Sim 155 k f := mt_leaf (ms_lld (e := (.lload_n 3, 17, 0, 0, 0)) rfl (fun _ _ _ => rfl) : mo_Sim 155 16 (ma_load 2 3 17)) (mt_leaf (ms_invV (p := 5) (e := (.invokevirtual 104, 20, 154, 0, 1184)) rfl rfl (fun _ _ _ => rfl) rfl rfl rfl (by decide) : mo_Sim 155 17 (ma_inv 154 6 12 12 20)) (mt_leaf (ms_pushi (e := (.iconst (-1), 21, 0, 0, 0)) rfl (fun _ _ _ => rfl) (by decide) : mo_Sim 155 20 (ma_push (ma_ci (.negSucc 0)) 21)) (mt_none)))
set_option maxRecDepth 100000 in
theorem smt155_7 (k : Nat) : ∀ f, mt155_7 k = some f → mo_Sim 155 k f := mt_node (smt155_8 k) (smt155_9 k)
set_option maxRecDepth 100000 in
theorem smt155_11 (k : Nat) : ∀ f, mt155_11 k = some f → mo_Sim 155 k f := mt_leaf (ms_if2 (e := (.if_icmp .ne 7, 24, 28, 0, 0)) rfl (fun _ _ _ => rfl) : mo_Sim 155 21 (ma_if2 .ne 28 21 24)) (mt_leaf (ms_pushi (e := (.iconst 1, 25, 0, 0, 0)) rfl (fun _ _ _ => rfl) (by decide) : mo_Sim 155 24 (ma_push (ma_ci (.ofNat 1)) 25)) (mt_none))
set_option maxRecDepth 100000 in
theorem smt155_12 (k : Nat) : ∀ f, mt155_12 k = some f → mo_Sim 155 k f := mt_leaf (ms_goto (e := (.goto 4, 28, 29, 0, 0)) rfl (fun _ _ _ => rfl) : mo_Sim 155 25 (ma_goto 29)) (mt_leaf (ms_pushi (e := (.iconst 0, 29, 0, 0, 0)) rfl (fun _ _ _ => rfl) (by decide) : mo_Sim 155 28 (ma_push (ma_ci (.ofNat 0)) 29)) (mt_leaf (ms_ret (e := (.ireturn, 30, 0, 0, 0)) rfl (Or.inr (Or.inl ⟨rfl, rfl, (fun _ _ _ => rfl)⟩)) : mo_Sim 155 29 (ma_ret 1)) (mt_none)))
set_option maxRecDepth 100000 in
theorem smt155_10 (k : Nat) : ∀ f, mt155_10 k = some f → mo_Sim 155 k f := mt_node (smt155_11 k) (smt155_12 k)
set_option maxRecDepth 100000 in
theorem smt155_6 (k : Nat) : ∀ f, mt155_6 k = some f → mo_Sim 155 k f := mt_node (smt155_7 k) (smt155_10 k)
set_option maxRecDepth 100000 in
theorem smt155_0 (k : Nat) : ∀ f, mt155_0 k = some f → mo_Sim 155 k f := mt_node (smt155_1 k) (smt155_6 k)
set_option maxRecDepth 100000 in
theorem smt156_2 (k : Nat) : ∀ f, mt156_2 k = some f → mo_Sim 156 k f := mt_leaf (ms_pushi (e := (.iconst 0, 1, 0, 0, 0)) rfl (fun _ _ _ => rfl) (by decide) : mo_Sim 156 0 (ma_push (ma_ci (.ofNat 0)) 1)) (mt_leaf (ms_ist (e := (.istore 4, 3, 0, 0, 0)) rfl (fun _ _ _ => rfl) : mo_Sim 156 1 (ma_stor 0 4 3)) (mt_leaf (ms_ild (e := (.iload 4, 5, 0, 0, 0)) rfl (fun _ _ _ => rfl) : mo_Sim 156 3 (ma_load 0 4 5)) (mt_leaf (ms_ald (e := (.aload_n 0, 6, 0, 0, 0)) rfl (fun _ _ _ => rfl) : mo_Sim 156 5 (ma_lda 0 6)) (mt_none))))
set_option maxRecDepth 100000 in
theorem smt156_4 (k : Nat) : ∀ f, mt156_4 k = some f → mo_Sim 156 k f := mt_leaf (ms_getf (e := (.getfield 72, 9, 12, 4, 1056)) rfl (fun _ _ _ => rfl) : mo_Sim 156 6 (ma_getf 12 4 9)) (mt_leaf (ms_if2 (e := (.if_icmp .ge 22, 12, 31, 0, 0)) rfl (fun _ _ _ => rfl) : mo_Sim 156 9 (ma_if2 .ge 31 9 12)) (mt_none))
set_option maxRecDepth 100000 in
theorem smt156_5 (k : Nat) : ∀ f, mt156_5 k = some f → mo_Sim 156 k f := mt_leaf (ms_ald (e := (.aload_n 0, 13, 0, 0, 0)) rfl (fun _ _ _ => rfl) : mo_Sim 156 12 (ma_lda 0 13)) (mt_leaf (ms_ild (e := (.iload 4, 15, 0, 0, 0)) rfl (fun _ _ _ => rfl) : mo_Sim 156 13 (ma_load 0 4 15)) (mt_leaf (ms_ild (e := (.iload_n 1, 16, 0, 0, 0)) rfl (fun _ _ _ => rfl) : mo_Sim 156 15 (ma_load 0 1 16)) (mt_none)))
set_option maxRecDepth 100000 in
theorem smt156_3 (k : Nat) : ∀ f, mt156_3 k = some f → mo_Sim 156 k f := mt_node (smt156_4 k) (smt156_5 k)
set_option maxRecDepth 100000 in
theorem smt156_1 (k : Nat) : ∀ f, mt156_1 k = some f → mo_Sim 156 k f := mt_node (smt156_2 k) (smt156_3 k)
set_option maxRecDepth 100000 in
theorem smt156_7 (k : Nat) : ∀ f, mt156_7 k = some f → mo_Sim 156 k f := mt_leaf (ms_lld (e := (.lload_n 2, 17, 0, 0, 0)) rfl (fun _ _ _ => rfl) : mo_Sim 156 16 (ma_load 2 2 17)) (mt_leaf (ms_invV (p := 3) (e := (.invokevirtual 108, 20, 155, 0, 1180)) rfl rfl (fun _ _ _ => rfl) rfl rfl rfl (by decide) : mo_Sim 156 17 (ma_inv 155 4 5 12 20)) (mt_leaf (ms_if0 (e := (.ifCond .ne 5, 23, 25, 0, 0)) rfl (fun _ _ _ => rfl) : mo_Sim 156 20 (ma_if0 .ne 25 20 23)) (mt_leaf (ms_pushi (e := (.iconst 0, 24, 0, 0, 0)) rfl (fun _ _ _ => rfl) (by decide) : mo_Sim 156 23 (ma_push (ma_ci (.ofNat 0)) 24)) (mt_none))))
set_option maxRecDepth 100000 in
theorem smt156_9 (k : Nat) : ∀ f, mt156_9 k = some f → mo_Sim 156 k f := mt_leaf (ms_ret (e := (.ireturn, 25, 0, 0, 0)) rfl (Or.inr (Or.inl ⟨rfl, rfl, (fun _ _ _ => rfl)⟩)) : mo_Sim 156 24 (ma_ret 1)) (mt_leaf (ms_iinc (e := (.iinc 4 1, 28, 0, 0, 0)) rfl (fun _ _ _ => rfl) (by decide) : mo_Sim 156 25 (ma_iinc 4 (.ofNat 1) 25 28)) (mt_none))
set_option maxRecDepth 100000 in
theorem smt156_10 (k : Nat) : ∀ f, mt156_10 k = some f → mo_Sim 156 k f := mt_leaf (ms_goto (e := (.goto (-25), 31, 3, 0, 0)) rfl (fun _ _ _ => rfl) : mo_Sim 156 28 (ma_goto 3)) (mt_leaf (ms_pushi (e := (.iconst 1, 32, 0, 0, 0)) rfl (fun _ _ _ => rfl) (by decide) : mo_Sim 156 31 (ma_push (ma_ci (.ofNat 1)) 32)) (mt_leaf (ms_ret (e := (.ireturn, 33, 0, 0, 0)) rfl (Or.inr (Or.inl ⟨rfl, rfl, (fun _ _ _ => rfl)⟩)) : mo_Sim 156 32 (ma_ret 1)) (mt_none)))
set_option maxRecDepth 100000 in
theorem smt156_8 (k : Nat) : ∀ f, mt156_8 k = some f → mo_Sim 156 k f := mt_node (smt156_9 k) (smt156_10 k)
set_option maxRecDepth 100000 in
theorem smt156_6 (k : Nat) : ∀ f, mt156_6 k = some f → mo_Sim 156 k f := mt_node (smt156_7 k) (smt156_8 k)
set_option maxRecDepth 100000 in
theorem smt156_0 (k : Nat) : ∀ f, mt156_0 k = some f → mo_Sim 156 k f := mt_node (smt156_1 k) (smt156_6 k)
set_option maxRecDepth 100000 in
theorem smt157_4 (k : Nat) : ∀ f, mt157_4 k = some f → mo_Sim 157 k f := mt_leaf (ms_lld (e := (.lload_n 2, 1, 0, 0, 0)) rfl (fun _ _ _ => rfl) : mo_Sim 157 0 (ma_load 2 2 1)) (mt_leaf (ms_lst (e := (.lstore 4, 3, 0, 0, 0)) rfl (fun _ _ _ => rfl) : mo_Sim 157 1 (ma_stol 4 3)) (mt_leaf (ms_pushi (e := (.iconst 1, 4, 0, 0, 0)) rfl (fun _ _ _ => rfl) (by decide) : mo_Sim 157 3 (ma_push (ma_ci (.ofNat 1)) 4)) (mt_none)))
set_option maxRecDepth 100000 in
theorem smt157_5 (k : Nat) : ∀ f, mt157_5 k = some f → mo_Sim 157 k f := mt_leaf (ms_ist (e := (.istore 6, 6, 0, 0, 0)) rfl (fun _ _ _ => rfl) : mo_Sim 157 4 (ma_stor 0 6 6)) (mt_leaf (ms_ild (e := (.iload 6, 8, 0, 0, 0)) rfl (fun _ _ _ => rfl) : mo_Sim 157 6 (ma_load 0 6 8)) (mt_leaf (ms_if0 (e := (.ifCond .eq 98, 11, 106, 0, 0)) rfl (fun _ _ _ => rfl) : mo_Sim 157 8 (ma_if0 .eq 106 8 11)) (mt_leaf (ms_pushi (e := (.iconst 0, 12, 0, 0, 0)) rfl (fun _ _ _ => rfl) (by decide) : mo_Sim 157 11 (ma_push (ma_ci (.ofNat 0)) 12)) (mt_none))))
set_option maxRecDepth 100000 in
theorem smt157_3 (k : Nat) : ∀ f, mt157_3 k = some f → mo_Sim 157 k f := mt_node (smt157_4 k) (smt157_5 k)
set_option maxRecDepth 100000 in
theorem smt157_7 (k : Nat) : ∀ f, mt157_7 k = some f → mo_Sim 157 k f := mt_leaf (ms_ist (e := (.istore 6, 14, 0, 0, 0)) rfl (fun _ _ _ => rfl) : mo_Sim 157 12 (ma_stor 0 6 14)) (mt_leaf (ms_pushi (e := (.iconst 0, 15, 0, 0, 0)) rfl (fun _ _ _ => rfl) (by decide) : mo_Sim 157 14 (ma_push (ma_ci (.ofNat 0)) 15)) (mt_leaf (ms_ist (e := (.istore 7, 17, 0, 0, 0)) rfl (fun _ _ _ => rfl) : mo_Sim 157 15 (ma_stor 0 7 17)) (mt_none)))
set_option maxRecDepth 100000 in
theorem smt157_8 (k : Nat) : ∀ f, mt157_8 k = some f → mo_Sim 157 k f := mt_leaf (ms_ild (e := (.iload 7, 19, 0, 0, 0)) rfl (fun _ _ _ => rfl) : mo_Sim 157 17 (ma_load 0 7 19)) (mt_leaf (ms_ald (e := (.aload_n 0, 20, 0, 0, 0)) rfl (fun _ _ _ => rfl) : mo_Sim 157 19 (ma_lda 0 20)) (mt_leaf (ms_getf (e := (.getfield 72, 23, 12, 4, 1056)) rfl (fun _ _ _ => rfl) : mo_Sim 157 20 (ma_getf 12 4 23)) (mt_leaf (ms_if2 (e := (.if_icmp .ge 80, 26, 103, 0, 0)) rfl (fun _ _ _ => rfl) : mo_Sim 157 23 (ma_if2 .ge 103 23 26)) (mt_none))))
set_option maxRecDepth 100000 in
theorem smt157_6 (k : Nat) : ∀ f, mt157_6 k = some f → mo_Sim 157 k f := mt_node (smt157_7 k) (smt157_8 k)
set_option maxRecDepth 100000 in
theorem smt157_2 (k : Nat) : ∀ f, mt157_2 k = some f → mo_Sim 157 k f := mt_node (smt157_3 k) (smt157_6 k)
set_option maxRecDepth 100000 in
theorem smt157_11 (k : Nat) : ∀ f, mt157_11 k = some f → mo_Sim 157 k f := mt_leaf (ms_ald (e := (.aload_n 0, 27, 0, 0, 0)) rfl (fun _ _ _ => rfl) : mo_Sim 157 26 (ma_lda 0 27)) (mt_leaf (ms_ald (e := (.aload_n 0, 28, 0, 0, 0)) rfl (fun _ _ _ => rfl) : mo_Sim 157 27 (ma_lda 0 28)) (mt_leaf (ms_getf (e := (.getfield 24, 31, 12, 5, 1057)) rfl (fun _ _ _ => rfl) : mo_Sim 157 28 (ma_getf 12 5 31)) (mt_none)))
set_option maxRecDepth 100000 in
theorem smt157_12 (k : Nat) : ∀ f, mt157_12 k = some f → mo_Sim 157 k f := mt_leaf (ms_ild (e := (.iload 7, 33, 0, 0, 0)) rfl (fun _ _ _ => rfl) : mo_Sim 157 31 (ma_load 0 7 33)) (mt_leaf (ms_iald (e := (.iaload, 34, 0, 0, 0)) rfl (fun _ _ _ => rfl) : mo_Sim 157 33 (ma_iald 33 34)) (mt_leaf (ms_ald (e := (.aload_n 0, 35, 0, 0, 0)) rfl (fun _ _ _ => rfl) : mo_Sim 157 34 (ma_lda 0 35)) (mt_leaf (ms_getf (e := (.getfield 27, 38, 12, 6, 1058)) rfl (fun _ _ _ => rfl) : mo_Sim 157 35 (ma_getf 12 6 38)) (mt_none))))
set_option maxRecDepth 100000 in
theorem smt157_10 (k : Nat) : ∀ f, mt157_10 k = some f → mo_Sim 157 k f := mt_node (smt157_11 k) (smt157_12 k)
set_option maxRecDepth 100000 in
theorem smt157_14 (k : Nat) : ∀ f, mt157_14 k = some f → mo_Sim 157 k f := mt_leaf (ms_pushi (e := (.bipush 27, 40, 0, 0, 0)) rfl (fun _ _ _ => rfl) (by decide) : mo_Sim 157 38 (ma_push (ma_ci (.ofNat 27)) 40)) (mt_leaf (ms_ild (e := (.iload 7, 42, 0, 0, 0)) rfl (fun _ _ _ => rfl) : mo_Sim 157 40 (ma_load 0 7 42)) (mt_leaf (ms_i2 (e := (.imul, 43, 0, 0, 0)) rfl (fun _ _ _ => rfl) hf_mul : mo_Sim 157 42 (ma_i2 ma_fmul 42 43)) (mt_leaf (ms_ild (e := (.iload_n 1, 44, 0, 0, 0)) rfl (fun _ _ _ => rfl) : mo_Sim 157 43 (ma_load 0 1 44)) (mt_none))))
set_option maxRecDepth 100000 in
theorem smt157_15 (k : Nat) : ∀ f, mt157_15 k = some f → mo_Sim 157 k f := mt_leaf (ms_lld (e := (.lload 4, 46, 0, 0, 0)) rfl (fun _ _ _ => rfl) : mo_Sim 157 44 (ma_load 2 4 46)) (mt_leaf (ms_invV (p := 5) (e := (.invokevirtual 104, 49, 154, 0, 1184)) rfl rfl (fun _ _ _ => rfl) rfl rfl rfl (by decide) : mo_Sim 157 46 (ma_inv 154 6 12 12 49)) (mt_leaf (ms_ist (e := (.istore 8, 51, 0, 0, 0)) rfl (fun _ _ _ => rfl) : mo_Sim 157 49 (ma_stor 0 8 51)) (mt_leaf (ms_ild (e := (.iload 8, 53, 0, 0, 0)) rfl (fun _ _ _ => rfl) : mo_Sim 157 51 (ma_load 0 8 53)) (mt_none))))
set_option maxRecDepth 100000 in
theorem smt157_13 (k : Nat) : ∀ f, mt157_13 k = some f → mo_Sim 157 k f := mt_node (smt157_14 k) (smt157_15 k)
set_option maxRecDepth 100000 in
theorem smt157_9 (k : Nat) : ∀ f, mt157_9 k = some f → mo_Sim 157 k f := mt_node (smt157_10 k) (smt157_13 k)
set_option maxRecDepth 100000 in
theorem smt157_1 (k : Nat) : ∀ f, mt157_1 k = some f → mo_Sim 157 k f := mt_node (smt157_2 k) (smt157_9 k)
set_option maxRecDepth 100000 in
theorem smt157_19 (k : Nat) : ∀ f, mt157_19 k = some f → mo_Sim 157 k f := mt_leaf (ms_pushi (e := (.iconst (-1), 54, 0, 0, 0)) rfl (fun _ _ _ => rfl) (by decide) : mo_Sim 157 53 (ma_push (ma_ci (.negSucc 0)) 54)) (mt_leaf (ms_if2 (e := (.if_icmp .eq 43, 57, 97, 0, 0)) rfl (fun _ _ _ => rfl) : mo_Sim 157 54 (ma_if2 .eq 97 54 57)) (mt_leaf (ms_lld (e := (.lload 4, 59, 0, 0, 0)) rfl (fun _ _ _ => rfl) : mo_Sim 157 57 (ma_load 2 4 59)) (mt_none)))
set_option maxRecDepth 100000 in
theorem smt157_20 (k : Nat) : ∀ f, mt157_20 k = some f → mo_Sim 157 k f := mt_leaf (ms_pushl (e := (.lconst 1, 60, 0, 0, 0)) rfl (fun _ _ _ => rfl) (by decide) : mo_Sim 157 59 (ma_push (ma_cl (.ofNat 1)) 60)) (mt_leaf (ms_ild (e := (.iload 8, 62, 0, 0, 0)) rfl (fun _ _ _ => rfl) : mo_Sim 157 60 (ma_load 0 8 62)) (mt_leaf (ms_ls (e := (.lshl, 63, 0, 0, 0)) rfl (fun _ _ _ => rfl) hg_shl : mo_Sim 157 62 (ma_ls ma_gshl 62 63)) (mt_leaf (ms_l2 (e := (.lor, 64, 0, 0, 0)) rfl (fun _ _ _ => rfl) hg_or : mo_Sim 157 63 (ma_l2 ma_gor 64)) (mt_none))))
set_option maxRecDepth 100000 in
theorem smt157_18 (k : Nat) : ∀ f, mt157_18 k = some f → mo_Sim 157 k f := mt_node (smt157_19 k) (smt157_20 k)
set_option maxRecDepth 100000 in
theorem smt157_22 (k : Nat) : ∀ f, mt157_22 k = some f → mo_Sim 157 k f := mt_leaf (ms_lst (e := (.lstore 4, 66, 0, 0, 0)) rfl (fun _ _ _ => rfl) : mo_Sim 157 64 (ma_stol 4 66)) (mt_leaf (ms_pushi (e := (.iconst 1, 67, 0, 0, 0)) rfl (fun _ _ _ => rfl) (by decide) : mo_Sim 157 66 (ma_push (ma_ci (.ofNat 1)) 67)) (mt_leaf (ms_ist (e := (.istore 6, 69, 0, 0, 0)) rfl (fun _ _ _ => rfl) : mo_Sim 157 67 (ma_stor 0 6 69)) (mt_leaf (ms_ald (e := (.aload_n 0, 70, 0, 0, 0)) rfl (fun _ _ _ => rfl) : mo_Sim 157 69 (ma_lda 0 70)) (mt_none))))
set_option maxRecDepth 100000 in
theorem smt157_23 (k : Nat) : ∀ f, mt157_23 k = some f → mo_Sim 157 k f := mt_leaf (ms_ald (e := (.aload_n 0, 71, 0, 0, 0)) rfl (fun _ _ _ => rfl) : mo_Sim 157 70 (ma_lda 0 71)) (mt_leaf (ms_getf (e := (.getfield 24, 74, 12, 5, 1057)) rfl (fun _ _ _ => rfl) : mo_Sim 157 71 (ma_getf 12 5 74)) (mt_leaf (ms_ild (e := (.iload 7, 76, 0, 0, 0)) rfl (fun _ _ _ => rfl) : mo_Sim 157 74 (ma_load 0 7 76)) (mt_leaf (ms_iald (e := (.iaload, 77, 0, 0, 0)) rfl (fun _ _ _ => rfl) : mo_Sim 157 76 (ma_iald 76 77)) (mt_none))))
set_option maxRecDepth 100000 in
theorem smt157_21 (k : Nat) : ∀ f, mt157_21 k = some f → mo_Sim 157 k f := mt_node (smt157_22 k) (smt157_23 k)
set_option maxRecDepth 100000 in
theorem smt157_17 (k : Nat) : ∀ f, mt157_17 k = some f → mo_Sim 157 k f := mt_node (smt157_18 k) (smt157_21 k)
set_option maxRecDepth 100000 in
theorem smt157_26 (k : Nat) : ∀ f, mt157_26 k = some f → mo_Sim 157 k f := mt_leaf (ms_ald (e := (.aload_n 0, 78, 0, 0, 0)) rfl (fun _ _ _ => rfl) : mo_Sim 157 77 (ma_lda 0 78)) (mt_leaf (ms_getf (e := (.getfield 27, 81, 12, 6, 1058)) rfl (fun _ _ _ => rfl) : mo_Sim 157 78 (ma_getf 12 6 81)) (mt_leaf (ms_pushi (e := (.bipush 27, 83, 0, 0, 0)) rfl (fun _ _ _ => rfl) (by decide) : mo_Sim 157 81 (ma_push (ma_ci (.ofNat 27)) 83)) (mt_none)))
set_option maxRecDepth 100000 in
theorem smt157_27 (k : Nat) : ∀ f, mt157_27 k = some f → mo_Sim 157 k f := mt_leaf (ms_ild (e := (.iload 7, 85, 0, 0, 0)) rfl (fun _ _ _ => rfl) : mo_Sim 157 83 (ma_load 0 7 85)) (mt_leaf (ms_i2 (e := (.imul, 86, 0, 0, 0)) rfl (fun _ _ _ => rfl) hf_mul : mo_Sim 157 85 (ma_i2 ma_fmul 85 86)) (mt_leaf (ms_ild (e := (.iload_n 1, 87, 0, 0, 0)) rfl (fun _ _ _ => rfl) : mo_Sim 157 86 (ma_load 0 1 87)) (mt_leaf (ms_lld (e := (.lload 4, 89, 0, 0, 0)) rfl (fun _ _ _ => rfl) : mo_Sim 157 87 (ma_load 2 4 89)) (mt_none))))
set_option maxRecDepth 100000 in
theorem smt157_25 (k : Nat) : ∀ f, mt157_25 k = some f → mo_Sim 157 k f := mt_node (smt157_26 k) (smt157_27 k)
set_option maxRecDepth 100000 in
theorem smt157_29 (k : Nat) : ∀ f, mt157_29 k = some f → mo_Sim 157 k f := mt_leaf (ms_invV (p := 5) (e := (.invokevirtual 104, 92, 154, 0, 1184)) rfl rfl (fun _ _ _ => rfl) rfl rfl rfl (by decide) : mo_Sim 157 89 (ma_inv 154 6 12 12 92)) (mt_leaf (ms_ist (e := (.istore 8, 94, 0, 0, 0)) rfl (fun _ _ _ => rfl) : mo_Sim 157 92 (ma_stor 0 8 94)) (mt_leaf (ms_goto (e := (.goto (-43), 97, 51, 0, 0)) rfl (fun _ _ _ => rfl) : mo_Sim 157 94 (ma_goto 51)) (mt_leaf (ms_iinc (e := (.iinc 7 1, 100, 0, 0, 0)) rfl (fun _ _ _ => rfl) (by decide) : mo_Sim 157 97 (ma_iinc 7 (.ofNat 1) 97 100)) (mt_none))))
set_option maxRecDepth 100000 in
theorem smt157_30 (k : Nat) : ∀ f, mt157_30 k = some f → mo_Sim 157 k f := mt_leaf (ms_goto (e := (.goto (-83), 103, 17, 0, 0)) rfl (fun _ _ _ => rfl) : mo_Sim 157 100 (ma_goto 17)) (mt_leaf (ms_goto (e := (.goto (-97), 106, 6, 0, 0)) rfl (fun _ _ _ => rfl) : mo_Sim 157 103 (ma_goto 6)) (mt_leaf (ms_lld (e := (.lload 4, 108, 0, 0, 0)) rfl (fun _ _ _ => rfl) : mo_Sim 157 106 (ma_load 2 4 108)) (mt_leaf (ms_ret (e := (.lreturn, 109, 0, 0, 0)) rfl (Or.inr (Or.inr (Or.inr ⟨rfl, rfl, (fun _ _ _ => rfl)⟩))) : mo_Sim 157 108 (ma_ret 3)) (mt_none))))
set_option maxRecDepth 100000 in
theorem smt157_28 (k : Nat) : ∀ f, mt157_28 k = some f → mo_Sim 157 k f := mt_node (smt157_29 k) (smt157_30 k)
set_option maxRecDepth 100000 in
theorem smt157_24 (k : Nat) : ∀ f, mt157_24 k = some f → mo_Sim 157 k f := mt_node (smt157_25 k) (smt157_28 k)
set_option maxRecDepth 100000 in
theorem smt157_16 (k : Nat) : ∀ f, mt157_16 k = some f → mo_Sim 157 k f := mt_node (smt157_17 k) (smt157_24 k)
set_option maxRecDepth 100000 in
theorem smt157_0 (k : Nat) : ∀ f, mt157_0 k = some f → mo_Sim 157 k f := mt_node (smt157_1 k) (smt157_16 k)
set_option maxRecDepth 100000 in
theorem smt158_3 (k : Nat) : ∀ f, mt158_3 k = some f → mo_Sim 158 k f := mt_leaf (ms_ild (e := (.iload_n 1, 1, 0, 0, 0)) rfl (fun _ _ _ => rfl) : mo_Sim 158 0 (ma_load 0 1 1)) (mt_leaf (ms_if0 (e := (.ifCond .lt 23, 4, 24, 0, 0)) rfl (fun _ _ _ => rfl) : mo_Sim 158 1 (ma_if0 .lt 24 1 4)) (mt_leaf (ms_ild (e := (.iload_n 1, 5, 0, 0, 0)) rfl (fun _ _ _ => rfl) : mo_Sim 158 4 (ma_load 0 1 5)) (mt_none)))
set_option maxRecDepth 100000 in
theorem smt158_4 (k : Nat) : ∀ f, mt158_4 k = some f → mo_Sim 158 k f := mt_leaf (ms_ald (e := (.aload_n 0, 6, 0, 0, 0)) rfl (fun _ _ _ => rfl) : mo_Sim 158 5 (ma_lda 0 6)) (mt_leaf (ms_getf (e := (.getfield 72, 9, 12, 4, 1056)) rfl (fun _ _ _ => rfl) : mo_Sim 158 6 (ma_getf 12 4 9)) (mt_leaf (ms_if2 (e := (.if_icmp .ge 15, 12, 24, 0, 0)) rfl (fun _ _ _ => rfl) : mo_Sim 158 9 (ma_if2 .ge 24 9 12)) (mt_leaf (ms_ild (e := (.iload_n 2, 13, 0, 0, 0)) rfl (fun _ _ _ => rfl) : mo_Sim 158 12 (ma_load 0 2 13)) (mt_none))))
set_option maxRecDepth 100000 in
theorem smt158_2 (k : Nat) : ∀ f, mt158_2 k = some f → mo_Sim 158 k f := mt_node (smt158_3 k) (smt158_4 k)
set_option maxRecDepth 100000 in
theorem smt158_6 (k : Nat) : ∀ f, mt158_6 k = some f → mo_Sim 158 k f := mt_leaf (ms_if0 (e := (.ifCond .lt 11, 16, 24, 0, 0)) rfl (fun _ _ _ => rfl) : mo_Sim 158 13 (ma_if0 .lt 24 13 16)) (mt_leaf (ms_ild (e := (.iload_n 2, 17, 0, 0, 0)) rfl (fun _ _ _ => rfl) : mo_Sim 158 16 (ma_load 0 2 17)) (mt_leaf (ms_ald (e := (.aload_n 0, 18, 0, 0, 0)) rfl (fun _ _ _ => rfl) : mo_Sim 158 17 (ma_lda 0 18)) (mt_leaf (ms_getf (e := (.getfield 75, 21, 12, 7, 1059)) rfl (fun _ _ _ => rfl) : mo_Sim 158 18 (ma_getf 12 7 21)) (mt_none))))
set_option maxRecDepth 100000 in
theorem smt158_7 (k : Nat) : ∀ f, mt158_7 k = some f → mo_Sim 158 k f := mt_leaf (ms_if2 (e := (.if_icmp .lt 7, 24, 28, 0, 0)) rfl (fun _ _ _ => rfl) : mo_Sim 158 21 (ma_if2 .lt 28 21 24)) (mt_leaf (ms_pushi (e := (.iconst (-1), 25, 0, 0, 0)) rfl (fun _ _ _ => rfl) (by decide) : mo_Sim 158 24 (ma_push (ma_ci (.negSucc 0)) 25)) (mt_leaf (ms_goto (e := (.goto 28, 28, 53, 0, 0)) rfl (fun _ _ _ => rfl) : mo_Sim 158 25 (ma_goto 53)) (mt_leaf (ms_ald (e := (.aload_n 0, 29, 0, 0, 0)) rfl (fun _ _ _ => rfl) : mo_Sim 158 28 (ma_lda 0 29)) (mt_none))))
set_option maxRecDepth 100000 in
theorem smt158_5 (k : Nat) : ∀ f, mt158_5 k = some f → mo_Sim 158 k f := mt_node (smt158_6 k) (smt158_7 k)
set_option maxRecDepth 100000 in
theorem smt158_1 (k : Nat) : ∀ f, mt158_1 k = some f → mo_Sim 158 k f := mt_node (smt158_2 k) (smt158_5 k)
set_option maxRecDepth 100000 in
theorem smt158_10 (k : Nat) : ∀ f, mt158_10 k = some f → mo_Sim 158 k f := mt_leaf (ms_ild (e := (.iload_n 1, 30, 0, 0, 0)) rfl (fun _ _ _ => rfl) : mo_Sim 158 29 (ma_load 0 1 30)) (mt_leaf (ms_ald (e := (.aload_n 0, 31, 0, 0, 0)) rfl (fun _ _ _ => rfl) : mo_Sim 158 30 (ma_lda 0 31)) (mt_leaf (ms_getf (e := (.getfield 30, 34, 12, 8, 1060)) rfl (fun _ _ _ => rfl) : mo_Sim 158 31 (ma_getf 12 8 34)) (mt_none)))
set_option maxRecDepth 100000 in
theorem smt158_11 (k : Nat) : ∀ f, mt158_11 k = some f → mo_Sim 158 k f := mt_leaf (ms_ild (e := (.iload_n 2, 35, 0, 0, 0)) rfl (fun _ _ _ => rfl) : mo_Sim 158 34 (ma_load 0 2 35)) (mt_leaf (ms_iald (e := (.iaload, 36, 0, 0, 0)) rfl (fun _ _ _ => rfl) : mo_Sim 158 35 (ma_iald 35 36)) (mt_leaf (ms_ald (e := (.aload_n 0, 37, 0, 0, 0)) rfl (fun _ _ _ => rfl) : mo_Sim 158 36 (ma_lda 0 37)) (mt_leaf (ms_getf (e := (.getfield 33, 40, 12, 9, 1061)) rfl (fun _ _ _ => rfl) : mo_Sim 158 37 (ma_getf 12 9 40)) (mt_none))))
set_option maxRecDepth 100000 in
theorem smt158_9 (k : Nat) : ∀ f, mt158_9 k = some f → mo_Sim 158 k f := mt_node (smt158_10 k) (smt158_11 k)
set_option maxRecDepth 100000 in
theorem smt158_13 (k : Nat) : ∀ f, mt158_13 k = some f → mo_Sim 158 k f := mt_leaf (ms_ild (e := (.iload_n 2, 41, 0, 0, 0)) rfl (fun _ _ _ => rfl) : mo_Sim 158 40 (ma_load 0 2 41)) (mt_leaf (ms_lald (e := (.laload, 42, 0, 0, 0)) rfl (fun _ _ _ => rfl) : mo_Sim 158 41 (ma_lald 42)) (mt_leaf (ms_invV (p := 3) (e := (.invokevirtual 108, 45, 155, 0, 1180)) rfl rfl (fun _ _ _ => rfl) rfl rfl rfl (by decide) : mo_Sim 158 42 (ma_inv 155 4 5 12 45)) (mt_leaf (ms_if0 (e := (.ifCond .eq 7, 48, 52, 0, 0)) rfl (fun _ _ _ => rfl) : mo_Sim 158 45 (ma_if0 .eq 52 45 48)) (mt_none))))
set_option maxRecDepth 100000 in
theorem smt158_14 (k : Nat) : ∀ f, mt158_14 k = some f → mo_Sim 158 k f := mt_leaf (ms_pushi (e := (.iconst 1, 49, 0, 0, 0)) rfl (fun _ _ _ => rfl) (by decide) : mo_Sim 158 48 (ma_push (ma_ci (.ofNat 1)) 49)) (mt_leaf (ms_goto (e := (.goto 4, 52, 53, 0, 0)) rfl (fun _ _ _ => rfl) : mo_Sim 158 49 (ma_goto 53)) (mt_leaf (ms_pushi (e := (.iconst 0, 53, 0, 0, 0)) rfl (fun _ _ _ => rfl) (by decide) : mo_Sim 158 52 (ma_push (ma_ci (.ofNat 0)) 53)) (mt_leaf (ms_ret (e := (.ireturn, 54, 0, 0, 0)) rfl (Or.inl ⟨rfl, rfl, (fun _ _ _ => rfl)⟩) : mo_Sim 158 53 (ma_ret 0)) (mt_none))))
set_option maxRecDepth 100000 in
theorem smt158_12 (k : Nat) : ∀ f, mt158_12 k = some f → mo_Sim 158 k f := mt_node (smt158_13 k) (smt158_14 k)
set_option maxRecDepth 100000 in
theorem smt158_8 (k : Nat) : ∀ f, mt158_8 k = some f → mo_Sim 158 k f := mt_node (smt158_9 k) (smt158_12 k)
set_option maxRecDepth 100000 in
theorem smt158_0 (k : Nat) : ∀ f, mt158_0 k = some f → mo_Sim 158 k f := mt_node (smt158_1 k) (smt158_8 k)
set_option maxRecDepth 100000 in
theorem smt159_2 (k : Nat) : ∀ f, mt159_2 k = some f → mo_Sim 159 k f := mt_leaf (ms_ild (e := (.iload_n 1, 1, 0, 0, 0)) rfl (fun _ _ _ => rfl) : mo_Sim 159 0 (ma_load 0 1 1)) (mt_leaf (ms_if0 (e := (.ifCond .lt 11, 4, 12, 0, 0)) rfl (fun _ _ _ => rfl) : mo_Sim 159 1 (ma_if0 .lt 12 1 4)) (mt_leaf (ms_ild (e := (.iload_n 1, 5, 0, 0, 0)) rfl (fun _ _ _ => rfl) : mo_Sim 159 4 (ma_load 0 1 5)) (mt_leaf (ms_ald (e := (.aload_n 0, 6, 0, 0, 0)) rfl (fun _ _ _ => rfl) : mo_Sim 159 5 (ma_lda 0 6)) (mt_none))))
set_option maxRecDepth 100000 in
theorem smt159_4 (k : Nat) : ∀ f, mt159_4 k = some f → mo_Sim 159 k f := mt_leaf (ms_getf (e := (.getfield 75, 9, 12, 7, 1059)) rfl (fun _ _ _ => rfl) : mo_Sim 159 6 (ma_getf 12 7 9)) (mt_leaf (ms_if2 (e := (.if_icmp .lt 9, 12, 18, 0, 0)) rfl (fun _ _ _ => rfl) : mo_Sim 159 9 (ma_if2 .lt 18 9 12)) (mt_none))
set_option maxRecDepth 100000 in
theorem smt159_5 (k : Nat) : ∀ f, mt159_5 k = some f → mo_Sim 159 k f := mt_leaf (ms_pushl (e := (.ldc2_w 98, 15, 18446744073709551615, 0, 1175)) rfl (fun _ _ _ => rfl) (by decide) : mo_Sim 159 12 (ma_push (ma_cl (.negSucc 0)) 15)) (mt_leaf (ms_goto (e := (.goto 19, 18, 34, 0, 0)) rfl (fun _ _ _ => rfl) : mo_Sim 159 15 (ma_goto 34)) (mt_leaf (ms_ald (e := (.aload_n 0, 19, 0, 0, 0)) rfl (fun _ _ _ => rfl) : mo_Sim 159 18 (ma_lda 0 19)) (mt_none)))
set_option maxRecDepth 100000 in
theorem smt159_3 (k : Nat) : ∀ f, mt159_3 k = some f → mo_Sim 159 k f := mt_node (smt159_4 k) (smt159_5 k)
set_option maxRecDepth 100000 in
theorem smt159_1 (k : Nat) : ∀ f, mt159_1 k = some f → mo_Sim 159 k f := mt_node (smt159_2 k) (smt159_3 k)
set_option maxRecDepth 100000 in
theorem smt159_8 (k : Nat) : ∀ f, mt159_8 k = some f → mo_Sim 159 k f := mt_leaf (ms_ald (e := (.aload_n 0, 20, 0, 0, 0)) rfl (fun _ _ _ => rfl) : mo_Sim 159 19 (ma_lda 0 20)) (mt_leaf (ms_getf (e := (.getfield 30, 23, 12, 8, 1060)) rfl (fun _ _ _ => rfl) : mo_Sim 159 20 (ma_getf 12 8 23)) (mt_none))
set_option maxRecDepth 100000 in
theorem smt159_9 (k : Nat) : ∀ f, mt159_9 k = some f → mo_Sim 159 k f := mt_leaf (ms_ild (e := (.iload_n 1, 24, 0, 0, 0)) rfl (fun _ _ _ => rfl) : mo_Sim 159 23 (ma_load 0 1 24)) (mt_leaf (ms_iald (e := (.iaload, 25, 0, 0, 0)) rfl (fun _ _ _ => rfl) : mo_Sim 159 24 (ma_iald 24 25)) (mt_leaf (ms_ald (e := (.aload_n 0, 26, 0, 0, 0)) rfl (fun _ _ _ => rfl) : mo_Sim 159 25 (ma_lda 0 26)) (mt_none)))
set_option maxRecDepth 100000 in
theorem smt159_7 (k : Nat) : ∀ f, mt159_7 k = some f → mo_Sim 159 k f := mt_node (smt159_8 k) (smt159_9 k)
set_option maxRecDepth 100000 in
theorem smt159_11 (k : Nat) : ∀ f, mt159_11 k = some f → mo_Sim 159 k f := mt_leaf (ms_getf (e := (.getfield 33, 29, 12, 9, 1061)) rfl (fun _ _ _ => rfl) : mo_Sim 159 26 (ma_getf 12 9 29)) (mt_leaf (ms_ild (e := (.iload_n 1, 30, 0, 0, 0)) rfl (fun _ _ _ => rfl) : mo_Sim 159 29 (ma_load 0 1 30)) (mt_none))
set_option maxRecDepth 100000 in
theorem smt159_12 (k : Nat) : ∀ f, mt159_12 k = some f → mo_Sim 159 k f := mt_leaf (ms_lald (e := (.laload, 31, 0, 0, 0)) rfl (fun _ _ _ => rfl) : mo_Sim 159 30 (ma_lald 31)) (mt_leaf (ms_invV (p := 2) (e := (.invokevirtual 112, 34, 157, 0, 1196)) rfl rfl (fun _ _ _ => rfl) rfl rfl rfl (by decide) : mo_Sim 159 31 (ma_inv 157 3 9 12 34)) (mt_leaf (ms_ret (e := (.lreturn, 35, 0, 0, 0)) rfl (Or.inr (Or.inr (Or.inr ⟨rfl, rfl, (fun _ _ _ => rfl)⟩))) : mo_Sim 159 34 (ma_ret 3)) (mt_none)))
set_option maxRecDepth 100000 in
theorem smt159_10 (k : Nat) : ∀ f, mt159_10 k = some f → mo_Sim 159 k f := mt_node (smt159_11 k) (smt159_12 k)
set_option maxRecDepth 100000 in
theorem smt159_6 (k : Nat) : ∀ f, mt159_6 k = some f → mo_Sim 159 k f := mt_node (smt159_7 k) (smt159_10 k)
set_option maxRecDepth 100000 in
theorem smt159_0 (k : Nat) : ∀ f, mt159_0 k = some f → mo_Sim 159 k f := mt_node (smt159_1 k) (smt159_6 k)
set_option maxRecDepth 100000 in
theorem smt160_3 (k : Nat) : ∀ f, mt160_3 k = some f → mo_Sim 160 k f := mt_leaf (ms_ild (e := (.iload_n 1, 1, 0, 0, 0)) rfl (fun _ _ _ => rfl) : mo_Sim 160 0 (ma_load 0 1 1)) (mt_leaf (ms_pushi (e := (.iconst 1, 2, 0, 0, 0)) rfl (fun _ _ _ => rfl) (by decide) : mo_Sim 160 1 (ma_push (ma_ci (.ofNat 1)) 2)) (mt_leaf (ms_if2 (e := (.if_icmp .lt 8, 5, 10, 0, 0)) rfl (fun _ _ _ => rfl) : mo_Sim 160 2 (ma_if2 .lt 10 2 5)) (mt_leaf (ms_ild (e := (.iload_n 1, 6, 0, 0, 0)) rfl (fun _ _ _ => rfl) : mo_Sim 160 5 (ma_load 0 1 6)) (mt_none))))
set_option maxRecDepth 100000 in
theorem smt160_5 (k : Nat) : ∀ f, mt160_5 k = some f → mo_Sim 160 k f := mt_leaf (ms_pushi (e := (.iconst 2, 7, 0, 0, 0)) rfl (fun _ _ _ => rfl) (by decide) : mo_Sim 160 6 (ma_push (ma_ci (.ofNat 2)) 7)) (mt_leaf (ms_if2 (e := (.if_icmp .le 5, 10, 12, 0, 0)) rfl (fun _ _ _ => rfl) : mo_Sim 160 7 (ma_if2 .le 12 7 10)) (mt_none))
set_option maxRecDepth 100000 in
theorem smt160_6 (k : Nat) : ∀ f, mt160_6 k = some f → mo_Sim 160 k f := mt_leaf (ms_pushi (e := (.iconst (-1), 11, 0, 0, 0)) rfl (fun _ _ _ => rfl) (by decide) : mo_Sim 160 10 (ma_push (ma_ci (.negSucc 0)) 11)) (mt_leaf (ms_ret (e := (.ireturn, 12, 0, 0, 0)) rfl (Or.inl ⟨rfl, rfl, (fun _ _ _ => rfl)⟩) : mo_Sim 160 11 (ma_ret 0)) (mt_leaf (ms_pushi (e := (.iconst 0, 13, 0, 0, 0)) rfl (fun _ _ _ => rfl) (by decide) : mo_Sim 160 12 (ma_push (ma_ci (.ofNat 0)) 13)) (mt_none)))
set_option maxRecDepth 100000 in
theorem smt160_4 (k : Nat) : ∀ f, mt160_4 k = some f → mo_Sim 160 k f := mt_node (smt160_5 k) (smt160_6 k)
set_option maxRecDepth 100000 in
theorem smt160_2 (k : Nat) : ∀ f, mt160_2 k = some f → mo_Sim 160 k f := mt_node (smt160_3 k) (smt160_4 k)
set_option maxRecDepth 100000 in
theorem smt160_9 (k : Nat) : ∀ f, mt160_9 k = some f → mo_Sim 160 k f := mt_leaf (ms_ist (e := (.istore_n 2, 14, 0, 0, 0)) rfl (fun _ _ _ => rfl) : mo_Sim 160 13 (ma_stor 0 2 14)) (mt_leaf (ms_pushl (e := (.lconst 0, 15, 0, 0, 0)) rfl (fun _ _ _ => rfl) (by decide) : mo_Sim 160 14 (ma_push (ma_cl (.ofNat 0)) 15)) (mt_none))
set_option maxRecDepth 100000 in
theorem smt160_10 (k : Nat) : ∀ f, mt160_10 k = some f → mo_Sim 160 k f := mt_leaf (ms_lst (e := (.lstore_n 3, 16, 0, 0, 0)) rfl (fun _ _ _ => rfl) : mo_Sim 160 15 (ma_stol 3 16)) (mt_leaf (ms_lld (e := (.lload_n 3, 17, 0, 0, 0)) rfl (fun _ _ _ => rfl) : mo_Sim 160 16 (ma_load 2 3 17)) (mt_leaf (ms_pushl (e := (.lconst 1, 18, 0, 0, 0)) rfl (fun _ _ _ => rfl) (by decide) : mo_Sim 160 17 (ma_push (ma_cl (.ofNat 1)) 18)) (mt_none)))
set_option maxRecDepth 100000 in
theorem smt160_8 (k : Nat) : ∀ f, mt160_8 k = some f → mo_Sim 160 k f := mt_node (smt160_9 k) (smt160_10 k)
set_option maxRecDepth 100000 in
theorem smt160_12 (k : Nat) : ∀ f, mt160_12 k = some f → mo_Sim 160 k f := mt_leaf (ms_ald (e := (.aload_n 0, 19, 0, 0, 0)) rfl (fun _ _ _ => rfl) : mo_Sim 160 18 (ma_lda 0 19)) (mt_leaf (ms_getf (e := (.getfield 7, 22, 12, 0, 1052)) rfl (fun _ _ _ => rfl) : mo_Sim 160 19 (ma_getf 12 0 22)) (mt_none))
set_option maxRecDepth 100000 in
theorem smt160_13 (k : Nat) : ∀ f, mt160_13 k = some f → mo_Sim 160 k f := mt_leaf (ms_ild (e := (.iload_n 1, 23, 0, 0, 0)) rfl (fun _ _ _ => rfl) : mo_Sim 160 22 (ma_load 0 1 23)) (mt_leaf (ms_invS (e := (.invokestatic 88, 26, 140, 1, 1155)) rfl rfl (fun _ _ _ => rfl) rfl rfl : mo_Sim 160 23 (ma_inv 140 2 4 20 26)) (mt_leaf (ms_ls (e := (.lshl, 27, 0, 0, 0)) rfl (fun _ _ _ => rfl) hg_shl : mo_Sim 160 26 (ma_ls ma_gshl 26 27)) (mt_none)))
set_option maxRecDepth 100000 in
theorem smt160_11 (k : Nat) : ∀ f, mt160_11 k = some f → mo_Sim 160 k f := mt_node (smt160_12 k) (smt160_13 k)
set_option maxRecDepth 100000 in
theorem smt160_7 (k : Nat) : ∀ f, mt160_7 k = some f → mo_Sim 160 k f := mt_node (smt160_8 k) (smt160_11 k)
set_option maxRecDepth 100000 in
theorem smt160_1 (k : Nat) : ∀ f, mt160_1 k = some f → mo_Sim 160 k f := mt_node (smt160_2 k) (smt160_7 k)
set_option maxRecDepth 100000 in
theorem smt160_17 (k : Nat) : ∀ f, mt160_17 k = some f → mo_Sim 160 k f := mt_leaf (ms_lcmp (e := (.lcmp, 28, 0, 0, 0)) rfl (fun _ _ _ => rfl) : mo_Sim 160 27 (ma_lcmp 28)) (mt_leaf (ms_if0 (e := (.ifCond .ge 27, 31, 55, 0, 0)) rfl (fun _ _ _ => rfl) : mo_Sim 160 28 (ma_if0 .ge 55 28 31)) (mt_none))
set_option maxRecDepth 100000 in
theorem smt160_18 (k : Nat) : ∀ f, mt160_18 k = some f → mo_Sim 160 k f := mt_leaf (ms_ild (e := (.iload_n 2, 32, 0, 0, 0)) rfl (fun _ _ _ => rfl) : mo_Sim 160 31 (ma_load 0 2 32)) (mt_leaf (ms_ald (e := (.aload_n 0, 33, 0, 0, 0)) rfl (fun _ _ _ => rfl) : mo_Sim 160 32 (ma_lda 0 33)) (mt_leaf (ms_ild (e := (.iload_n 1, 34, 0, 0, 0)) rfl (fun _ _ _ => rfl) : mo_Sim 160 33 (ma_load 0 1 34)) (mt_none)))
set_option maxRecDepth 100000 in
theorem smt160_16 (k : Nat) : ∀ f, mt160_16 k = some f → mo_Sim 160 k f := mt_node (smt160_17 k) (smt160_18 k)
set_option maxRecDepth 100000 in
theorem smt160_20 (k : Nat) : ∀ f, mt160_20 k = some f → mo_Sim 160 k f := mt_leaf (ms_lld (e := (.lload_n 3, 35, 0, 0, 0)) rfl (fun _ _ _ => rfl) : mo_Sim 160 34 (ma_load 2 3 35)) (mt_leaf (ms_invV (p := 2) (e := (.invokevirtual 116, 38, 156, 0, 1204)) rfl rfl (fun _ _ _ => rfl) rfl rfl rfl (by decide) : mo_Sim 160 35 (ma_inv 156 3 5 12 38)) (mt_none))
set_option maxRecDepth 100000 in
theorem smt160_21 (k : Nat) : ∀ f, mt160_21 k = some f → mo_Sim 160 k f := mt_leaf (ms_if0 (e := (.ifCond .eq 7, 41, 45, 0, 0)) rfl (fun _ _ _ => rfl) : mo_Sim 160 38 (ma_if0 .eq 45 38 41)) (mt_leaf (ms_pushi (e := (.iconst 1, 42, 0, 0, 0)) rfl (fun _ _ _ => rfl) (by decide) : mo_Sim 160 41 (ma_push (ma_ci (.ofNat 1)) 42)) (mt_leaf (ms_goto (e := (.goto 4, 45, 46, 0, 0)) rfl (fun _ _ _ => rfl) : mo_Sim 160 42 (ma_goto 46)) (mt_none)))
set_option maxRecDepth 100000 in
theorem smt160_19 (k : Nat) : ∀ f, mt160_19 k = some f → mo_Sim 160 k f := mt_node (smt160_20 k) (smt160_21 k)
set_option maxRecDepth 100000 in
theorem smt160_15 (k : Nat) : ∀ f, mt160_15 k = some f → mo_Sim 160 k f := mt_node (smt160_16 k) (smt160_19 k)
set_option maxRecDepth 100000 in
theorem smt160_24 (k : Nat) : ∀ f, mt160_24 k = some f → mo_Sim 160 k f := mt_leaf (ms_pushi (e := (.iconst 0, 46, 0, 0, 0)) rfl (fun _ _ _ => rfl) (by decide) : mo_Sim 160 45 (ma_push (ma_ci (.ofNat 0)) 46)) (mt_leaf (ms_iadd (e := (.iadd, 47, 0, 0, 0)) rfl (fun _ _ _ => rfl) : mo_Sim 160 46 (ma_iadd 46 47)) (mt_none))
set_option maxRecDepth 100000 in
theorem smt160_25 (k : Nat) : ∀ f, mt160_25 k = some f → mo_Sim 160 k f := mt_leaf (ms_ist (e := (.istore_n 2, 48, 0, 0, 0)) rfl (fun _ _ _ => rfl) : mo_Sim 160 47 (ma_stor 0 2 48)) (mt_leaf (ms_lld (e := (.lload_n 3, 49, 0, 0, 0)) rfl (fun _ _ _ => rfl) : mo_Sim 160 48 (ma_load 2 3 49)) (mt_leaf (ms_pushl (e := (.lconst 1, 50, 0, 0, 0)) rfl (fun _ _ _ => rfl) (by decide) : mo_Sim 160 49 (ma_push (ma_cl (.ofNat 1)) 50)) (mt_none)))
set_option maxRecDepth 100000 in
theorem smt160_23 (k : Nat) : ∀ f, mt160_23 k = some f → mo_Sim 160 k f := mt_node (smt160_24 k) (smt160_25 k)
set_option maxRecDepth 100000 in
theorem smt160_27 (k : Nat) : ∀ f, mt160_27 k = some f → mo_Sim 160 k f := mt_leaf (ms_l2 (e := (.ladd, 51, 0, 0, 0)) rfl (fun _ _ _ => rfl) hg_add : mo_Sim 160 50 (ma_l2 ma_gadd 51)) (mt_leaf (ms_lst (e := (.lstore_n 3, 52, 0, 0, 0)) rfl (fun _ _ _ => rfl) : mo_Sim 160 51 (ma_stol 3 52)) (mt_none))
set_option maxRecDepth 100000 in
theorem smt160_28 (k : Nat) : ∀ f, mt160_28 k = some f → mo_Sim 160 k f := mt_leaf (ms_goto (e := (.goto (-36), 55, 16, 0, 0)) rfl (fun _ _ _ => rfl) : mo_Sim 160 52 (ma_goto 16)) (mt_leaf (ms_ild (e := (.iload_n 2, 56, 0, 0, 0)) rfl (fun _ _ _ => rfl) : mo_Sim 160 55 (ma_load 0 2 56)) (mt_leaf (ms_ret (e := (.ireturn, 57, 0, 0, 0)) rfl (Or.inl ⟨rfl, rfl, (fun _ _ _ => rfl)⟩) : mo_Sim 160 56 (ma_ret 0)) (mt_none)))
set_option maxRecDepth 100000 in
theorem smt160_26 (k : Nat) : ∀ f, mt160_26 k = some f → mo_Sim 160 k f := mt_node (smt160_27 k) (smt160_28 k)
set_option maxRecDepth 100000 in
theorem smt160_22 (k : Nat) : ∀ f, mt160_22 k = some f → mo_Sim 160 k f := mt_node (smt160_23 k) (smt160_26 k)
set_option maxRecDepth 100000 in
theorem smt160_14 (k : Nat) : ∀ f, mt160_14 k = some f → mo_Sim 160 k f := mt_node (smt160_15 k) (smt160_22 k)
set_option maxRecDepth 100000 in
theorem smt160_0 (k : Nat) : ∀ f, mt160_0 k = some f → mo_Sim 160 k f := mt_node (smt160_1 k) (smt160_14 k)
set_option maxRecDepth 100000 in
theorem smt161_2 (k : Nat) : ∀ f, mt161_2 k = some f → mo_Sim 161 k f := mt_leaf (ms_ild (e := (.iload_n 1, 1, 0, 0, 0)) rfl (fun _ _ _ => rfl) : mo_Sim 161 0 (ma_load 0 1 1)) (mt_leaf (ms_pushi (e := (.iconst 1, 2, 0, 0, 0)) rfl (fun _ _ _ => rfl) (by decide) : mo_Sim 161 1 (ma_push (ma_ci (.ofNat 1)) 2)) (mt_leaf (ms_if2 (e := (.if_icmp .lt 24, 5, 26, 0, 0)) rfl (fun _ _ _ => rfl) : mo_Sim 161 2 (ma_if2 .lt 26 2 5)) (mt_leaf (ms_ild (e := (.iload_n 1, 6, 0, 0, 0)) rfl (fun _ _ _ => rfl) : mo_Sim 161 5 (ma_load 0 1 6)) (mt_none))))
set_option maxRecDepth 100000 in
theorem smt161_3 (k : Nat) : ∀ f, mt161_3 k = some f → mo_Sim 161 k f := mt_leaf (ms_ald (e := (.aload_n 0, 7, 0, 0, 0)) rfl (fun _ _ _ => rfl) : mo_Sim 161 6 (ma_lda 0 7)) (mt_leaf (ms_getf (e := (.getfield 7, 10, 12, 0, 1052)) rfl (fun _ _ _ => rfl) : mo_Sim 161 7 (ma_getf 12 0 10)) (mt_leaf (ms_pushi (e := (.iconst 2, 11, 0, 0, 0)) rfl (fun _ _ _ => rfl) (by decide) : mo_Sim 161 10 (ma_push (ma_ci (.ofNat 2)) 11)) (mt_leaf (ms_if2 (e := (.if_icmp .ne 7, 14, 18, 0, 0)) rfl (fun _ _ _ => rfl) : mo_Sim 161 11 (ma_if2 .ne 18 11 14)) (mt_none))))
set_option maxRecDepth 100000 in
theorem smt161_1 (k : Nat) : ∀ f, mt161_1 k = some f → mo_Sim 161 k f := mt_node (smt161_2 k) (smt161_3 k)
set_option maxRecDepth 100000 in
theorem smt161_5 (k : Nat) : ∀ f, mt161_5 k = some f → mo_Sim 161 k f := mt_leaf (ms_pushi (e := (.iconst 3, 15, 0, 0, 0)) rfl (fun _ _ _ => rfl) (by decide) : mo_Sim 161 14 (ma_push (ma_ci (.ofNat 3)) 15)) (mt_leaf (ms_goto (e := (.goto 4, 18, 19, 0, 0)) rfl (fun _ _ _ => rfl) : mo_Sim 161 15 (ma_goto 19)) (mt_leaf (ms_pushi (e := (.iconst 2, 19, 0, 0, 0)) rfl (fun _ _ _ => rfl) (by decide) : mo_Sim 161 18 (ma_push (ma_ci (.ofNat 2)) 19)) (mt_leaf (ms_if2 (e := (.if_icmp .gt 7, 22, 26, 0, 0)) rfl (fun _ _ _ => rfl) : mo_Sim 161 19 (ma_if2 .gt 26 19 22)) (mt_none))))
set_option maxRecDepth 100000 in
theorem smt161_6 (k : Nat) : ∀ f, mt161_6 k = some f → mo_Sim 161 k f := mt_leaf (ms_pushi (e := (.iconst 1, 23, 0, 0, 0)) rfl (fun _ _ _ => rfl) (by decide) : mo_Sim 161 22 (ma_push (ma_ci (.ofNat 1)) 23)) (mt_leaf (ms_goto (e := (.goto 4, 26, 27, 0, 0)) rfl (fun _ _ _ => rfl) : mo_Sim 161 23 (ma_goto 27)) (mt_leaf (ms_pushi (e := (.iconst 0, 27, 0, 0, 0)) rfl (fun _ _ _ => rfl) (by decide) : mo_Sim 161 26 (ma_push (ma_ci (.ofNat 0)) 27)) (mt_leaf (ms_ret (e := (.ireturn, 28, 0, 0, 0)) rfl (Or.inr (Or.inl ⟨rfl, rfl, (fun _ _ _ => rfl)⟩)) : mo_Sim 161 27 (ma_ret 1)) (mt_none))))
set_option maxRecDepth 100000 in
theorem smt161_4 (k : Nat) : ∀ f, mt161_4 k = some f → mo_Sim 161 k f := mt_node (smt161_5 k) (smt161_6 k)
set_option maxRecDepth 100000 in
theorem smt161_0 (k : Nat) : ∀ f, mt161_0 k = some f → mo_Sim 161 k f := mt_node (smt161_1 k) (smt161_4 k)
set_option maxRecDepth 100000 in
theorem smt162_1 (k : Nat) : ∀ f, mt162_1 k = some f → mo_Sim 162 k f := mt_leaf (ms_ald (e := (.aload_n 0, 1, 0, 0, 0)) rfl (fun _ _ _ => rfl) : mo_Sim 162 0 (ma_lda 0 1)) (mt_leaf (ms_getf (e := (.getfield 7, 4, 12, 0, 1052)) rfl (fun _ _ _ => rfl) : mo_Sim 162 1 (ma_getf 12 0 4)) (mt_none))
set_option maxRecDepth 100000 in
theorem smt162_2 (k : Nat) : ∀ f, mt162_2 k = some f → mo_Sim 162 k f := mt_leaf (ms_ild (e := (.iload_n 1, 5, 0, 0, 0)) rfl (fun _ _ _ => rfl) : mo_Sim 162 4 (ma_load 0 1 5)) (mt_leaf (ms_invS (e := (.invokestatic 88, 8, 140, 1, 1155)) rfl rfl (fun _ _ _ => rfl) rfl rfl : mo_Sim 162 5 (ma_inv 140 2 4 20 8)) (mt_leaf (ms_ret (e := (.ireturn, 9, 0, 0, 0)) rfl (Or.inl ⟨rfl, rfl, (fun _ _ _ => rfl)⟩) : mo_Sim 162 8 (ma_ret 0)) (mt_none)))
set_option maxRecDepth 100000 in
theorem smt162_0 (k : Nat) : ∀ f, mt162_0 k = some f → mo_Sim 162 k f := mt_node (smt162_1 k) (smt162_2 k)
set_option maxRecDepth 100000 in
theorem smt163_5 (k : Nat) : ∀ f, mt163_5 k = some f → mo_Sim 163 k f := mt_leaf (ms_ald (e := (.aload_n 0, 1, 0, 0, 0)) rfl (fun _ _ _ => rfl) : mo_Sim 163 0 (ma_lda 0 1)) (mt_leaf (ms_getf (e := (.getfield 24, 4, 12, 5, 1057)) rfl (fun _ _ _ => rfl) : mo_Sim 163 1 (ma_getf 12 5 4)) (mt_none))
set_option maxRecDepth 100000 in
theorem smt163_6 (k : Nat) : ∀ f, mt163_6 k = some f → mo_Sim 163 k f := mt_leaf (ms_ild (e := (.iload_n 1, 5, 0, 0, 0)) rfl (fun _ _ _ => rfl) : mo_Sim 163 4 (ma_load 0 1 5)) (mt_leaf (ms_iald (e := (.iaload, 6, 0, 0, 0)) rfl (fun _ _ _ => rfl) : mo_Sim 163 5 (ma_iald 5 6)) (mt_leaf (ms_ist (e := (.istore 7, 8, 0, 0, 0)) rfl (fun _ _ _ => rfl) : mo_Sim 163 6 (ma_stor 0 7 8)) (mt_none)))
set_option maxRecDepth 100000 in
theorem smt163_4 (k : Nat) : ∀ f, mt163_4 k = some f → mo_Sim 163 k f := mt_node (smt163_5 k) (smt163_6 k)
set_option maxRecDepth 100000 in
theorem smt163_8 (k : Nat) : ∀ f, mt163_8 k = some f → mo_Sim 163 k f := mt_leaf (ms_pushi (e := (.iconst 0, 9, 0, 0, 0)) rfl (fun _ _ _ => rfl) (by decide) : mo_Sim 163 8 (ma_push (ma_ci (.ofNat 0)) 9)) (mt_leaf (ms_ist (e := (.istore 8, 11, 0, 0, 0)) rfl (fun _ _ _ => rfl) : mo_Sim 163 9 (ma_stor 0 8 11)) (mt_leaf (ms_ild (e := (.iload_n 2, 12, 0, 0, 0)) rfl (fun _ _ _ => rfl) : mo_Sim 163 11 (ma_load 0 2 12)) (mt_none)))
set_option maxRecDepth 100000 in
theorem smt163_9 (k : Nat) : ∀ f, mt163_9 k = some f → mo_Sim 163 k f := mt_leaf (ms_pushi (e := (.iconst 1, 13, 0, 0, 0)) rfl (fun _ _ _ => rfl) (by decide) : mo_Sim 163 12 (ma_push (ma_ci (.ofNat 1)) 13)) (mt_leaf (ms_isub (e := (.isub, 14, 0, 0, 0)) rfl (fun _ _ _ => rfl) : mo_Sim 163 13 (ma_isub 13 14)) (mt_leaf (ms_ist (e := (.istore 9, 16, 0, 0, 0)) rfl (fun _ _ _ => rfl) : mo_Sim 163 14 (ma_stor 0 9 16)) (mt_none)))
set_option maxRecDepth 100000 in
theorem smt163_7 (k : Nat) : ∀ f, mt163_7 k = some f → mo_Sim 163 k f := mt_node (smt163_8 k) (smt163_9 k)
set_option maxRecDepth 100000 in
theorem smt163_3 (k : Nat) : ∀ f, mt163_3 k = some f → mo_Sim 163 k f := mt_node (smt163_4 k) (smt163_7 k)
set_option maxRecDepth 100000 in
theorem smt163_12 (k : Nat) : ∀ f, mt163_12 k = some f → mo_Sim 163 k f := mt_leaf (ms_ild (e := (.iload 9, 18, 0, 0, 0)) rfl (fun _ _ _ => rfl) : mo_Sim 163 16 (ma_load 0 9 18)) (mt_leaf (ms_if0 (e := (.ifCond .lt 103, 21, 121, 0, 0)) rfl (fun _ _ _ => rfl) : mo_Sim 163 18 (ma_if0 .lt 121 18 21)) (mt_leaf (ms_ald (e := (.aload_n 0, 22, 0, 0, 0)) rfl (fun _ _ _ => rfl) : mo_Sim 163 21 (ma_lda 0 22)) (mt_none)))
set_option maxRecDepth 100000 in
theorem smt163_13 (k : Nat) : ∀ f, mt163_13 k = some f → mo_Sim 163 k f := mt_leaf (ms_getf (e := (.getfield 57, 25, 12, 18, 1070)) rfl (fun _ _ _ => rfl) : mo_Sim 163 22 (ma_getf 12 18 25)) (mt_leaf (ms_pushi (e := (.bipush 9, 27, 0, 0, 0)) rfl (fun _ _ _ => rfl) (by decide) : mo_Sim 163 25 (ma_push (ma_ci (.ofNat 9)) 27)) (mt_leaf (ms_ild (e := (.iload_n 3, 28, 0, 0, 0)) rfl (fun _ _ _ => rfl) : mo_Sim 163 27 (ma_load 0 3 28)) (mt_none)))
set_option maxRecDepth 100000 in
theorem smt163_11 (k : Nat) : ∀ f, mt163_11 k = some f → mo_Sim 163 k f := mt_node (smt163_12 k) (smt163_13 k)
set_option maxRecDepth 100000 in
theorem smt163_15 (k : Nat) : ∀ f, mt163_15 k = some f → mo_Sim 163 k f := mt_leaf (ms_i2 (e := (.imul, 29, 0, 0, 0)) rfl (fun _ _ _ => rfl) hf_mul : mo_Sim 163 28 (ma_i2 ma_fmul 28 29)) (mt_leaf (ms_ild (e := (.iload 9, 31, 0, 0, 0)) rfl (fun _ _ _ => rfl) : mo_Sim 163 29 (ma_load 0 9 31)) (mt_leaf (ms_iadd (e := (.iadd, 32, 0, 0, 0)) rfl (fun _ _ _ => rfl) : mo_Sim 163 31 (ma_iadd 31 32)) (mt_none)))
set_option maxRecDepth 100000 in
theorem smt163_16 (k : Nat) : ∀ f, mt163_16 k = some f → mo_Sim 163 k f := mt_leaf (ms_iald (e := (.iaload, 33, 0, 0, 0)) rfl (fun _ _ _ => rfl) : mo_Sim 163 32 (ma_iald 32 33)) (mt_leaf (ms_ist (e := (.istore 10, 35, 0, 0, 0)) rfl (fun _ _ _ => rfl) : mo_Sim 163 33 (ma_stor 0 10 35)) (mt_leaf (ms_ild (e := (.iload 7, 37, 0, 0, 0)) rfl (fun _ _ _ => rfl) : mo_Sim 163 35 (ma_load 0 7 37)) (mt_none)))
set_option maxRecDepth 100000 in
theorem smt163_14 (k : Nat) : ∀ f, mt163_14 k = some f → mo_Sim 163 k f := mt_node (smt163_15 k) (smt163_16 k)
set_option maxRecDepth 100000 in
theorem smt163_10 (k : Nat) : ∀ f, mt163_10 k = some f → mo_Sim 163 k f := mt_node (smt163_11 k) (smt163_14 k)
set_option maxRecDepth 100000 in
theorem smt163_2 (k : Nat) : ∀ f, mt163_2 k = some f → mo_Sim 163 k f := mt_node (smt163_3 k) (smt163_10 k)
set_option maxRecDepth 100000 in
theorem smt163_20 (k : Nat) : ∀ f, mt163_20 k = some f → mo_Sim 163 k f := mt_leaf (ms_pushi (e := (.iconst 1, 38, 0, 0, 0)) rfl (fun _ _ _ => rfl) (by decide) : mo_Sim 163 37 (ma_push (ma_ci (.ofNat 1)) 38)) (mt_leaf (ms_if2 (e := (.if_icmp .le 26, 41, 64, 0, 0)) rfl (fun _ _ _ => rfl) : mo_Sim 163 38 (ma_if2 .le 64 38 41)) (mt_none))
set_option maxRecDepth 100000 in
theorem smt163_21 (k : Nat) : ∀ f, mt163_21 k = some f → mo_Sim 163 k f := mt_leaf (ms_ild (e := (.iload 10, 43, 0, 0, 0)) rfl (fun _ _ _ => rfl) : mo_Sim 163 41 (ma_load 0 10 43)) (mt_leaf (ms_ald (e := (.aload_n 0, 44, 0, 0, 0)) rfl (fun _ _ _ => rfl) : mo_Sim 163 43 (ma_lda 0 44)) (mt_leaf (ms_getf (e := (.getfield 7, 47, 12, 0, 1052)) rfl (fun _ _ _ => rfl) : mo_Sim 163 44 (ma_getf 12 0 47)) (mt_none)))
set_option maxRecDepth 100000 in
theorem smt163_19 (k : Nat) : ∀ f, mt163_19 k = some f → mo_Sim 163 k f := mt_node (smt163_20 k) (smt163_21 k)
set_option maxRecDepth 100000 in
theorem smt163_23 (k : Nat) : ∀ f, mt163_23 k = some f → mo_Sim 163 k f := mt_leaf (ms_i2 (e := (.imul, 48, 0, 0, 0)) rfl (fun _ _ _ => rfl) hf_mul : mo_Sim 163 47 (ma_i2 ma_fmul 47 48)) (mt_leaf (ms_ald (e := (.aload_n 0, 49, 0, 0, 0)) rfl (fun _ _ _ => rfl) : mo_Sim 163 48 (ma_lda 0 49)) (mt_leaf (ms_getf (e := (.getfield 57, 52, 12, 18, 1070)) rfl (fun _ _ _ => rfl) : mo_Sim 163 49 (ma_getf 12 18 52)) (mt_none)))
set_option maxRecDepth 100000 in
theorem smt163_24 (k : Nat) : ∀ f, mt163_24 k = some f → mo_Sim 163 k f := mt_leaf (ms_pushi (e := (.bipush 9, 54, 0, 0, 0)) rfl (fun _ _ _ => rfl) (by decide) : mo_Sim 163 52 (ma_push (ma_ci (.ofNat 9)) 54)) (mt_leaf (ms_ild (e := (.iload 4, 56, 0, 0, 0)) rfl (fun _ _ _ => rfl) : mo_Sim 163 54 (ma_load 0 4 56)) (mt_leaf (ms_i2 (e := (.imul, 57, 0, 0, 0)) rfl (fun _ _ _ => rfl) hf_mul : mo_Sim 163 56 (ma_i2 ma_fmul 56 57)) (mt_none)))
set_option maxRecDepth 100000 in
theorem smt163_22 (k : Nat) : ∀ f, mt163_22 k = some f → mo_Sim 163 k f := mt_node (smt163_23 k) (smt163_24 k)
set_option maxRecDepth 100000 in
theorem smt163_18 (k : Nat) : ∀ f, mt163_18 k = some f → mo_Sim 163 k f := mt_node (smt163_19 k) (smt163_22 k)
set_option maxRecDepth 100000 in
theorem smt163_27 (k : Nat) : ∀ f, mt163_27 k = some f → mo_Sim 163 k f := mt_leaf (ms_ild (e := (.iload 9, 59, 0, 0, 0)) rfl (fun _ _ _ => rfl) : mo_Sim 163 57 (ma_load 0 9 59)) (mt_leaf (ms_iadd (e := (.iadd, 60, 0, 0, 0)) rfl (fun _ _ _ => rfl) : mo_Sim 163 59 (ma_iadd 59 60)) (mt_leaf (ms_iald (e := (.iaload, 61, 0, 0, 0)) rfl (fun _ _ _ => rfl) : mo_Sim 163 60 (ma_iald 60 61)) (mt_none)))
set_option maxRecDepth 100000 in
theorem smt163_28 (k : Nat) : ∀ f, mt163_28 k = some f → mo_Sim 163 k f := mt_leaf (ms_iadd (e := (.iadd, 62, 0, 0, 0)) rfl (fun _ _ _ => rfl) : mo_Sim 163 61 (ma_iadd 61 62)) (mt_leaf (ms_ist (e := (.istore 10, 64, 0, 0, 0)) rfl (fun _ _ _ => rfl) : mo_Sim 163 62 (ma_stor 0 10 64)) (mt_leaf (ms_ild (e := (.iload 7, 66, 0, 0, 0)) rfl (fun _ _ _ => rfl) : mo_Sim 163 64 (ma_load 0 7 66)) (mt_none)))
set_option maxRecDepth 100000 in
theorem smt163_26 (k : Nat) : ∀ f, mt163_26 k = some f → mo_Sim 163 k f := mt_node (smt163_27 k) (smt163_28 k)
set_option maxRecDepth 100000 in
theorem smt163_30 (k : Nat) : ∀ f, mt163_30 k = some f → mo_Sim 163 k f := mt_leaf (ms_pushi (e := (.iconst 2, 67, 0, 0, 0)) rfl (fun _ _ _ => rfl) (by decide) : mo_Sim 163 66 (ma_push (ma_ci (.ofNat 2)) 67)) (mt_leaf (ms_if2 (e := (.if_icmp .le 26, 70, 93, 0, 0)) rfl (fun _ _ _ => rfl) : mo_Sim 163 67 (ma_if2 .le 93 67 70)) (mt_leaf (ms_ild (e := (.iload 10, 72, 0, 0, 0)) rfl (fun _ _ _ => rfl) : mo_Sim 163 70 (ma_load 0 10 72)) (mt_none)))
set_option maxRecDepth 100000 in
theorem smt163_31 (k : Nat) : ∀ f, mt163_31 k = some f → mo_Sim 163 k f := mt_leaf (ms_ald (e := (.aload_n 0, 73, 0, 0, 0)) rfl (fun _ _ _ => rfl) : mo_Sim 163 72 (ma_lda 0 73)) (mt_leaf (ms_getf (e := (.getfield 7, 76, 12, 0, 1052)) rfl (fun _ _ _ => rfl) : mo_Sim 163 73 (ma_getf 12 0 76)) (mt_leaf (ms_i2 (e := (.imul, 77, 0, 0, 0)) rfl (fun _ _ _ => rfl) hf_mul : mo_Sim 163 76 (ma_i2 ma_fmul 76 77)) (mt_none)))
set_option maxRecDepth 100000 in
theorem smt163_29 (k : Nat) : ∀ f, mt163_29 k = some f → mo_Sim 163 k f := mt_node (smt163_30 k) (smt163_31 k)
set_option maxRecDepth 100000 in
theorem smt163_25 (k : Nat) : ∀ f, mt163_25 k = some f → mo_Sim 163 k f := mt_node (smt163_26 k) (smt163_29 k)
set_option maxRecDepth 100000 in
theorem smt163_17 (k : Nat) : ∀ f, mt163_17 k = some f → mo_Sim 163 k f := mt_node (smt163_18 k) (smt163_25 k)
set_option maxRecDepth 100000 in
theorem smt163_1 (k : Nat) : ∀ f, mt163_1 k = some f → mo_Sim 163 k f := mt_node (smt163_2 k) (smt163_17 k)
set_option maxRecDepth 100000 in
theorem smt163_36 (k : Nat) : ∀ f, mt163_36 k = some f → mo_Sim 163 k f := mt_leaf (ms_ald (e := (.aload_n 0, 78, 0, 0, 0)) rfl (fun _ _ _ => rfl) : mo_Sim 163 77 (ma_lda 0 78)) (mt_leaf (ms_getf (e := (.getfield 57, 81, 12, 18, 1070)) rfl (fun _ _ _ => rfl) : mo_Sim 163 78 (ma_getf 12 18 81)) (mt_none))
set_option maxRecDepth 100000 in
theorem smt163_37 (k : Nat) : ∀ f, mt163_37 k = some f → mo_Sim 163 k f := mt_leaf (ms_pushi (e := (.bipush 9, 83, 0, 0, 0)) rfl (fun _ _ _ => rfl) (by decide) : mo_Sim 163 81 (ma_push (ma_ci (.ofNat 9)) 83)) (mt_leaf (ms_ild (e := (.iload 5, 85, 0, 0, 0)) rfl (fun _ _ _ => rfl) : mo_Sim 163 83 (ma_load 0 5 85)) (mt_leaf (ms_i2 (e := (.imul, 86, 0, 0, 0)) rfl (fun _ _ _ => rfl) hf_mul : mo_Sim 163 85 (ma_i2 ma_fmul 85 86)) (mt_none)))
set_option maxRecDepth 100000 in
theorem smt163_35 (k : Nat) : ∀ f, mt163_35 k = some f → mo_Sim 163 k f := mt_node (smt163_36 k) (smt163_37 k)
set_option maxRecDepth 100000 in
theorem smt163_39 (k : Nat) : ∀ f, mt163_39 k = some f → mo_Sim 163 k f := mt_leaf (ms_ild (e := (.iload 9, 88, 0, 0, 0)) rfl (fun _ _ _ => rfl) : mo_Sim 163 86 (ma_load 0 9 88)) (mt_leaf (ms_iadd (e := (.iadd, 89, 0, 0, 0)) rfl (fun _ _ _ => rfl) : mo_Sim 163 88 (ma_iadd 88 89)) (mt_leaf (ms_iald (e := (.iaload, 90, 0, 0, 0)) rfl (fun _ _ _ => rfl) : mo_Sim 163 89 (ma_iald 89 90)) (mt_none)))
set_option maxRecDepth 100000 in
theorem smt163_40 (k : Nat) : ∀ f, mt163_40 k = some f → mo_Sim 163 k f := mt_leaf (ms_iadd (e := (.iadd, 91, 0, 0, 0)) rfl (fun _ _ _ => rfl) : mo_Sim 163 90 (ma_iadd 90 91)) (mt_leaf (ms_ist (e := (.istore 10, 93, 0, 0, 0)) rfl (fun _ _ _ => rfl) : mo_Sim 163 91 (ma_stor 0 10 93)) (mt_leaf (ms_ild (e := (.iload 8, 95, 0, 0, 0)) rfl (fun _ _ _ => rfl) : mo_Sim 163 93 (ma_load 0 8 95)) (mt_none)))
set_option maxRecDepth 100000 in
theorem smt163_38 (k : Nat) : ∀ f, mt163_38 k = some f → mo_Sim 163 k f := mt_node (smt163_39 k) (smt163_40 k)
set_option maxRecDepth 100000 in
theorem smt163_34 (k : Nat) : ∀ f, mt163_34 k = some f → mo_Sim 163 k f := mt_node (smt163_35 k) (smt163_38 k)
set_option maxRecDepth 100000 in
theorem smt163_43 (k : Nat) : ∀ f, mt163_43 k = some f → mo_Sim 163 k f := mt_leaf (ms_ald (e := (.aload_n 0, 96, 0, 0, 0)) rfl (fun _ _ _ => rfl) : mo_Sim 163 95 (ma_lda 0 96)) (mt_leaf (ms_getf (e := (.getfield 7, 99, 12, 0, 1052)) rfl (fun _ _ _ => rfl) : mo_Sim 163 96 (ma_getf 12 0 99)) (mt_leaf (ms_i2 (e := (.imul, 100, 0, 0, 0)) rfl (fun _ _ _ => rfl) hf_mul : mo_Sim 163 99 (ma_i2 ma_fmul 99 100)) (mt_none)))
set_option maxRecDepth 100000 in
theorem smt163_44 (k : Nat) : ∀ f, mt163_44 k = some f → mo_Sim 163 k f := mt_leaf (ms_ald (e := (.aload_n 0, 101, 0, 0, 0)) rfl (fun _ _ _ => rfl) : mo_Sim 163 100 (ma_lda 0 101)) (mt_leaf (ms_getf (e := (.getfield 27, 104, 12, 6, 1058)) rfl (fun _ _ _ => rfl) : mo_Sim 163 101 (ma_getf 12 6 104)) (mt_leaf (ms_pushi (e := (.bipush 27, 106, 0, 0, 0)) rfl (fun _ _ _ => rfl) (by decide) : mo_Sim 163 104 (ma_push (ma_ci (.ofNat 27)) 106)) (mt_none)))
set_option maxRecDepth 100000 in
theorem smt163_42 (k : Nat) : ∀ f, mt163_42 k = some f → mo_Sim 163 k f := mt_node (smt163_43 k) (smt163_44 k)
set_option maxRecDepth 100000 in
theorem smt163_46 (k : Nat) : ∀ f, mt163_46 k = some f → mo_Sim 163 k f := mt_leaf (ms_ild (e := (.iload_n 1, 107, 0, 0, 0)) rfl (fun _ _ _ => rfl) : mo_Sim 163 106 (ma_load 0 1 107)) (mt_leaf (ms_i2 (e := (.imul, 108, 0, 0, 0)) rfl (fun _ _ _ => rfl) hf_mul : mo_Sim 163 107 (ma_i2 ma_fmul 107 108)) (mt_leaf (ms_ild (e := (.iload 10, 110, 0, 0, 0)) rfl (fun _ _ _ => rfl) : mo_Sim 163 108 (ma_load 0 10 110)) (mt_none)))
set_option maxRecDepth 100000 in
theorem smt163_47 (k : Nat) : ∀ f, mt163_47 k = some f → mo_Sim 163 k f := mt_leaf (ms_iadd (e := (.iadd, 111, 0, 0, 0)) rfl (fun _ _ _ => rfl) : mo_Sim 163 110 (ma_iadd 110 111)) (mt_leaf (ms_iald (e := (.iaload, 112, 0, 0, 0)) rfl (fun _ _ _ => rfl) : mo_Sim 163 111 (ma_iald 111 112)) (mt_leaf (ms_iadd (e := (.iadd, 113, 0, 0, 0)) rfl (fun _ _ _ => rfl) : mo_Sim 163 112 (ma_iadd 112 113)) (mt_none)))
set_option maxRecDepth 100000 in
theorem smt163_45 (k : Nat) : ∀ f, mt163_45 k = some f → mo_Sim 163 k f := mt_node (smt163_46 k) (smt163_47 k)
set_option maxRecDepth 100000 in
theorem smt163_41 (k : Nat) : ∀ f, mt163_41 k = some f → mo_Sim 163 k f := mt_node (smt163_42 k) (smt163_45 k)
set_option maxRecDepth 100000 in
theorem smt163_33 (k : Nat) : ∀ f, mt163_33 k = some f → mo_Sim 163 k f := mt_node (smt163_34 k) (smt163_41 k)
set_option maxRecDepth 100000 in
theorem smt163_51 (k : Nat) : ∀ f, mt163_51 k = some f → mo_Sim 163 k f := mt_leaf (ms_ist (e := (.istore 8, 115, 0, 0, 0)) rfl (fun _ _ _ => rfl) : mo_Sim 163 113 (ma_stor 0 8 115)) (mt_leaf (ms_iinc (e := (.iinc 9 (-1), 118, 0, 0, 0)) rfl (fun _ _ _ => rfl) (by decide) : mo_Sim 163 115 (ma_iinc 9 (.negSucc 0) 115 118)) (mt_leaf (ms_goto (e := (.goto (-102), 121, 16, 0, 0)) rfl (fun _ _ _ => rfl) : mo_Sim 163 118 (ma_goto 16)) (mt_none)))
set_option maxRecDepth 100000 in
theorem smt163_52 (k : Nat) : ∀ f, mt163_52 k = some f → mo_Sim 163 k f := mt_leaf (ms_ald (e := (.aload_n 0, 122, 0, 0, 0)) rfl (fun _ _ _ => rfl) : mo_Sim 163 121 (ma_lda 0 122)) (mt_leaf (ms_getf (e := (.getfield 54, 125, 12, 17, 1069)) rfl (fun _ _ _ => rfl) : mo_Sim 163 122 (ma_getf 12 17 125)) (mt_leaf (ms_ild (e := (.iload 8, 127, 0, 0, 0)) rfl (fun _ _ _ => rfl) : mo_Sim 163 125 (ma_load 0 8 127)) (mt_none)))
set_option maxRecDepth 100000 in
theorem smt163_50 (k : Nat) : ∀ f, mt163_50 k = some f → mo_Sim 163 k f := mt_node (smt163_51 k) (smt163_52 k)
set_option maxRecDepth 100000 in
theorem smt163_54 (k : Nat) : ∀ f, mt163_54 k = some f → mo_Sim 163 k f := mt_leaf (ms_iald (e := (.iaload, 128, 0, 0, 0)) rfl (fun _ _ _ => rfl) : mo_Sim 163 127 (ma_iald 127 128)) (mt_leaf (ms_if0 (e := (.ifCond .eq 17, 131, 145, 0, 0)) rfl (fun _ _ _ => rfl) : mo_Sim 163 128 (ma_if0 .eq 145 128 131)) (mt_leaf (ms_ald (e := (.aload_n 0, 132, 0, 0, 0)) rfl (fun _ _ _ => rfl) : mo_Sim 163 131 (ma_lda 0 132)) (mt_none)))
set_option maxRecDepth 100000 in
theorem smt163_55 (k : Nat) : ∀ f, mt163_55 k = some f → mo_Sim 163 k f := mt_leaf (ms_getf (e := (.getfield 54, 135, 12, 17, 1069)) rfl (fun _ _ _ => rfl) : mo_Sim 163 132 (ma_getf 12 17 135)) (mt_leaf (ms_ild (e := (.iload 8, 137, 0, 0, 0)) rfl (fun _ _ _ => rfl) : mo_Sim 163 135 (ma_load 0 8 137)) (mt_leaf (ms_iald (e := (.iaload, 138, 0, 0, 0)) rfl (fun _ _ _ => rfl) : mo_Sim 163 137 (ma_iald 137 138)) (mt_none)))
set_option maxRecDepth 100000 in
theorem smt163_53 (k : Nat) : ∀ f, mt163_53 k = some f → mo_Sim 163 k f := mt_node (smt163_54 k) (smt163_55 k)
set_option maxRecDepth 100000 in
theorem smt163_49 (k : Nat) : ∀ f, mt163_49 k = some f → mo_Sim 163 k f := mt_node (smt163_50 k) (smt163_53 k)
set_option maxRecDepth 100000 in
theorem smt163_58 (k : Nat) : ∀ f, mt163_58 k = some f → mo_Sim 163 k f := mt_leaf (ms_ild (e := (.iload 6, 140, 0, 0, 0)) rfl (fun _ _ _ => rfl) : mo_Sim 163 138 (ma_load 0 6 140)) (mt_leaf (ms_pushi (e := (.iconst 1, 141, 0, 0, 0)) rfl (fun _ _ _ => rfl) (by decide) : mo_Sim 163 140 (ma_push (ma_ci (.ofNat 1)) 141)) (mt_leaf (ms_iadd (e := (.iadd, 142, 0, 0, 0)) rfl (fun _ _ _ => rfl) : mo_Sim 163 141 (ma_iadd 141 142)) (mt_none)))
set_option maxRecDepth 100000 in
theorem smt163_59 (k : Nat) : ∀ f, mt163_59 k = some f → mo_Sim 163 k f := mt_leaf (ms_if2 (e := (.if_icmp .le 14, 145, 156, 0, 0)) rfl (fun _ _ _ => rfl) : mo_Sim 163 142 (ma_if2 .le 156 142 145)) (mt_leaf (ms_ald (e := (.aload_n 0, 146, 0, 0, 0)) rfl (fun _ _ _ => rfl) : mo_Sim 163 145 (ma_lda 0 146)) (mt_leaf (ms_getf (e := (.getfield 54, 149, 12, 17, 1069)) rfl (fun _ _ _ => rfl) : mo_Sim 163 146 (ma_getf 12 17 149)) (mt_none)))
set_option maxRecDepth 100000 in
theorem smt163_57 (k : Nat) : ∀ f, mt163_57 k = some f → mo_Sim 163 k f := mt_node (smt163_58 k) (smt163_59 k)
set_option maxRecDepth 100000 in
theorem smt163_61 (k : Nat) : ∀ f, mt163_61 k = some f → mo_Sim 163 k f := mt_leaf (ms_ild (e := (.iload 8, 151, 0, 0, 0)) rfl (fun _ _ _ => rfl) : mo_Sim 163 149 (ma_load 0 8 151)) (mt_leaf (ms_ild (e := (.iload 6, 153, 0, 0, 0)) rfl (fun _ _ _ => rfl) : mo_Sim 163 151 (ma_load 0 6 153)) (mt_leaf (ms_pushi (e := (.iconst 1, 154, 0, 0, 0)) rfl (fun _ _ _ => rfl) (by decide) : mo_Sim 163 153 (ma_push (ma_ci (.ofNat 1)) 154)) (mt_none)))
set_option maxRecDepth 100000 in
theorem smt163_62 (k : Nat) : ∀ f, mt163_62 k = some f → mo_Sim 163 k f := mt_leaf (ms_iadd (e := (.iadd, 155, 0, 0, 0)) rfl (fun _ _ _ => rfl) : mo_Sim 163 154 (ma_iadd 154 155)) (mt_leaf (ms_iast (e := (.iastore, 156, 0, 0, 0)) rfl rfl (fun _ _ _ => rfl) : mo_Sim 163 155 (ma_ast 13 0 155 156)) (mt_leaf (ms_retv (e := (.return_, 157, 0, 0, 0)) rfl rfl (fun _ _ _ => rfl) : mo_Sim 163 156 (ma_retv)) (mt_none)))
set_option maxRecDepth 100000 in
theorem smt163_60 (k : Nat) : ∀ f, mt163_60 k = some f → mo_Sim 163 k f := mt_node (smt163_61 k) (smt163_62 k)
set_option maxRecDepth 100000 in
theorem smt163_56 (k : Nat) : ∀ f, mt163_56 k = some f → mo_Sim 163 k f := mt_node (smt163_57 k) (smt163_60 k)
set_option maxRecDepth 100000 in
theorem smt163_48 (k : Nat) : ∀ f, mt163_48 k = some f → mo_Sim 163 k f := mt_node (smt163_49 k) (smt163_56 k)
set_option maxRecDepth 100000 in
theorem smt163_32 (k : Nat) : ∀ f, mt163_32 k = some f → mo_Sim 163 k f := mt_node (smt163_33 k) (smt163_48 k)
set_option maxRecDepth 100000 in
theorem smt163_0 (k : Nat) : ∀ f, mt163_0 k = some f → mo_Sim 163 k f := mt_node (smt163_1 k) (smt163_32 k)
set_option maxRecDepth 100000 in
theorem smt164_1 (k : Nat) : ∀ f, mt164_1 k = some f → mo_Sim 164 k f := mt_leaf (ms_ald (e := (.aload_n 0, 1, 0, 0, 0)) rfl (fun _ _ _ => rfl) : mo_Sim 164 0 (ma_lda 0 1)) (mt_leaf (ms_getf (e := (.getfield 48, 4, 12, 15, 1067)) rfl (fun _ _ _ => rfl) : mo_Sim 164 1 (ma_getf 12 15 4)) (mt_leaf (ms_pushi (e := (.sipush 256, 7, 0, 0, 0)) rfl (fun _ _ _ => rfl) (by decide) : mo_Sim 164 4 (ma_push (ma_ci (.ofNat 256)) 7)) (mt_leaf (ms_ild (e := (.iload_n 1, 8, 0, 0, 0)) rfl (fun _ _ _ => rfl) : mo_Sim 164 7 (ma_load 0 1 8)) (mt_none))))
set_option maxRecDepth 100000 in
theorem smt164_3 (k : Nat) : ∀ f, mt164_3 k = some f → mo_Sim 164 k f := mt_leaf (ms_i2 (e := (.imul, 9, 0, 0, 0)) rfl (fun _ _ _ => rfl) hf_mul : mo_Sim 164 8 (ma_i2 ma_fmul 8 9)) (mt_leaf (ms_ild (e := (.iload_n 2, 10, 0, 0, 0)) rfl (fun _ _ _ => rfl) : mo_Sim 164 9 (ma_load 0 2 10)) (mt_none))
set_option maxRecDepth 100000 in
theorem smt164_4 (k : Nat) : ∀ f, mt164_4 k = some f → mo_Sim 164 k f := mt_leaf (ms_iadd (e := (.iadd, 11, 0, 0, 0)) rfl (fun _ _ _ => rfl) : mo_Sim 164 10 (ma_iadd 10 11)) (mt_leaf (ms_iald (e := (.iaload, 12, 0, 0, 0)) rfl (fun _ _ _ => rfl) : mo_Sim 164 11 (ma_iald 11 12)) (mt_leaf (ms_ret (e := (.ireturn, 13, 0, 0, 0)) rfl (Or.inl ⟨rfl, rfl, (fun _ _ _ => rfl)⟩) : mo_Sim 164 12 (ma_ret 0)) (mt_none)))
set_option maxRecDepth 100000 in
theorem smt164_2 (k : Nat) : ∀ f, mt164_2 k = some f → mo_Sim 164 k f := mt_node (smt164_3 k) (smt164_4 k)
set_option maxRecDepth 100000 in
theorem smt164_0 (k : Nat) : ∀ f, mt164_0 k = some f → mo_Sim 164 k f := mt_node (smt164_1 k) (smt164_2 k)
set_option maxRecDepth 100000 in
theorem smt165_5 (k : Nat) : ∀ f, mt165_5 k = some f → mo_Sim 165 k f := mt_leaf (ms_ald (e := (.aload_n 0, 1, 0, 0, 0)) rfl (fun _ _ _ => rfl) : mo_Sim 165 0 (ma_lda 0 1)) (mt_leaf (ms_ild (e := (.iload_n 1, 2, 0, 0, 0)) rfl (fun _ _ _ => rfl) : mo_Sim 165 1 (ma_load 0 1 2)) (mt_leaf (ms_ild (e := (.iload_n 3, 3, 0, 0, 0)) rfl (fun _ _ _ => rfl) : mo_Sim 165 2 (ma_load 0 3 3)) (mt_none)))
set_option maxRecDepth 100000 in
theorem smt165_6 (k : Nat) : ∀ f, mt165_6 k = some f → mo_Sim 165 k f := mt_leaf (ms_invV (p := 2) (e := (.invokevirtual 120, 6, 164, 0, 1232)) rfl rfl (fun _ _ _ => rfl) rfl rfl rfl (by decide) : mo_Sim 165 3 (ma_inv 164 3 3 12 6)) (mt_leaf (ms_ist (e := (.istore 4, 8, 0, 0, 0)) rfl (fun _ _ _ => rfl) : mo_Sim 165 6 (ma_stor 0 4 8)) (mt_leaf (ms_pushi (e := (.iconst 0, 9, 0, 0, 0)) rfl (fun _ _ _ => rfl) (by decide) : mo_Sim 165 8 (ma_push (ma_ci (.ofNat 0)) 9)) (mt_leaf (ms_ist (e := (.istore 5, 11, 0, 0, 0)) rfl (fun _ _ _ => rfl) : mo_Sim 165 9 (ma_stor 0 5 11)) (mt_none))))
set_option maxRecDepth 100000 in
theorem smt165_4 (k : Nat) : ∀ f, mt165_4 k = some f → mo_Sim 165 k f := mt_node (smt165_5 k) (smt165_6 k)
set_option maxRecDepth 100000 in
theorem smt165_8 (k : Nat) : ∀ f, mt165_8 k = some f → mo_Sim 165 k f := mt_leaf (ms_ild (e := (.iload 5, 13, 0, 0, 0)) rfl (fun _ _ _ => rfl) : mo_Sim 165 11 (ma_load 0 5 13)) (mt_leaf (ms_ald (e := (.aload_n 0, 14, 0, 0, 0)) rfl (fun _ _ _ => rfl) : mo_Sim 165 13 (ma_lda 0 14)) (mt_leaf (ms_getf (e := (.getfield 72, 17, 12, 4, 1056)) rfl (fun _ _ _ => rfl) : mo_Sim 165 14 (ma_getf 12 4 17)) (mt_none)))
set_option maxRecDepth 100000 in
theorem smt165_9 (k : Nat) : ∀ f, mt165_9 k = some f → mo_Sim 165 k f := mt_leaf (ms_if2 (e := (.if_icmp .ge 190, 20, 207, 0, 0)) rfl (fun _ _ _ => rfl) : mo_Sim 165 17 (ma_if2 .ge 207 17 20)) (mt_leaf (ms_ald (e := (.aload_n 0, 21, 0, 0, 0)) rfl (fun _ _ _ => rfl) : mo_Sim 165 20 (ma_lda 0 21)) (mt_leaf (ms_getf (e := (.getfield 24, 24, 12, 5, 1057)) rfl (fun _ _ _ => rfl) : mo_Sim 165 21 (ma_getf 12 5 24)) (mt_leaf (ms_ild (e := (.iload 5, 26, 0, 0, 0)) rfl (fun _ _ _ => rfl) : mo_Sim 165 24 (ma_load 0 5 26)) (mt_none))))
set_option maxRecDepth 100000 in
theorem smt165_7 (k : Nat) : ∀ f, mt165_7 k = some f → mo_Sim 165 k f := mt_node (smt165_8 k) (smt165_9 k)
set_option maxRecDepth 100000 in
theorem smt165_3 (k : Nat) : ∀ f, mt165_3 k = some f → mo_Sim 165 k f := mt_node (smt165_4 k) (smt165_7 k)
set_option maxRecDepth 100000 in
theorem smt165_12 (k : Nat) : ∀ f, mt165_12 k = some f → mo_Sim 165 k f := mt_leaf (ms_iald (e := (.iaload, 27, 0, 0, 0)) rfl (fun _ _ _ => rfl) : mo_Sim 165 26 (ma_iald 26 27)) (mt_leaf (ms_pushi (e := (.iconst 1, 28, 0, 0, 0)) rfl (fun _ _ _ => rfl) (by decide) : mo_Sim 165 27 (ma_push (ma_ci (.ofNat 1)) 28)) (mt_leaf (ms_if2 (e := (.if_icmp .ne 25, 31, 53, 0, 0)) rfl (fun _ _ _ => rfl) : mo_Sim 165 28 (ma_if2 .ne 53 28 31)) (mt_none)))
set_option maxRecDepth 100000 in
theorem smt165_13 (k : Nat) : ∀ f, mt165_13 k = some f → mo_Sim 165 k f := mt_leaf (ms_ald (e := (.aload_n 0, 32, 0, 0, 0)) rfl (fun _ _ _ => rfl) : mo_Sim 165 31 (ma_lda 0 32)) (mt_leaf (ms_ild (e := (.iload 5, 34, 0, 0, 0)) rfl (fun _ _ _ => rfl) : mo_Sim 165 32 (ma_load 0 5 34)) (mt_leaf (ms_ild (e := (.iload_n 2, 35, 0, 0, 0)) rfl (fun _ _ _ => rfl) : mo_Sim 165 34 (ma_load 0 2 35)) (mt_leaf (ms_ild (e := (.iload_n 3, 36, 0, 0, 0)) rfl (fun _ _ _ => rfl) : mo_Sim 165 35 (ma_load 0 3 36)) (mt_none))))
set_option maxRecDepth 100000 in
theorem smt165_11 (k : Nat) : ∀ f, mt165_11 k = some f → mo_Sim 165 k f := mt_node (smt165_12 k) (smt165_13 k)
set_option maxRecDepth 100000 in
theorem smt165_15 (k : Nat) : ∀ f, mt165_15 k = some f → mo_Sim 165 k f := mt_leaf (ms_pushi (e := (.iconst 0, 37, 0, 0, 0)) rfl (fun _ _ _ => rfl) (by decide) : mo_Sim 165 36 (ma_push (ma_ci (.ofNat 0)) 37)) (mt_leaf (ms_pushi (e := (.iconst 0, 38, 0, 0, 0)) rfl (fun _ _ _ => rfl) (by decide) : mo_Sim 165 37 (ma_push (ma_ci (.ofNat 0)) 38)) (mt_leaf (ms_pushi (e := (.ldc 123, 40, 1000000, 0, 1240)) rfl (fun _ _ _ => rfl) (by decide) : mo_Sim 165 38 (ma_push (ma_ci (.ofNat 1000000)) 40)) (mt_none)))
set_option maxRecDepth 100000 in
theorem smt165_16 (k : Nat) : ∀ f, mt165_16 k = some f → mo_Sim 165 k f := mt_leaf (ms_ild (e := (.iload 4, 42, 0, 0, 0)) rfl (fun _ _ _ => rfl) : mo_Sim 165 40 (ma_load 0 4 42)) (mt_leaf (ms_pushi (e := (.iconst 1, 43, 0, 0, 0)) rfl (fun _ _ _ => rfl) (by decide) : mo_Sim 165 42 (ma_push (ma_ci (.ofNat 1)) 43)) (mt_leaf (ms_iadd (e := (.iadd, 44, 0, 0, 0)) rfl (fun _ _ _ => rfl) : mo_Sim 165 43 (ma_iadd 43 44)) (mt_leaf (ms_invS (e := (.invokestatic 124, 47, 206, 1, 1241)) rfl rfl (fun _ _ _ => rfl) rfl rfl : mo_Sim 165 44 (ma_inv 206 2 2 20 47)) (mt_none))))
set_option maxRecDepth 100000 in
theorem smt165_14 (k : Nat) : ∀ f, mt165_14 k = some f → mo_Sim 165 k f := mt_node (smt165_15 k) (smt165_16 k)
set_option maxRecDepth 100000 in
theorem smt165_10 (k : Nat) : ∀ f, mt165_10 k = some f → mo_Sim 165 k f := mt_node (smt165_11 k) (smt165_14 k)
set_option maxRecDepth 100000 in
theorem smt165_2 (k : Nat) : ∀ f, mt165_2 k = some f → mo_Sim 165 k f := mt_node (smt165_3 k) (smt165_10 k)
set_option maxRecDepth 100000 in
theorem smt165_20 (k : Nat) : ∀ f, mt165_20 k = some f → mo_Sim 165 k f := mt_leaf (ms_invV (p := 6) (e := (.invokevirtual 129, 50, 163, 0, 1242)) rfl rfl (fun _ _ _ => rfl) rfl rfl rfl (by decide) : mo_Sim 165 47 (ma_inv 163 7 11 12 50)) (mt_leaf (ms_goto (e := (.goto 151, 53, 201, 0, 0)) rfl (fun _ _ _ => rfl) : mo_Sim 165 50 (ma_goto 201)) (mt_leaf (ms_pushi (e := (.iconst 0, 54, 0, 0, 0)) rfl (fun _ _ _ => rfl) (by decide) : mo_Sim 165 53 (ma_push (ma_ci (.ofNat 0)) 54)) (mt_none)))
set_option maxRecDepth 100000 in
theorem smt165_21 (k : Nat) : ∀ f, mt165_21 k = some f → mo_Sim 165 k f := mt_leaf (ms_ist (e := (.istore 6, 56, 0, 0, 0)) rfl (fun _ _ _ => rfl) : mo_Sim 165 54 (ma_stor 0 6 56)) (mt_leaf (ms_ild (e := (.iload 6, 58, 0, 0, 0)) rfl (fun _ _ _ => rfl) : mo_Sim 165 56 (ma_load 0 6 58)) (mt_leaf (ms_ild (e := (.iload_n 3, 59, 0, 0, 0)) rfl (fun _ _ _ => rfl) : mo_Sim 165 58 (ma_load 0 3 59)) (mt_leaf (ms_if2 (e := (.if_icmp .gt 142, 62, 201, 0, 0)) rfl (fun _ _ _ => rfl) : mo_Sim 165 59 (ma_if2 .gt 201 59 62)) (mt_none))))
set_option maxRecDepth 100000 in
theorem smt165_19 (k : Nat) : ∀ f, mt165_19 k = some f → mo_Sim 165 k f := mt_node (smt165_20 k) (smt165_21 k)
set_option maxRecDepth 100000 in
theorem smt165_23 (k : Nat) : ∀ f, mt165_23 k = some f → mo_Sim 165 k f := mt_leaf (ms_pushi (e := (.ldc 123, 64, 1000000, 0, 1240)) rfl (fun _ _ _ => rfl) (by decide) : mo_Sim 165 62 (ma_push (ma_ci (.ofNat 1000000)) 64)) (mt_leaf (ms_ild (e := (.iload 4, 66, 0, 0, 0)) rfl (fun _ _ _ => rfl) : mo_Sim 165 64 (ma_load 0 4 66)) (mt_leaf (ms_ald (e := (.aload_n 0, 67, 0, 0, 0)) rfl (fun _ _ _ => rfl) : mo_Sim 165 66 (ma_lda 0 67)) (mt_none)))
set_option maxRecDepth 100000 in
theorem smt165_24 (k : Nat) : ∀ f, mt165_24 k = some f → mo_Sim 165 k f := mt_leaf (ms_ild (e := (.iload_n 1, 68, 0, 0, 0)) rfl (fun _ _ _ => rfl) : mo_Sim 165 67 (ma_load 0 1 68)) (mt_leaf (ms_ild (e := (.iload 6, 70, 0, 0, 0)) rfl (fun _ _ _ => rfl) : mo_Sim 165 68 (ma_load 0 6 70)) (mt_leaf (ms_invV (p := 2) (e := (.invokevirtual 120, 73, 164, 0, 1232)) rfl rfl (fun _ _ _ => rfl) rfl rfl rfl (by decide) : mo_Sim 165 70 (ma_inv 164 3 3 12 73)) (mt_leaf (ms_iadd (e := (.iadd, 74, 0, 0, 0)) rfl (fun _ _ _ => rfl) : mo_Sim 165 73 (ma_iadd 73 74)) (mt_none))))
set_option maxRecDepth 100000 in
theorem smt165_22 (k : Nat) : ∀ f, mt165_22 k = some f → mo_Sim 165 k f := mt_node (smt165_23 k) (smt165_24 k)
set_option maxRecDepth 100000 in
theorem smt165_18 (k : Nat) : ∀ f, mt165_18 k = some f → mo_Sim 165 k f := mt_node (smt165_19 k) (smt165_22 k)
set_option maxRecDepth 100000 in
theorem smt165_27 (k : Nat) : ∀ f, mt165_27 k = some f → mo_Sim 165 k f := mt_leaf (ms_pushi (e := (.iconst 1, 75, 0, 0, 0)) rfl (fun _ _ _ => rfl) (by decide) : mo_Sim 165 74 (ma_push (ma_ci (.ofNat 1)) 75)) (mt_leaf (ms_iadd (e := (.iadd, 76, 0, 0, 0)) rfl (fun _ _ _ => rfl) : mo_Sim 165 75 (ma_iadd 75 76)) (mt_leaf (ms_invS (e := (.invokestatic 124, 79, 206, 1, 1241)) rfl rfl (fun _ _ _ => rfl) rfl rfl : mo_Sim 165 76 (ma_inv 206 2 2 20 79)) (mt_none)))
set_option maxRecDepth 100000 in
theorem smt165_28 (k : Nat) : ∀ f, mt165_28 k = some f → mo_Sim 165 k f := mt_leaf (ms_ist (e := (.istore 7, 81, 0, 0, 0)) rfl (fun _ _ _ => rfl) : mo_Sim 165 79 (ma_stor 0 7 81)) (mt_leaf (ms_ald (e := (.aload_n 0, 82, 0, 0, 0)) rfl (fun _ _ _ => rfl) : mo_Sim 165 81 (ma_lda 0 82)) (mt_leaf (ms_getf (e := (.getfield 24, 85, 12, 5, 1057)) rfl (fun _ _ _ => rfl) : mo_Sim 165 82 (ma_getf 12 5 85)) (mt_leaf (ms_ild (e := (.iload 5, 87, 0, 0, 0)) rfl (fun _ _ _ => rfl) : mo_Sim 165 85 (ma_load 0 5 87)) (mt_none))))
set_option maxRecDepth 100000 in
theorem smt165_26 (k : Nat) : ∀ f, mt165_26 k = some f → mo_Sim 165 k f := mt_node (smt165_27 k) (smt165_28 k)
set_option maxRecDepth 100000 in
theorem smt165_30 (k : Nat) : ∀ f, mt165_30 k = some f → mo_Sim 165 k f := mt_leaf (ms_iald (e := (.iaload, 88, 0, 0, 0)) rfl (fun _ _ _ => rfl) : mo_Sim 165 87 (ma_iald 87 88)) (mt_leaf (ms_pushi (e := (.iconst 2, 89, 0, 0, 0)) rfl (fun _ _ _ => rfl) (by decide) : mo_Sim 165 88 (ma_push (ma_ci (.ofNat 2)) 89)) (mt_leaf (ms_if2 (e := (.if_icmp .ne 32, 92, 121, 0, 0)) rfl (fun _ _ _ => rfl) : mo_Sim 165 89 (ma_if2 .ne 121 89 92)) (mt_leaf (ms_ald (e := (.aload_n 0, 93, 0, 0, 0)) rfl (fun _ _ _ => rfl) : mo_Sim 165 92 (ma_lda 0 93)) (mt_none))))
set_option maxRecDepth 100000 in
theorem smt165_31 (k : Nat) : ∀ f, mt165_31 k = some f → mo_Sim 165 k f := mt_leaf (ms_ild (e := (.iload 5, 95, 0, 0, 0)) rfl (fun _ _ _ => rfl) : mo_Sim 165 93 (ma_load 0 5 95)) (mt_leaf (ms_ild (e := (.iload_n 2, 96, 0, 0, 0)) rfl (fun _ _ _ => rfl) : mo_Sim 165 95 (ma_load 0 2 96)) (mt_leaf (ms_ild (e := (.iload_n 3, 97, 0, 0, 0)) rfl (fun _ _ _ => rfl) : mo_Sim 165 96 (ma_load 0 3 97)) (mt_leaf (ms_ild (e := (.iload 6, 99, 0, 0, 0)) rfl (fun _ _ _ => rfl) : mo_Sim 165 97 (ma_load 0 6 99)) (mt_none))))
set_option maxRecDepth 100000 in
theorem smt165_29 (k : Nat) : ∀ f, mt165_29 k = some f → mo_Sim 165 k f := mt_node (smt165_30 k) (smt165_31 k)
set_option maxRecDepth 100000 in
theorem smt165_25 (k : Nat) : ∀ f, mt165_25 k = some f → mo_Sim 165 k f := mt_node (smt165_26 k) (smt165_29 k)
set_option maxRecDepth 100000 in
theorem smt165_17 (k : Nat) : ∀ f, mt165_17 k = some f → mo_Sim 165 k f := mt_node (smt165_18 k) (smt165_25 k)
set_option maxRecDepth 100000 in
theorem smt165_1 (k : Nat) : ∀ f, mt165_1 k = some f → mo_Sim 165 k f := mt_node (smt165_2 k) (smt165_17 k)
set_option maxRecDepth 100000 in
theorem smt165_36 (k : Nat) : ∀ f, mt165_36 k = some f → mo_Sim 165 k f := mt_leaf (ms_pushi (e := (.iconst 0, 100, 0, 0, 0)) rfl (fun _ _ _ => rfl) (by decide) : mo_Sim 165 99 (ma_push (ma_ci (.ofNat 0)) 100)) (mt_leaf (ms_ild (e := (.iload 7, 102, 0, 0, 0)) rfl (fun _ _ _ => rfl) : mo_Sim 165 100 (ma_load 0 7 102)) (mt_leaf (ms_invV (p := 6) (e := (.invokevirtual 129, 105, 163, 0, 1242)) rfl rfl (fun _ _ _ => rfl) rfl rfl rfl (by decide) : mo_Sim 165 102 (ma_inv 163 7 11 12 105)) (mt_none)))
set_option maxRecDepth 100000 in
theorem smt165_37 (k : Nat) : ∀ f, mt165_37 k = some f → mo_Sim 165 k f := mt_leaf (ms_ald (e := (.aload_n 0, 106, 0, 0, 0)) rfl (fun _ _ _ => rfl) : mo_Sim 165 105 (ma_lda 0 106)) (mt_leaf (ms_ild (e := (.iload 5, 108, 0, 0, 0)) rfl (fun _ _ _ => rfl) : mo_Sim 165 106 (ma_load 0 5 108)) (mt_leaf (ms_ild (e := (.iload_n 2, 109, 0, 0, 0)) rfl (fun _ _ _ => rfl) : mo_Sim 165 108 (ma_load 0 2 109)) (mt_leaf (ms_ild (e := (.iload 6, 111, 0, 0, 0)) rfl (fun _ _ _ => rfl) : mo_Sim 165 109 (ma_load 0 6 111)) (mt_none))))
set_option maxRecDepth 100000 in
theorem smt165_35 (k : Nat) : ∀ f, mt165_35 k = some f → mo_Sim 165 k f := mt_node (smt165_36 k) (smt165_37 k)
set_option maxRecDepth 100000 in
theorem smt165_39 (k : Nat) : ∀ f, mt165_39 k = some f → mo_Sim 165 k f := mt_leaf (ms_ild (e := (.iload_n 3, 112, 0, 0, 0)) rfl (fun _ _ _ => rfl) : mo_Sim 165 111 (ma_load 0 3 112)) (mt_leaf (ms_pushi (e := (.iconst 0, 113, 0, 0, 0)) rfl (fun _ _ _ => rfl) (by decide) : mo_Sim 165 112 (ma_push (ma_ci (.ofNat 0)) 113)) (mt_leaf (ms_ild (e := (.iload 7, 115, 0, 0, 0)) rfl (fun _ _ _ => rfl) : mo_Sim 165 113 (ma_load 0 7 115)) (mt_none)))
set_option maxRecDepth 100000 in
theorem smt165_40 (k : Nat) : ∀ f, mt165_40 k = some f → mo_Sim 165 k f := mt_leaf (ms_invV (p := 6) (e := (.invokevirtual 129, 118, 163, 0, 1242)) rfl rfl (fun _ _ _ => rfl) rfl rfl rfl (by decide) : mo_Sim 165 115 (ma_inv 163 7 11 12 118)) (mt_leaf (ms_goto (e := (.goto 77, 121, 195, 0, 0)) rfl (fun _ _ _ => rfl) : mo_Sim 165 118 (ma_goto 195)) (mt_leaf (ms_pushi (e := (.iconst 0, 122, 0, 0, 0)) rfl (fun _ _ _ => rfl) (by decide) : mo_Sim 165 121 (ma_push (ma_ci (.ofNat 0)) 122)) (mt_leaf (ms_ist (e := (.istore 8, 124, 0, 0, 0)) rfl (fun _ _ _ => rfl) : mo_Sim 165 122 (ma_stor 0 8 124)) (mt_none))))
set_option maxRecDepth 100000 in
theorem smt165_38 (k : Nat) : ∀ f, mt165_38 k = some f → mo_Sim 165 k f := mt_node (smt165_39 k) (smt165_40 k)
set_option maxRecDepth 100000 in
theorem smt165_34 (k : Nat) : ∀ f, mt165_34 k = some f → mo_Sim 165 k f := mt_node (smt165_35 k) (smt165_38 k)
set_option maxRecDepth 100000 in
theorem smt165_43 (k : Nat) : ∀ f, mt165_43 k = some f → mo_Sim 165 k f := mt_leaf (ms_ild (e := (.iload 8, 126, 0, 0, 0)) rfl (fun _ _ _ => rfl) : mo_Sim 165 124 (ma_load 0 8 126)) (mt_leaf (ms_ild (e := (.iload_n 3, 127, 0, 0, 0)) rfl (fun _ _ _ => rfl) : mo_Sim 165 126 (ma_load 0 3 127)) (mt_leaf (ms_if2 (e := (.if_icmp .gt 68, 130, 195, 0, 0)) rfl (fun _ _ _ => rfl) : mo_Sim 165 127 (ma_if2 .gt 195 127 130)) (mt_none)))
set_option maxRecDepth 100000 in
theorem smt165_44 (k : Nat) : ∀ f, mt165_44 k = some f → mo_Sim 165 k f := mt_leaf (ms_pushi (e := (.ldc 123, 132, 1000000, 0, 1240)) rfl (fun _ _ _ => rfl) (by decide) : mo_Sim 165 130 (ma_push (ma_ci (.ofNat 1000000)) 132)) (mt_leaf (ms_ild (e := (.iload 7, 134, 0, 0, 0)) rfl (fun _ _ _ => rfl) : mo_Sim 165 132 (ma_load 0 7 134)) (mt_leaf (ms_ald (e := (.aload_n 0, 135, 0, 0, 0)) rfl (fun _ _ _ => rfl) : mo_Sim 165 134 (ma_lda 0 135)) (mt_leaf (ms_ild (e := (.iload_n 1, 136, 0, 0, 0)) rfl (fun _ _ _ => rfl) : mo_Sim 165 135 (ma_load 0 1 136)) (mt_none))))
set_option maxRecDepth 100000 in
theorem smt165_42 (k : Nat) : ∀ f, mt165_42 k = some f → mo_Sim 165 k f := mt_node (smt165_43 k) (smt165_44 k)
set_option maxRecDepth 100000 in
theorem smt165_46 (k : Nat) : ∀ f, mt165_46 k = some f → mo_Sim 165 k f := mt_leaf (ms_ild (e := (.iload 8, 138, 0, 0, 0)) rfl (fun _ _ _ => rfl) : mo_Sim 165 136 (ma_load 0 8 138)) (mt_leaf (ms_invV (p := 2) (e := (.invokevirtual 120, 141, 164, 0, 1232)) rfl rfl (fun _ _ _ => rfl) rfl rfl rfl (by decide) : mo_Sim 165 138 (ma_inv 164 3 3 12 141)) (mt_leaf (ms_iadd (e := (.iadd, 142, 0, 0, 0)) rfl (fun _ _ _ => rfl) : mo_Sim 165 141 (ma_iadd 141 142)) (mt_none)))
set_option maxRecDepth 100000 in
theorem smt165_47 (k : Nat) : ∀ f, mt165_47 k = some f → mo_Sim 165 k f := mt_leaf (ms_invS (e := (.invokestatic 124, 145, 206, 1, 1241)) rfl rfl (fun _ _ _ => rfl) rfl rfl : mo_Sim 165 142 (ma_inv 206 2 2 20 145)) (mt_leaf (ms_ist (e := (.istore 9, 147, 0, 0, 0)) rfl (fun _ _ _ => rfl) : mo_Sim 165 145 (ma_stor 0 9 147)) (mt_leaf (ms_ald (e := (.aload_n 0, 148, 0, 0, 0)) rfl (fun _ _ _ => rfl) : mo_Sim 165 147 (ma_lda 0 148)) (mt_leaf (ms_ild (e := (.iload 5, 150, 0, 0, 0)) rfl (fun _ _ _ => rfl) : mo_Sim 165 148 (ma_load 0 5 150)) (mt_none))))
set_option maxRecDepth 100000 in
theorem smt165_45 (k : Nat) : ∀ f, mt165_45 k = some f → mo_Sim 165 k f := mt_node (smt165_46 k) (smt165_47 k)
set_option maxRecDepth 100000 in
theorem smt165_41 (k : Nat) : ∀ f, mt165_41 k = some f → mo_Sim 165 k f := mt_node (smt165_42 k) (smt165_45 k)
set_option maxRecDepth 100000 in
theorem smt165_33 (k : Nat) : ∀ f, mt165_33 k = some f → mo_Sim 165 k f := mt_node (smt165_34 k) (smt165_41 k)
set_option maxRecDepth 100000 in
theorem smt165_51 (k : Nat) : ∀ f, mt165_51 k = some f → mo_Sim 165 k f := mt_leaf (ms_ild (e := (.iload_n 2, 151, 0, 0, 0)) rfl (fun _ _ _ => rfl) : mo_Sim 165 150 (ma_load 0 2 151)) (mt_leaf (ms_ild (e := (.iload_n 3, 152, 0, 0, 0)) rfl (fun _ _ _ => rfl) : mo_Sim 165 151 (ma_load 0 3 152)) (mt_leaf (ms_ild (e := (.iload 6, 154, 0, 0, 0)) rfl (fun _ _ _ => rfl) : mo_Sim 165 152 (ma_load 0 6 154)) (mt_none)))
set_option maxRecDepth 100000 in
theorem smt165_52 (k : Nat) : ∀ f, mt165_52 k = some f → mo_Sim 165 k f := mt_leaf (ms_ild (e := (.iload 8, 156, 0, 0, 0)) rfl (fun _ _ _ => rfl) : mo_Sim 165 154 (ma_load 0 8 156)) (mt_leaf (ms_ild (e := (.iload 9, 158, 0, 0, 0)) rfl (fun _ _ _ => rfl) : mo_Sim 165 156 (ma_load 0 9 158)) (mt_leaf (ms_invV (p := 6) (e := (.invokevirtual 129, 161, 163, 0, 1242)) rfl rfl (fun _ _ _ => rfl) rfl rfl rfl (by decide) : mo_Sim 165 158 (ma_inv 163 7 11 12 161)) (mt_leaf (ms_ald (e := (.aload_n 0, 162, 0, 0, 0)) rfl (fun _ _ _ => rfl) : mo_Sim 165 161 (ma_lda 0 162)) (mt_none))))
set_option maxRecDepth 100000 in
theorem smt165_50 (k : Nat) : ∀ f, mt165_50 k = some f → mo_Sim 165 k f := mt_node (smt165_51 k) (smt165_52 k)
set_option maxRecDepth 100000 in
theorem smt165_54 (k : Nat) : ∀ f, mt165_54 k = some f → mo_Sim 165 k f := mt_leaf (ms_ild (e := (.iload 5, 164, 0, 0, 0)) rfl (fun _ _ _ => rfl) : mo_Sim 165 162 (ma_load 0 5 164)) (mt_leaf (ms_ild (e := (.iload_n 2, 165, 0, 0, 0)) rfl (fun _ _ _ => rfl) : mo_Sim 165 164 (ma_load 0 2 165)) (mt_leaf (ms_ild (e := (.iload 6, 167, 0, 0, 0)) rfl (fun _ _ _ => rfl) : mo_Sim 165 165 (ma_load 0 6 167)) (mt_none)))
set_option maxRecDepth 100000 in
theorem smt165_55 (k : Nat) : ∀ f, mt165_55 k = some f → mo_Sim 165 k f := mt_leaf (ms_ild (e := (.iload_n 3, 168, 0, 0, 0)) rfl (fun _ _ _ => rfl) : mo_Sim 165 167 (ma_load 0 3 168)) (mt_leaf (ms_ild (e := (.iload 8, 170, 0, 0, 0)) rfl (fun _ _ _ => rfl) : mo_Sim 165 168 (ma_load 0 8 170)) (mt_leaf (ms_ild (e := (.iload 9, 172, 0, 0, 0)) rfl (fun _ _ _ => rfl) : mo_Sim 165 170 (ma_load 0 9 172)) (mt_leaf (ms_invV (p := 6) (e := (.invokevirtual 129, 175, 163, 0, 1242)) rfl rfl (fun _ _ _ => rfl) rfl rfl rfl (by decide) : mo_Sim 165 172 (ma_inv 163 7 11 12 175)) (mt_none))))
set_option maxRecDepth 100000 in
theorem smt165_53 (k : Nat) : ∀ f, mt165_53 k = some f → mo_Sim 165 k f := mt_node (smt165_54 k) (smt165_55 k)
set_option maxRecDepth 100000 in
theorem smt165_49 (k : Nat) : ∀ f, mt165_49 k = some f → mo_Sim 165 k f := mt_node (smt165_50 k) (smt165_53 k)
set_option maxRecDepth 100000 in
theorem smt165_58 (k : Nat) : ∀ f, mt165_58 k = some f → mo_Sim 165 k f := mt_leaf (ms_ald (e := (.aload_n 0, 176, 0, 0, 0)) rfl (fun _ _ _ => rfl) : mo_Sim 165 175 (ma_lda 0 176)) (mt_leaf (ms_ild (e := (.iload 5, 178, 0, 0, 0)) rfl (fun _ _ _ => rfl) : mo_Sim 165 176 (ma_load 0 5 178)) (mt_leaf (ms_ild (e := (.iload_n 2, 179, 0, 0, 0)) rfl (fun _ _ _ => rfl) : mo_Sim 165 178 (ma_load 0 2 179)) (mt_none)))
set_option maxRecDepth 100000 in
theorem smt165_59 (k : Nat) : ∀ f, mt165_59 k = some f → mo_Sim 165 k f := mt_leaf (ms_ild (e := (.iload 6, 181, 0, 0, 0)) rfl (fun _ _ _ => rfl) : mo_Sim 165 179 (ma_load 0 6 181)) (mt_leaf (ms_ild (e := (.iload 8, 183, 0, 0, 0)) rfl (fun _ _ _ => rfl) : mo_Sim 165 181 (ma_load 0 8 183)) (mt_leaf (ms_ild (e := (.iload_n 3, 184, 0, 0, 0)) rfl (fun _ _ _ => rfl) : mo_Sim 165 183 (ma_load 0 3 184)) (mt_leaf (ms_ild (e := (.iload 9, 186, 0, 0, 0)) rfl (fun _ _ _ => rfl) : mo_Sim 165 184 (ma_load 0 9 186)) (mt_none))))
set_option maxRecDepth 100000 in
theorem smt165_57 (k : Nat) : ∀ f, mt165_57 k = some f → mo_Sim 165 k f := mt_node (smt165_58 k) (smt165_59 k)
set_option maxRecDepth 100000 in
theorem smt165_61 (k : Nat) : ∀ f, mt165_61 k = some f → mo_Sim 165 k f := mt_leaf (ms_invV (p := 6) (e := (.invokevirtual 129, 189, 163, 0, 1242)) rfl rfl (fun _ _ _ => rfl) rfl rfl rfl (by decide) : mo_Sim 165 186 (ma_inv 163 7 11 12 189)) (mt_leaf (ms_iinc (e := (.iinc 8 1, 192, 0, 0, 0)) rfl (fun _ _ _ => rfl) (by decide) : mo_Sim 165 189 (ma_iinc 8 (.ofNat 1) 189 192)) (mt_leaf (ms_goto (e := (.goto (-68), 195, 124, 0, 0)) rfl (fun _ _ _ => rfl) : mo_Sim 165 192 (ma_goto 124)) (mt_leaf (ms_iinc (e := (.iinc 6 1, 198, 0, 0, 0)) rfl (fun _ _ _ => rfl) (by decide) : mo_Sim 165 195 (ma_iinc 6 (.ofNat 1) 195 198)) (mt_none))))
set_option maxRecDepth 100000 in
theorem smt165_62 (k : Nat) : ∀ f, mt165_62 k = some f → mo_Sim 165 k f := mt_leaf (ms_goto (e := (.goto (-142), 201, 56, 0, 0)) rfl (fun _ _ _ => rfl) : mo_Sim 165 198 (ma_goto 56)) (mt_leaf (ms_iinc (e := (.iinc 5 1, 204, 0, 0, 0)) rfl (fun _ _ _ => rfl) (by decide) : mo_Sim 165 201 (ma_iinc 5 (.ofNat 1) 201 204)) (mt_leaf (ms_goto (e := (.goto (-193), 207, 11, 0, 0)) rfl (fun _ _ _ => rfl) : mo_Sim 165 204 (ma_goto 11)) (mt_leaf (ms_retv (e := (.return_, 208, 0, 0, 0)) rfl rfl (fun _ _ _ => rfl) : mo_Sim 165 207 (ma_retv)) (mt_none))))
set_option maxRecDepth 100000 in
theorem smt165_60 (k : Nat) : ∀ f, mt165_60 k = some f → mo_Sim 165 k f := mt_node (smt165_61 k) (smt165_62 k)
set_option maxRecDepth 100000 in
theorem smt165_56 (k : Nat) : ∀ f, mt165_56 k = some f → mo_Sim 165 k f := mt_node (smt165_57 k) (smt165_60 k)
set_option maxRecDepth 100000 in
theorem smt165_48 (k : Nat) : ∀ f, mt165_48 k = some f → mo_Sim 165 k f := mt_node (smt165_49 k) (smt165_56 k)
set_option maxRecDepth 100000 in
theorem smt165_32 (k : Nat) : ∀ f, mt165_32 k = some f → mo_Sim 165 k f := mt_node (smt165_33 k) (smt165_48 k)
set_option maxRecDepth 100000 in
theorem smt165_0 (k : Nat) : ∀ f, mt165_0 k = some f → mo_Sim 165 k f := mt_node (smt165_1 k) (smt165_32 k)
set_option maxRecDepth 100000 in
theorem smt166_5 (k : Nat) : ∀ f, mt166_5 k = some f → mo_Sim 166 k f := mt_leaf (ms_pushi (e := (.iconst 1, 1, 0, 0, 0)) rfl (fun _ _ _ => rfl) (by decide) : mo_Sim 166 0 (ma_push (ma_ci (.ofNat 1)) 1)) (mt_leaf (ms_ist (e := (.istore_n 3, 2, 0, 0, 0)) rfl (fun _ _ _ => rfl) : mo_Sim 166 1 (ma_stor 0 3 2)) (mt_leaf (ms_ild (e := (.iload_n 3, 3, 0, 0, 0)) rfl (fun _ _ _ => rfl) : mo_Sim 166 2 (ma_load 0 3 3)) (mt_none)))
set_option maxRecDepth 100000 in
theorem smt166_6 (k : Nat) : ∀ f, mt166_6 k = some f → mo_Sim 166 k f := mt_leaf (ms_ild (e := (.iload_n 2, 4, 0, 0, 0)) rfl (fun _ _ _ => rfl) : mo_Sim 166 3 (ma_load 0 2 4)) (mt_leaf (ms_if2 (e := (.if_icmp .ge 185, 7, 189, 0, 0)) rfl (fun _ _ _ => rfl) : mo_Sim 166 4 (ma_if2 .ge 189 4 7)) (mt_leaf (ms_ald (e := (.aload_n 0, 8, 0, 0, 0)) rfl (fun _ _ _ => rfl) : mo_Sim 166 7 (ma_lda 0 8)) (mt_leaf (ms_getf (e := (.getfield 45, 11, 12, 14, 1066)) rfl (fun _ _ _ => rfl) : mo_Sim 166 8 (ma_getf 12 14 11)) (mt_none))))
set_option maxRecDepth 100000 in
theorem smt166_4 (k : Nat) : ∀ f, mt166_4 k = some f → mo_Sim 166 k f := mt_node (smt166_5 k) (smt166_6 k)
set_option maxRecDepth 100000 in
theorem smt166_8 (k : Nat) : ∀ f, mt166_8 k = some f → mo_Sim 166 k f := mt_leaf (ms_pushi (e := (.sipush 256, 14, 0, 0, 0)) rfl (fun _ _ _ => rfl) (by decide) : mo_Sim 166 11 (ma_push (ma_ci (.ofNat 256)) 14)) (mt_leaf (ms_ild (e := (.iload_n 1, 15, 0, 0, 0)) rfl (fun _ _ _ => rfl) : mo_Sim 166 14 (ma_load 0 1 15)) (mt_leaf (ms_i2 (e := (.imul, 16, 0, 0, 0)) rfl (fun _ _ _ => rfl) hf_mul : mo_Sim 166 15 (ma_i2 ma_fmul 15 16)) (mt_none)))
set_option maxRecDepth 100000 in
theorem smt166_9 (k : Nat) : ∀ f, mt166_9 k = some f → mo_Sim 166 k f := mt_leaf (ms_ild (e := (.iload_n 3, 17, 0, 0, 0)) rfl (fun _ _ _ => rfl) : mo_Sim 166 16 (ma_load 0 3 17)) (mt_leaf (ms_iadd (e := (.iadd, 18, 0, 0, 0)) rfl (fun _ _ _ => rfl) : mo_Sim 166 17 (ma_iadd 17 18)) (mt_leaf (ms_iald (e := (.iaload, 19, 0, 0, 0)) rfl (fun _ _ _ => rfl) : mo_Sim 166 18 (ma_iald 18 19)) (mt_leaf (ms_ist (e := (.istore 4, 21, 0, 0, 0)) rfl (fun _ _ _ => rfl) : mo_Sim 166 19 (ma_stor 0 4 21)) (mt_none))))
set_option maxRecDepth 100000 in
theorem smt166_7 (k : Nat) : ∀ f, mt166_7 k = some f → mo_Sim 166 k f := mt_node (smt166_8 k) (smt166_9 k)
set_option maxRecDepth 100000 in
theorem smt166_3 (k : Nat) : ∀ f, mt166_3 k = some f → mo_Sim 166 k f := mt_node (smt166_4 k) (smt166_7 k)
set_option maxRecDepth 100000 in
theorem smt166_12 (k : Nat) : ∀ f, mt166_12 k = some f → mo_Sim 166 k f := mt_leaf (ms_ald (e := (.aload_n 0, 22, 0, 0, 0)) rfl (fun _ _ _ => rfl) : mo_Sim 166 21 (ma_lda 0 22)) (mt_leaf (ms_getf (e := (.getfield 48, 25, 12, 15, 1067)) rfl (fun _ _ _ => rfl) : mo_Sim 166 22 (ma_getf 12 15 25)) (mt_leaf (ms_pushi (e := (.sipush 256, 28, 0, 0, 0)) rfl (fun _ _ _ => rfl) (by decide) : mo_Sim 166 25 (ma_push (ma_ci (.ofNat 256)) 28)) (mt_none)))
set_option maxRecDepth 100000 in
theorem smt166_13 (k : Nat) : ∀ f, mt166_13 k = some f → mo_Sim 166 k f := mt_leaf (ms_ild (e := (.iload_n 1, 29, 0, 0, 0)) rfl (fun _ _ _ => rfl) : mo_Sim 166 28 (ma_load 0 1 29)) (mt_leaf (ms_i2 (e := (.imul, 30, 0, 0, 0)) rfl (fun _ _ _ => rfl) hf_mul : mo_Sim 166 29 (ma_i2 ma_fmul 29 30)) (mt_leaf (ms_ild (e := (.iload_n 3, 31, 0, 0, 0)) rfl (fun _ _ _ => rfl) : mo_Sim 166 30 (ma_load 0 3 31)) (mt_leaf (ms_iadd (e := (.iadd, 32, 0, 0, 0)) rfl (fun _ _ _ => rfl) : mo_Sim 166 31 (ma_iadd 31 32)) (mt_none))))
set_option maxRecDepth 100000 in
theorem smt166_11 (k : Nat) : ∀ f, mt166_11 k = some f → mo_Sim 166 k f := mt_node (smt166_12 k) (smt166_13 k)
set_option maxRecDepth 100000 in
theorem smt166_15 (k : Nat) : ∀ f, mt166_15 k = some f → mo_Sim 166 k f := mt_leaf (ms_iald (e := (.iaload, 33, 0, 0, 0)) rfl (fun _ _ _ => rfl) : mo_Sim 166 32 (ma_iald 32 33)) (mt_leaf (ms_ist (e := (.istore 5, 35, 0, 0, 0)) rfl (fun _ _ _ => rfl) : mo_Sim 166 33 (ma_stor 0 5 35)) (mt_leaf (ms_ild (e := (.iload_n 3, 36, 0, 0, 0)) rfl (fun _ _ _ => rfl) : mo_Sim 166 35 (ma_load 0 3 36)) (mt_none)))
set_option maxRecDepth 100000 in
theorem smt166_16 (k : Nat) : ∀ f, mt166_16 k = some f → mo_Sim 166 k f := mt_leaf (ms_ist (e := (.istore 6, 38, 0, 0, 0)) rfl (fun _ _ _ => rfl) : mo_Sim 166 36 (ma_stor 0 6 38)) (mt_leaf (ms_ild (e := (.iload 6, 40, 0, 0, 0)) rfl (fun _ _ _ => rfl) : mo_Sim 166 38 (ma_load 0 6 40)) (mt_leaf (ms_if0 (e := (.ifCond .le 113, 43, 153, 0, 0)) rfl (fun _ _ _ => rfl) : mo_Sim 166 40 (ma_if0 .le 153 40 43)) (mt_leaf (ms_ald (e := (.aload_n 0, 44, 0, 0, 0)) rfl (fun _ _ _ => rfl) : mo_Sim 166 43 (ma_lda 0 44)) (mt_none))))
set_option maxRecDepth 100000 in
theorem smt166_14 (k : Nat) : ∀ f, mt166_14 k = some f → mo_Sim 166 k f := mt_node (smt166_15 k) (smt166_16 k)
set_option maxRecDepth 100000 in
theorem smt166_10 (k : Nat) : ∀ f, mt166_10 k = some f → mo_Sim 166 k f := mt_node (smt166_11 k) (smt166_14 k)
set_option maxRecDepth 100000 in
theorem smt166_2 (k : Nat) : ∀ f, mt166_2 k = some f → mo_Sim 166 k f := mt_node (smt166_3 k) (smt166_10 k)
set_option maxRecDepth 100000 in
theorem smt166_20 (k : Nat) : ∀ f, mt166_20 k = some f → mo_Sim 166 k f := mt_leaf (ms_ild (e := (.iload_n 1, 45, 0, 0, 0)) rfl (fun _ _ _ => rfl) : mo_Sim 166 44 (ma_load 0 1 45)) (mt_leaf (ms_ild (e := (.iload 6, 47, 0, 0, 0)) rfl (fun _ _ _ => rfl) : mo_Sim 166 45 (ma_load 0 6 47)) (mt_leaf (ms_pushi (e := (.iconst 1, 48, 0, 0, 0)) rfl (fun _ _ _ => rfl) (by decide) : mo_Sim 166 47 (ma_push (ma_ci (.ofNat 1)) 48)) (mt_none)))
set_option maxRecDepth 100000 in
theorem smt166_21 (k : Nat) : ∀ f, mt166_21 k = some f → mo_Sim 166 k f := mt_leaf (ms_isub (e := (.isub, 49, 0, 0, 0)) rfl (fun _ _ _ => rfl) : mo_Sim 166 48 (ma_isub 48 49)) (mt_leaf (ms_invV (p := 2) (e := (.invokevirtual 120, 52, 164, 0, 1232)) rfl rfl (fun _ _ _ => rfl) rfl rfl rfl (by decide) : mo_Sim 166 49 (ma_inv 164 3 3 12 52)) (mt_leaf (ms_ild (e := (.iload 5, 54, 0, 0, 0)) rfl (fun _ _ _ => rfl) : mo_Sim 166 52 (ma_load 0 5 54)) (mt_leaf (ms_if2 (e := (.if_icmp .gt 37, 57, 91, 0, 0)) rfl (fun _ _ _ => rfl) : mo_Sim 166 54 (ma_if2 .gt 91 54 57)) (mt_none))))
set_option maxRecDepth 100000 in
theorem smt166_19 (k : Nat) : ∀ f, mt166_19 k = some f → mo_Sim 166 k f := mt_node (smt166_20 k) (smt166_21 k)
set_option maxRecDepth 100000 in
theorem smt166_23 (k : Nat) : ∀ f, mt166_23 k = some f → mo_Sim 166 k f := mt_leaf (ms_ald (e := (.aload_n 0, 58, 0, 0, 0)) rfl (fun _ _ _ => rfl) : mo_Sim 166 57 (ma_lda 0 58)) (mt_leaf (ms_ild (e := (.iload_n 1, 59, 0, 0, 0)) rfl (fun _ _ _ => rfl) : mo_Sim 166 58 (ma_load 0 1 59)) (mt_leaf (ms_ild (e := (.iload 6, 61, 0, 0, 0)) rfl (fun _ _ _ => rfl) : mo_Sim 166 59 (ma_load 0 6 61)) (mt_none)))
set_option maxRecDepth 100000 in
theorem smt166_24 (k : Nat) : ∀ f, mt166_24 k = some f → mo_Sim 166 k f := mt_leaf (ms_pushi (e := (.iconst 1, 62, 0, 0, 0)) rfl (fun _ _ _ => rfl) (by decide) : mo_Sim 166 61 (ma_push (ma_ci (.ofNat 1)) 62)) (mt_leaf (ms_isub (e := (.isub, 63, 0, 0, 0)) rfl (fun _ _ _ => rfl) : mo_Sim 166 62 (ma_isub 62 63)) (mt_leaf (ms_invV (p := 2) (e := (.invokevirtual 120, 66, 164, 0, 1232)) rfl rfl (fun _ _ _ => rfl) rfl rfl rfl (by decide) : mo_Sim 166 63 (ma_inv 164 3 3 12 66)) (mt_leaf (ms_ild (e := (.iload 5, 68, 0, 0, 0)) rfl (fun _ _ _ => rfl) : mo_Sim 166 66 (ma_load 0 5 68)) (mt_none))))
set_option maxRecDepth 100000 in
theorem smt166_22 (k : Nat) : ∀ f, mt166_22 k = some f → mo_Sim 166 k f := mt_node (smt166_23 k) (smt166_24 k)
set_option maxRecDepth 100000 in
theorem smt166_18 (k : Nat) : ∀ f, mt166_18 k = some f → mo_Sim 166 k f := mt_node (smt166_19 k) (smt166_22 k)
set_option maxRecDepth 100000 in
theorem smt166_27 (k : Nat) : ∀ f, mt166_27 k = some f → mo_Sim 166 k f := mt_leaf (ms_if2 (e := (.if_icmp .ne 85, 71, 153, 0, 0)) rfl (fun _ _ _ => rfl) : mo_Sim 166 68 (ma_if2 .ne 153 68 71)) (mt_leaf (ms_ald (e := (.aload_n 0, 72, 0, 0, 0)) rfl (fun _ _ _ => rfl) : mo_Sim 166 71 (ma_lda 0 72)) (mt_leaf (ms_getf (e := (.getfield 45, 75, 12, 14, 1066)) rfl (fun _ _ _ => rfl) : mo_Sim 166 72 (ma_getf 12 14 75)) (mt_none)))
set_option maxRecDepth 100000 in
theorem smt166_28 (k : Nat) : ∀ f, mt166_28 k = some f → mo_Sim 166 k f := mt_leaf (ms_pushi (e := (.sipush 256, 78, 0, 0, 0)) rfl (fun _ _ _ => rfl) (by decide) : mo_Sim 166 75 (ma_push (ma_ci (.ofNat 256)) 78)) (mt_leaf (ms_ild (e := (.iload_n 1, 79, 0, 0, 0)) rfl (fun _ _ _ => rfl) : mo_Sim 166 78 (ma_load 0 1 79)) (mt_leaf (ms_i2 (e := (.imul, 80, 0, 0, 0)) rfl (fun _ _ _ => rfl) hf_mul : mo_Sim 166 79 (ma_i2 ma_fmul 79 80)) (mt_leaf (ms_ild (e := (.iload 6, 82, 0, 0, 0)) rfl (fun _ _ _ => rfl) : mo_Sim 166 80 (ma_load 0 6 82)) (mt_none))))
set_option maxRecDepth 100000 in
theorem smt166_26 (k : Nat) : ∀ f, mt166_26 k = some f → mo_Sim 166 k f := mt_node (smt166_27 k) (smt166_28 k)
set_option maxRecDepth 100000 in
theorem smt166_30 (k : Nat) : ∀ f, mt166_30 k = some f → mo_Sim 166 k f := mt_leaf (ms_iadd (e := (.iadd, 83, 0, 0, 0)) rfl (fun _ _ _ => rfl) : mo_Sim 166 82 (ma_iadd 82 83)) (mt_leaf (ms_pushi (e := (.iconst 1, 84, 0, 0, 0)) rfl (fun _ _ _ => rfl) (by decide) : mo_Sim 166 83 (ma_push (ma_ci (.ofNat 1)) 84)) (mt_leaf (ms_isub (e := (.isub, 85, 0, 0, 0)) rfl (fun _ _ _ => rfl) : mo_Sim 166 84 (ma_isub 84 85)) (mt_leaf (ms_iald (e := (.iaload, 86, 0, 0, 0)) rfl (fun _ _ _ => rfl) : mo_Sim 166 85 (ma_iald 85 86)) (mt_none))))
set_option maxRecDepth 100000 in
theorem smt166_31 (k : Nat) : ∀ f, mt166_31 k = some f → mo_Sim 166 k f := mt_leaf (ms_ild (e := (.iload 4, 88, 0, 0, 0)) rfl (fun _ _ _ => rfl) : mo_Sim 166 86 (ma_load 0 4 88)) (mt_leaf (ms_if2 (e := (.if_icmp .le 65, 91, 153, 0, 0)) rfl (fun _ _ _ => rfl) : mo_Sim 166 88 (ma_if2 .le 153 88 91)) (mt_leaf (ms_ald (e := (.aload_n 0, 92, 0, 0, 0)) rfl (fun _ _ _ => rfl) : mo_Sim 166 91 (ma_lda 0 92)) (mt_leaf (ms_getf (e := (.getfield 45, 95, 12, 14, 1066)) rfl (fun _ _ _ => rfl) : mo_Sim 166 92 (ma_getf 12 14 95)) (mt_none))))
set_option maxRecDepth 100000 in
theorem smt166_29 (k : Nat) : ∀ f, mt166_29 k = some f → mo_Sim 166 k f := mt_node (smt166_30 k) (smt166_31 k)
set_option maxRecDepth 100000 in
theorem smt166_25 (k : Nat) : ∀ f, mt166_25 k = some f → mo_Sim 166 k f := mt_node (smt166_26 k) (smt166_29 k)
set_option maxRecDepth 100000 in
theorem smt166_17 (k : Nat) : ∀ f, mt166_17 k = some f → mo_Sim 166 k f := mt_node (smt166_18 k) (smt166_25 k)
set_option maxRecDepth 100000 in
theorem smt166_1 (k : Nat) : ∀ f, mt166_1 k = some f → mo_Sim 166 k f := mt_node (smt166_2 k) (smt166_17 k)
set_option maxRecDepth 100000 in
theorem smt166_36 (k : Nat) : ∀ f, mt166_36 k = some f → mo_Sim 166 k f := mt_leaf (ms_pushi (e := (.sipush 256, 98, 0, 0, 0)) rfl (fun _ _ _ => rfl) (by decide) : mo_Sim 166 95 (ma_push (ma_ci (.ofNat 256)) 98)) (mt_leaf (ms_ild (e := (.iload_n 1, 99, 0, 0, 0)) rfl (fun _ _ _ => rfl) : mo_Sim 166 98 (ma_load 0 1 99)) (mt_leaf (ms_i2 (e := (.imul, 100, 0, 0, 0)) rfl (fun _ _ _ => rfl) hf_mul : mo_Sim 166 99 (ma_i2 ma_fmul 99 100)) (mt_none)))
set_option maxRecDepth 100000 in
theorem smt166_37 (k : Nat) : ∀ f, mt166_37 k = some f → mo_Sim 166 k f := mt_leaf (ms_ild (e := (.iload 6, 102, 0, 0, 0)) rfl (fun _ _ _ => rfl) : mo_Sim 166 100 (ma_load 0 6 102)) (mt_leaf (ms_iadd (e := (.iadd, 103, 0, 0, 0)) rfl (fun _ _ _ => rfl) : mo_Sim 166 102 (ma_iadd 102 103)) (mt_leaf (ms_ald (e := (.aload_n 0, 104, 0, 0, 0)) rfl (fun _ _ _ => rfl) : mo_Sim 166 103 (ma_lda 0 104)) (mt_leaf (ms_getf (e := (.getfield 45, 107, 12, 14, 1066)) rfl (fun _ _ _ => rfl) : mo_Sim 166 104 (ma_getf 12 14 107)) (mt_none))))
set_option maxRecDepth 100000 in
theorem smt166_35 (k : Nat) : ∀ f, mt166_35 k = some f → mo_Sim 166 k f := mt_node (smt166_36 k) (smt166_37 k)
set_option maxRecDepth 100000 in
theorem smt166_39 (k : Nat) : ∀ f, mt166_39 k = some f → mo_Sim 166 k f := mt_leaf (ms_pushi (e := (.sipush 256, 110, 0, 0, 0)) rfl (fun _ _ _ => rfl) (by decide) : mo_Sim 166 107 (ma_push (ma_ci (.ofNat 256)) 110)) (mt_leaf (ms_ild (e := (.iload_n 1, 111, 0, 0, 0)) rfl (fun _ _ _ => rfl) : mo_Sim 166 110 (ma_load 0 1 111)) (mt_leaf (ms_i2 (e := (.imul, 112, 0, 0, 0)) rfl (fun _ _ _ => rfl) hf_mul : mo_Sim 166 111 (ma_i2 ma_fmul 111 112)) (mt_none)))
set_option maxRecDepth 100000 in
theorem smt166_40 (k : Nat) : ∀ f, mt166_40 k = some f → mo_Sim 166 k f := mt_leaf (ms_ild (e := (.iload 6, 114, 0, 0, 0)) rfl (fun _ _ _ => rfl) : mo_Sim 166 112 (ma_load 0 6 114)) (mt_leaf (ms_iadd (e := (.iadd, 115, 0, 0, 0)) rfl (fun _ _ _ => rfl) : mo_Sim 166 114 (ma_iadd 114 115)) (mt_leaf (ms_pushi (e := (.iconst 1, 116, 0, 0, 0)) rfl (fun _ _ _ => rfl) (by decide) : mo_Sim 166 115 (ma_push (ma_ci (.ofNat 1)) 116)) (mt_leaf (ms_isub (e := (.isub, 117, 0, 0, 0)) rfl (fun _ _ _ => rfl) : mo_Sim 166 116 (ma_isub 116 117)) (mt_none))))
set_option maxRecDepth 100000 in
theorem smt166_38 (k : Nat) : ∀ f, mt166_38 k = some f → mo_Sim 166 k f := mt_node (smt166_39 k) (smt166_40 k)
set_option maxRecDepth 100000 in
theorem smt166_34 (k : Nat) : ∀ f, mt166_34 k = some f → mo_Sim 166 k f := mt_node (smt166_35 k) (smt166_38 k)
set_option maxRecDepth 100000 in
theorem smt166_43 (k : Nat) : ∀ f, mt166_43 k = some f → mo_Sim 166 k f := mt_leaf (ms_iald (e := (.iaload, 118, 0, 0, 0)) rfl (fun _ _ _ => rfl) : mo_Sim 166 117 (ma_iald 117 118)) (mt_leaf (ms_iast (e := (.iastore, 119, 0, 0, 0)) rfl rfl (fun _ _ _ => rfl) : mo_Sim 166 118 (ma_ast 13 0 118 119)) (mt_leaf (ms_ald (e := (.aload_n 0, 120, 0, 0, 0)) rfl (fun _ _ _ => rfl) : mo_Sim 166 119 (ma_lda 0 120)) (mt_none)))
set_option maxRecDepth 100000 in
theorem smt166_44 (k : Nat) : ∀ f, mt166_44 k = some f → mo_Sim 166 k f := mt_leaf (ms_getf (e := (.getfield 48, 123, 12, 15, 1067)) rfl (fun _ _ _ => rfl) : mo_Sim 166 120 (ma_getf 12 15 123)) (mt_leaf (ms_pushi (e := (.sipush 256, 126, 0, 0, 0)) rfl (fun _ _ _ => rfl) (by decide) : mo_Sim 166 123 (ma_push (ma_ci (.ofNat 256)) 126)) (mt_leaf (ms_ild (e := (.iload_n 1, 127, 0, 0, 0)) rfl (fun _ _ _ => rfl) : mo_Sim 166 126 (ma_load 0 1 127)) (mt_leaf (ms_i2 (e := (.imul, 128, 0, 0, 0)) rfl (fun _ _ _ => rfl) hf_mul : mo_Sim 166 127 (ma_i2 ma_fmul 127 128)) (mt_none))))
set_option maxRecDepth 100000 in
theorem smt166_42 (k : Nat) : ∀ f, mt166_42 k = some f → mo_Sim 166 k f := mt_node (smt166_43 k) (smt166_44 k)
set_option maxRecDepth 100000 in
theorem smt166_46 (k : Nat) : ∀ f, mt166_46 k = some f → mo_Sim 166 k f := mt_leaf (ms_ild (e := (.iload 6, 130, 0, 0, 0)) rfl (fun _ _ _ => rfl) : mo_Sim 166 128 (ma_load 0 6 130)) (mt_leaf (ms_iadd (e := (.iadd, 131, 0, 0, 0)) rfl (fun _ _ _ => rfl) : mo_Sim 166 130 (ma_iadd 130 131)) (mt_leaf (ms_ald (e := (.aload_n 0, 132, 0, 0, 0)) rfl (fun _ _ _ => rfl) : mo_Sim 166 131 (ma_lda 0 132)) (mt_none)))
set_option maxRecDepth 100000 in
theorem smt166_47 (k : Nat) : ∀ f, mt166_47 k = some f → mo_Sim 166 k f := mt_leaf (ms_getf (e := (.getfield 48, 135, 12, 15, 1067)) rfl (fun _ _ _ => rfl) : mo_Sim 166 132 (ma_getf 12 15 135)) (mt_leaf (ms_pushi (e := (.sipush 256, 138, 0, 0, 0)) rfl (fun _ _ _ => rfl) (by decide) : mo_Sim 166 135 (ma_push (ma_ci (.ofNat 256)) 138)) (mt_leaf (ms_ild (e := (.iload_n 1, 139, 0, 0, 0)) rfl (fun _ _ _ => rfl) : mo_Sim 166 138 (ma_load 0 1 139)) (mt_leaf (ms_i2 (e := (.imul, 140, 0, 0, 0)) rfl (fun _ _ _ => rfl) hf_mul : mo_Sim 166 139 (ma_i2 ma_fmul 139 140)) (mt_none))))
set_option maxRecDepth 100000 in
theorem smt166_45 (k : Nat) : ∀ f, mt166_45 k = some f → mo_Sim 166 k f := mt_node (smt166_46 k) (smt166_47 k)
set_option maxRecDepth 100000 in
theorem smt166_41 (k : Nat) : ∀ f, mt166_41 k = some f → mo_Sim 166 k f := mt_node (smt166_42 k) (smt166_45 k)
set_option maxRecDepth 100000 in
theorem smt166_33 (k : Nat) : ∀ f, mt166_33 k = some f → mo_Sim 166 k f := mt_node (smt166_34 k) (smt166_41 k)
set_option maxRecDepth 100000 in
theorem smt166_51 (k : Nat) : ∀ f, mt166_51 k = some f → mo_Sim 166 k f := mt_leaf (ms_ild (e := (.iload 6, 142, 0, 0, 0)) rfl (fun _ _ _ => rfl) : mo_Sim 166 140 (ma_load 0 6 142)) (mt_leaf (ms_iadd (e := (.iadd, 143, 0, 0, 0)) rfl (fun _ _ _ => rfl) : mo_Sim 166 142 (ma_iadd 142 143)) (mt_leaf (ms_pushi (e := (.iconst 1, 144, 0, 0, 0)) rfl (fun _ _ _ => rfl) (by decide) : mo_Sim 166 143 (ma_push (ma_ci (.ofNat 1)) 144)) (mt_none)))
set_option maxRecDepth 100000 in
theorem smt166_52 (k : Nat) : ∀ f, mt166_52 k = some f → mo_Sim 166 k f := mt_leaf (ms_isub (e := (.isub, 145, 0, 0, 0)) rfl (fun _ _ _ => rfl) : mo_Sim 166 144 (ma_isub 144 145)) (mt_leaf (ms_iald (e := (.iaload, 146, 0, 0, 0)) rfl (fun _ _ _ => rfl) : mo_Sim 166 145 (ma_iald 145 146)) (mt_leaf (ms_iast (e := (.iastore, 147, 0, 0, 0)) rfl rfl (fun _ _ _ => rfl) : mo_Sim 166 146 (ma_ast 13 0 146 147)) (mt_leaf (ms_iinc (e := (.iinc 6 (-1), 150, 0, 0, 0)) rfl (fun _ _ _ => rfl) (by decide) : mo_Sim 166 147 (ma_iinc 6 (.negSucc 0) 147 150)) (mt_none))))
set_option maxRecDepth 100000 in
theorem smt166_50 (k : Nat) : ∀ f, mt166_50 k = some f → mo_Sim 166 k f := mt_node (smt166_51 k) (smt166_52 k)
set_option maxRecDepth 100000 in
theorem smt166_54 (k : Nat) : ∀ f, mt166_54 k = some f → mo_Sim 166 k f := mt_leaf (ms_goto (e := (.goto (-112), 153, 38, 0, 0)) rfl (fun _ _ _ => rfl) : mo_Sim 166 150 (ma_goto 38)) (mt_leaf (ms_ald (e := (.aload_n 0, 154, 0, 0, 0)) rfl (fun _ _ _ => rfl) : mo_Sim 166 153 (ma_lda 0 154)) (mt_leaf (ms_getf (e := (.getfield 45, 157, 12, 14, 1066)) rfl (fun _ _ _ => rfl) : mo_Sim 166 154 (ma_getf 12 14 157)) (mt_none)))
set_option maxRecDepth 100000 in
theorem smt166_55 (k : Nat) : ∀ f, mt166_55 k = some f → mo_Sim 166 k f := mt_leaf (ms_pushi (e := (.sipush 256, 160, 0, 0, 0)) rfl (fun _ _ _ => rfl) (by decide) : mo_Sim 166 157 (ma_push (ma_ci (.ofNat 256)) 160)) (mt_leaf (ms_ild (e := (.iload_n 1, 161, 0, 0, 0)) rfl (fun _ _ _ => rfl) : mo_Sim 166 160 (ma_load 0 1 161)) (mt_leaf (ms_i2 (e := (.imul, 162, 0, 0, 0)) rfl (fun _ _ _ => rfl) hf_mul : mo_Sim 166 161 (ma_i2 ma_fmul 161 162)) (mt_leaf (ms_ild (e := (.iload 6, 164, 0, 0, 0)) rfl (fun _ _ _ => rfl) : mo_Sim 166 162 (ma_load 0 6 164)) (mt_none))))
set_option maxRecDepth 100000 in
theorem smt166_53 (k : Nat) : ∀ f, mt166_53 k = some f → mo_Sim 166 k f := mt_node (smt166_54 k) (smt166_55 k)
set_option maxRecDepth 100000 in
theorem smt166_49 (k : Nat) : ∀ f, mt166_49 k = some f → mo_Sim 166 k f := mt_node (smt166_50 k) (smt166_53 k)
set_option maxRecDepth 100000 in
theorem smt166_58 (k : Nat) : ∀ f, mt166_58 k = some f → mo_Sim 166 k f := mt_leaf (ms_iadd (e := (.iadd, 165, 0, 0, 0)) rfl (fun _ _ _ => rfl) : mo_Sim 166 164 (ma_iadd 164 165)) (mt_leaf (ms_ild (e := (.iload 4, 167, 0, 0, 0)) rfl (fun _ _ _ => rfl) : mo_Sim 166 165 (ma_load 0 4 167)) (mt_leaf (ms_iast (e := (.iastore, 168, 0, 0, 0)) rfl rfl (fun _ _ _ => rfl) : mo_Sim 166 167 (ma_ast 13 0 167 168)) (mt_none)))
set_option maxRecDepth 100000 in
theorem smt166_59 (k : Nat) : ∀ f, mt166_59 k = some f → mo_Sim 166 k f := mt_leaf (ms_ald (e := (.aload_n 0, 169, 0, 0, 0)) rfl (fun _ _ _ => rfl) : mo_Sim 166 168 (ma_lda 0 169)) (mt_leaf (ms_getf (e := (.getfield 48, 172, 12, 15, 1067)) rfl (fun _ _ _ => rfl) : mo_Sim 166 169 (ma_getf 12 15 172)) (mt_leaf (ms_pushi (e := (.sipush 256, 175, 0, 0, 0)) rfl (fun _ _ _ => rfl) (by decide) : mo_Sim 166 172 (ma_push (ma_ci (.ofNat 256)) 175)) (mt_leaf (ms_ild (e := (.iload_n 1, 176, 0, 0, 0)) rfl (fun _ _ _ => rfl) : mo_Sim 166 175 (ma_load 0 1 176)) (mt_none))))
set_option maxRecDepth 100000 in
theorem smt166_57 (k : Nat) : ∀ f, mt166_57 k = some f → mo_Sim 166 k f := mt_node (smt166_58 k) (smt166_59 k)
set_option maxRecDepth 100000 in
theorem smt166_61 (k : Nat) : ∀ f, mt166_61 k = some f → mo_Sim 166 k f := mt_leaf (ms_i2 (e := (.imul, 177, 0, 0, 0)) rfl (fun _ _ _ => rfl) hf_mul : mo_Sim 166 176 (ma_i2 ma_fmul 176 177)) (mt_leaf (ms_ild (e := (.iload 6, 179, 0, 0, 0)) rfl (fun _ _ _ => rfl) : mo_Sim 166 177 (ma_load 0 6 179)) (mt_leaf (ms_iadd (e := (.iadd, 180, 0, 0, 0)) rfl (fun _ _ _ => rfl) : mo_Sim 166 179 (ma_iadd 179 180)) (mt_leaf (ms_ild (e := (.iload 5, 182, 0, 0, 0)) rfl (fun _ _ _ => rfl) : mo_Sim 166 180 (ma_load 0 5 182)) (mt_none))))
set_option maxRecDepth 100000 in
theorem smt166_62 (k : Nat) : ∀ f, mt166_62 k = some f → mo_Sim 166 k f := mt_leaf (ms_iast (e := (.iastore, 183, 0, 0, 0)) rfl rfl (fun _ _ _ => rfl) : mo_Sim 166 182 (ma_ast 13 0 182 183)) (mt_leaf (ms_iinc (e := (.iinc 3 1, 186, 0, 0, 0)) rfl (fun _ _ _ => rfl) (by decide) : mo_Sim 166 183 (ma_iinc 3 (.ofNat 1) 183 186)) (mt_leaf (ms_goto (e := (.goto (-184), 189, 2, 0, 0)) rfl (fun _ _ _ => rfl) : mo_Sim 166 186 (ma_goto 2)) (mt_leaf (ms_retv (e := (.return_, 190, 0, 0, 0)) rfl rfl (fun _ _ _ => rfl) : mo_Sim 166 189 (ma_retv)) (mt_none))))
set_option maxRecDepth 100000 in
theorem smt166_60 (k : Nat) : ∀ f, mt166_60 k = some f → mo_Sim 166 k f := mt_node (smt166_61 k) (smt166_62 k)
set_option maxRecDepth 100000 in
theorem smt166_56 (k : Nat) : ∀ f, mt166_56 k = some f → mo_Sim 166 k f := mt_node (smt166_57 k) (smt166_60 k)
set_option maxRecDepth 100000 in
theorem smt166_48 (k : Nat) : ∀ f, mt166_48 k = some f → mo_Sim 166 k f := mt_node (smt166_49 k) (smt166_56 k)
set_option maxRecDepth 100000 in
theorem smt166_32 (k : Nat) : ∀ f, mt166_32 k = some f → mo_Sim 166 k f := mt_node (smt166_33 k) (smt166_48 k)
set_option maxRecDepth 100000 in
theorem smt166_0 (k : Nat) : ∀ f, mt166_0 k = some f → mo_Sim 166 k f := mt_node (smt166_1 k) (smt166_32 k)
set_option maxRecDepth 100000 in
theorem smt167_6 (k : Nat) : ∀ f, mt167_6 k = some f → mo_Sim 167 k f := mt_leaf (ms_ald (e := (.aload_n 0, 1, 0, 0, 0)) rfl (fun _ _ _ => rfl) : mo_Sim 167 0 (ma_lda 0 1)) (mt_leaf (ms_getf (e := (.getfield 51, 4, 12, 16, 1068)) rfl (fun _ _ _ => rfl) : mo_Sim 167 1 (ma_getf 12 16 4)) (mt_leaf (ms_ild (e := (.iload_n 1, 5, 0, 0, 0)) rfl (fun _ _ _ => rfl) : mo_Sim 167 4 (ma_load 0 1 5)) (mt_none)))
set_option maxRecDepth 100000 in
theorem smt167_7 (k : Nat) : ∀ f, mt167_7 k = some f → mo_Sim 167 k f := mt_leaf (ms_iald (e := (.iaload, 6, 0, 0, 0)) rfl (fun _ _ _ => rfl) : mo_Sim 167 5 (ma_iald 5 6)) (mt_leaf (ms_pushi (e := (.iconst (-1), 7, 0, 0, 0)) rfl (fun _ _ _ => rfl) (by decide) : mo_Sim 167 6 (ma_push (ma_ci (.negSucc 0)) 7)) (mt_leaf (ms_if2 (e := (.if_icmp .eq 4, 10, 11, 0, 0)) rfl (fun _ _ _ => rfl) : mo_Sim 167 7 (ma_if2 .eq 11 7 10)) (mt_none)))
set_option maxRecDepth 100000 in
theorem smt167_5 (k : Nat) : ∀ f, mt167_5 k = some f → mo_Sim 167 k f := mt_node (smt167_6 k) (smt167_7 k)
set_option maxRecDepth 100000 in
theorem smt167_9 (k : Nat) : ∀ f, mt167_9 k = some f → mo_Sim 167 k f := mt_leaf (ms_retv (e := (.return_, 11, 0, 0, 0)) rfl rfl (fun _ _ _ => rfl) : mo_Sim 167 10 (ma_retv)) (mt_leaf (ms_ald (e := (.aload_n 0, 12, 0, 0, 0)) rfl (fun _ _ _ => rfl) : mo_Sim 167 11 (ma_lda 0 12)) (mt_leaf (ms_ild (e := (.iload_n 1, 13, 0, 0, 0)) rfl (fun _ _ _ => rfl) : mo_Sim 167 12 (ma_load 0 1 13)) (mt_none)))
set_option maxRecDepth 100000 in
theorem smt167_10 (k : Nat) : ∀ f, mt167_10 k = some f → mo_Sim 167 k f := mt_leaf (ms_invV (p := 1) (e := (.invokevirtual 133, 16, 162, 0, 1220)) rfl rfl (fun _ _ _ => rfl) rfl rfl rfl (by decide) : mo_Sim 167 13 (ma_inv 162 2 2 12 16)) (mt_leaf (ms_ist (e := (.istore_n 2, 17, 0, 0, 0)) rfl (fun _ _ _ => rfl) : mo_Sim 167 16 (ma_stor 0 2 17)) (mt_leaf (ms_ald (e := (.aload_n 0, 18, 0, 0, 0)) rfl (fun _ _ _ => rfl) : mo_Sim 167 17 (ma_lda 0 18)) (mt_none)))
set_option maxRecDepth 100000 in
theorem smt167_8 (k : Nat) : ∀ f, mt167_8 k = some f → mo_Sim 167 k f := mt_node (smt167_9 k) (smt167_10 k)
set_option maxRecDepth 100000 in
theorem smt167_4 (k : Nat) : ∀ f, mt167_4 k = some f → mo_Sim 167 k f := mt_node (smt167_5 k) (smt167_8 k)
set_option maxRecDepth 100000 in
theorem smt167_13 (k : Nat) : ∀ f, mt167_13 k = some f → mo_Sim 167 k f := mt_leaf (ms_getf (e := (.getfield 7, 21, 12, 0, 1052)) rfl (fun _ _ _ => rfl) : mo_Sim 167 18 (ma_getf 12 0 21)) (mt_leaf (ms_ild (e := (.iload_n 2, 22, 0, 0, 0)) rfl (fun _ _ _ => rfl) : mo_Sim 167 21 (ma_load 0 2 22)) (mt_leaf (ms_invS (e := (.invokestatic 88, 25, 140, 1, 1155)) rfl rfl (fun _ _ _ => rfl) rfl rfl : mo_Sim 167 22 (ma_inv 140 2 4 20 25)) (mt_none)))
set_option maxRecDepth 100000 in
theorem smt167_14 (k : Nat) : ∀ f, mt167_14 k = some f → mo_Sim 167 k f := mt_leaf (ms_ist (e := (.istore_n 3, 26, 0, 0, 0)) rfl (fun _ _ _ => rfl) : mo_Sim 167 25 (ma_stor 0 3 26)) (mt_leaf (ms_pushi (e := (.iconst 0, 27, 0, 0, 0)) rfl (fun _ _ _ => rfl) (by decide) : mo_Sim 167 26 (ma_push (ma_ci (.ofNat 0)) 27)) (mt_leaf (ms_ist (e := (.istore 4, 29, 0, 0, 0)) rfl (fun _ _ _ => rfl) : mo_Sim 167 27 (ma_stor 0 4 29)) (mt_none)))
set_option maxRecDepth 100000 in
theorem smt167_12 (k : Nat) : ∀ f, mt167_12 k = some f → mo_Sim 167 k f := mt_node (smt167_13 k) (smt167_14 k)
set_option maxRecDepth 100000 in
theorem smt167_16 (k : Nat) : ∀ f, mt167_16 k = some f → mo_Sim 167 k f := mt_leaf (ms_ild (e := (.iload 4, 31, 0, 0, 0)) rfl (fun _ _ _ => rfl) : mo_Sim 167 29 (ma_load 0 4 31)) (mt_leaf (ms_ild (e := (.iload_n 3, 32, 0, 0, 0)) rfl (fun _ _ _ => rfl) : mo_Sim 167 31 (ma_load 0 3 32)) (mt_leaf (ms_if2 (e := (.if_icmp .ge 17, 35, 49, 0, 0)) rfl (fun _ _ _ => rfl) : mo_Sim 167 32 (ma_if2 .ge 49 32 35)) (mt_none)))
set_option maxRecDepth 100000 in
theorem smt167_17 (k : Nat) : ∀ f, mt167_17 k = some f → mo_Sim 167 k f := mt_leaf (ms_ald (e := (.aload_n 0, 36, 0, 0, 0)) rfl (fun _ _ _ => rfl) : mo_Sim 167 35 (ma_lda 0 36)) (mt_leaf (ms_getf (e := (.getfield 54, 39, 12, 17, 1069)) rfl (fun _ _ _ => rfl) : mo_Sim 167 36 (ma_getf 12 17 39)) (mt_leaf (ms_ild (e := (.iload 4, 41, 0, 0, 0)) rfl (fun _ _ _ => rfl) : mo_Sim 167 39 (ma_load 0 4 41)) (mt_none)))
set_option maxRecDepth 100000 in
theorem smt167_15 (k : Nat) : ∀ f, mt167_15 k = some f → mo_Sim 167 k f := mt_node (smt167_16 k) (smt167_17 k)
set_option maxRecDepth 100000 in
theorem smt167_11 (k : Nat) : ∀ f, mt167_11 k = some f → mo_Sim 167 k f := mt_node (smt167_12 k) (smt167_15 k)
set_option maxRecDepth 100000 in
theorem smt167_3 (k : Nat) : ∀ f, mt167_3 k = some f → mo_Sim 167 k f := mt_node (smt167_4 k) (smt167_11 k)
set_option maxRecDepth 100000 in
theorem smt167_21 (k : Nat) : ∀ f, mt167_21 k = some f → mo_Sim 167 k f := mt_leaf (ms_pushi (e := (.iconst 0, 42, 0, 0, 0)) rfl (fun _ _ _ => rfl) (by decide) : mo_Sim 167 41 (ma_push (ma_ci (.ofNat 0)) 42)) (mt_leaf (ms_iast (e := (.iastore, 43, 0, 0, 0)) rfl rfl (fun _ _ _ => rfl) : mo_Sim 167 42 (ma_ast 13 0 42 43)) (mt_leaf (ms_iinc (e := (.iinc 4 1, 46, 0, 0, 0)) rfl (fun _ _ _ => rfl) (by decide) : mo_Sim 167 43 (ma_iinc 4 (.ofNat 1) 43 46)) (mt_none)))
set_option maxRecDepth 100000 in
theorem smt167_22 (k : Nat) : ∀ f, mt167_22 k = some f → mo_Sim 167 k f := mt_leaf (ms_goto (e := (.goto (-17), 49, 29, 0, 0)) rfl (fun _ _ _ => rfl) : mo_Sim 167 46 (ma_goto 29)) (mt_leaf (ms_pushi (e := (.iconst 0, 50, 0, 0, 0)) rfl (fun _ _ _ => rfl) (by decide) : mo_Sim 167 49 (ma_push (ma_ci (.ofNat 0)) 50)) (mt_leaf (ms_ist (e := (.istore 4, 52, 0, 0, 0)) rfl (fun _ _ _ => rfl) : mo_Sim 167 50 (ma_stor 0 4 52)) (mt_none)))
set_option maxRecDepth 100000 in
theorem smt167_20 (k : Nat) : ∀ f, mt167_20 k = some f → mo_Sim 167 k f := mt_node (smt167_21 k) (smt167_22 k)
set_option maxRecDepth 100000 in
theorem smt167_24 (k : Nat) : ∀ f, mt167_24 k = some f → mo_Sim 167 k f := mt_leaf (ms_ild (e := (.iload 4, 54, 0, 0, 0)) rfl (fun _ _ _ => rfl) : mo_Sim 167 52 (ma_load 0 4 54)) (mt_leaf (ms_ild (e := (.iload_n 1, 55, 0, 0, 0)) rfl (fun _ _ _ => rfl) : mo_Sim 167 54 (ma_load 0 1 55)) (mt_leaf (ms_if2 (e := (.if_icmp .ge 55, 58, 110, 0, 0)) rfl (fun _ _ _ => rfl) : mo_Sim 167 55 (ma_if2 .ge 110 55 58)) (mt_none)))
set_option maxRecDepth 100000 in
theorem smt167_25 (k : Nat) : ∀ f, mt167_25 k = some f → mo_Sim 167 k f := mt_leaf (ms_pushi (e := (.iconst 0, 59, 0, 0, 0)) rfl (fun _ _ _ => rfl) (by decide) : mo_Sim 167 58 (ma_push (ma_ci (.ofNat 0)) 59)) (mt_leaf (ms_ist (e := (.istore 5, 61, 0, 0, 0)) rfl (fun _ _ _ => rfl) : mo_Sim 167 59 (ma_stor 0 5 61)) (mt_leaf (ms_ild (e := (.iload_n 2, 62, 0, 0, 0)) rfl (fun _ _ _ => rfl) : mo_Sim 167 61 (ma_load 0 2 62)) (mt_none)))
set_option maxRecDepth 100000 in
theorem smt167_23 (k : Nat) : ∀ f, mt167_23 k = some f → mo_Sim 167 k f := mt_node (smt167_24 k) (smt167_25 k)
set_option maxRecDepth 100000 in
theorem smt167_19 (k : Nat) : ∀ f, mt167_19 k = some f → mo_Sim 167 k f := mt_node (smt167_20 k) (smt167_23 k)
set_option maxRecDepth 100000 in
theorem smt167_28 (k : Nat) : ∀ f, mt167_28 k = some f → mo_Sim 167 k f := mt_leaf (ms_pushi (e := (.iconst 1, 63, 0, 0, 0)) rfl (fun _ _ _ => rfl) (by decide) : mo_Sim 167 62 (ma_push (ma_ci (.ofNat 1)) 63)) (mt_leaf (ms_isub (e := (.isub, 64, 0, 0, 0)) rfl (fun _ _ _ => rfl) : mo_Sim 167 63 (ma_isub 63 64)) (mt_leaf (ms_ist (e := (.istore 6, 66, 0, 0, 0)) rfl (fun _ _ _ => rfl) : mo_Sim 167 64 (ma_stor 0 6 66)) (mt_none)))
set_option maxRecDepth 100000 in
theorem smt167_29 (k : Nat) : ∀ f, mt167_29 k = some f → mo_Sim 167 k f := mt_leaf (ms_ild (e := (.iload 6, 68, 0, 0, 0)) rfl (fun _ _ _ => rfl) : mo_Sim 167 66 (ma_load 0 6 68)) (mt_leaf (ms_if0 (e := (.ifCond .lt 28, 71, 96, 0, 0)) rfl (fun _ _ _ => rfl) : mo_Sim 167 68 (ma_if0 .lt 96 68 71)) (mt_leaf (ms_ild (e := (.iload 5, 73, 0, 0, 0)) rfl (fun _ _ _ => rfl) : mo_Sim 167 71 (ma_load 0 5 73)) (mt_none)))
set_option maxRecDepth 100000 in
theorem smt167_27 (k : Nat) : ∀ f, mt167_27 k = some f → mo_Sim 167 k f := mt_node (smt167_28 k) (smt167_29 k)
set_option maxRecDepth 100000 in
theorem smt167_31 (k : Nat) : ∀ f, mt167_31 k = some f → mo_Sim 167 k f := mt_leaf (ms_ald (e := (.aload_n 0, 74, 0, 0, 0)) rfl (fun _ _ _ => rfl) : mo_Sim 167 73 (ma_lda 0 74)) (mt_leaf (ms_getf (e := (.getfield 7, 77, 12, 0, 1052)) rfl (fun _ _ _ => rfl) : mo_Sim 167 74 (ma_getf 12 0 77)) (mt_leaf (ms_i2 (e := (.imul, 78, 0, 0, 0)) rfl (fun _ _ _ => rfl) hf_mul : mo_Sim 167 77 (ma_i2 ma_fmul 77 78)) (mt_none)))
set_option maxRecDepth 100000 in
theorem smt167_32 (k : Nat) : ∀ f, mt167_32 k = some f → mo_Sim 167 k f := mt_leaf (ms_ald (e := (.aload_n 0, 79, 0, 0, 0)) rfl (fun _ _ _ => rfl) : mo_Sim 167 78 (ma_lda 0 79)) (mt_leaf (ms_ild (e := (.iload 6, 81, 0, 0, 0)) rfl (fun _ _ _ => rfl) : mo_Sim 167 79 (ma_load 0 6 81)) (mt_leaf (ms_ild (e := (.iload_n 1, 82, 0, 0, 0)) rfl (fun _ _ _ => rfl) : mo_Sim 167 81 (ma_load 0 1 82)) (mt_none)))
set_option maxRecDepth 100000 in
theorem smt167_30 (k : Nat) : ∀ f, mt167_30 k = some f → mo_Sim 167 k f := mt_node (smt167_31 k) (smt167_32 k)
set_option maxRecDepth 100000 in
theorem smt167_26 (k : Nat) : ∀ f, mt167_26 k = some f → mo_Sim 167 k f := mt_node (smt167_27 k) (smt167_30 k)
set_option maxRecDepth 100000 in
theorem smt167_18 (k : Nat) : ∀ f, mt167_18 k = some f → mo_Sim 167 k f := mt_node (smt167_19 k) (smt167_26 k)
set_option maxRecDepth 100000 in
theorem smt167_2 (k : Nat) : ∀ f, mt167_2 k = some f → mo_Sim 167 k f := mt_node (smt167_3 k) (smt167_18 k)
set_option maxRecDepth 100000 in
theorem smt167_37 (k : Nat) : ∀ f, mt167_37 k = some f → mo_Sim 167 k f := mt_leaf (ms_ild (e := (.iload 4, 84, 0, 0, 0)) rfl (fun _ _ _ => rfl) : mo_Sim 167 82 (ma_load 0 4 84)) (mt_leaf (ms_invV (p := 3) (e := (.invokevirtual 137, 87, 152, 0, 1224)) rfl rfl (fun _ _ _ => rfl) rfl rfl rfl (by decide) : mo_Sim 167 84 (ma_inv 152 4 4 12 87)) (mt_leaf (ms_iadd (e := (.iadd, 88, 0, 0, 0)) rfl (fun _ _ _ => rfl) : mo_Sim 167 87 (ma_iadd 87 88)) (mt_none)))
set_option maxRecDepth 100000 in
theorem smt167_38 (k : Nat) : ∀ f, mt167_38 k = some f → mo_Sim 167 k f := mt_leaf (ms_ist (e := (.istore 5, 90, 0, 0, 0)) rfl (fun _ _ _ => rfl) : mo_Sim 167 88 (ma_stor 0 5 90)) (mt_leaf (ms_iinc (e := (.iinc 6 (-1), 93, 0, 0, 0)) rfl (fun _ _ _ => rfl) (by decide) : mo_Sim 167 90 (ma_iinc 6 (.negSucc 0) 90 93)) (mt_leaf (ms_goto (e := (.goto (-27), 96, 66, 0, 0)) rfl (fun _ _ _ => rfl) : mo_Sim 167 93 (ma_goto 66)) (mt_none)))
set_option maxRecDepth 100000 in
theorem smt167_36 (k : Nat) : ∀ f, mt167_36 k = some f → mo_Sim 167 k f := mt_node (smt167_37 k) (smt167_38 k)
set_option maxRecDepth 100000 in
theorem smt167_40 (k : Nat) : ∀ f, mt167_40 k = some f → mo_Sim 167 k f := mt_leaf (ms_ald (e := (.aload_n 0, 97, 0, 0, 0)) rfl (fun _ _ _ => rfl) : mo_Sim 167 96 (ma_lda 0 97)) (mt_leaf (ms_getf (e := (.getfield 54, 100, 12, 17, 1069)) rfl (fun _ _ _ => rfl) : mo_Sim 167 97 (ma_getf 12 17 100)) (mt_leaf (ms_ild (e := (.iload 5, 102, 0, 0, 0)) rfl (fun _ _ _ => rfl) : mo_Sim 167 100 (ma_load 0 5 102)) (mt_none)))
set_option maxRecDepth 100000 in
theorem smt167_41 (k : Nat) : ∀ f, mt167_41 k = some f → mo_Sim 167 k f := mt_leaf (ms_pushi (e := (.iconst 1, 103, 0, 0, 0)) rfl (fun _ _ _ => rfl) (by decide) : mo_Sim 167 102 (ma_push (ma_ci (.ofNat 1)) 103)) (mt_leaf (ms_iast (e := (.iastore, 104, 0, 0, 0)) rfl rfl (fun _ _ _ => rfl) : mo_Sim 167 103 (ma_ast 13 0 103 104)) (mt_leaf (ms_iinc (e := (.iinc 4 1, 107, 0, 0, 0)) rfl (fun _ _ _ => rfl) (by decide) : mo_Sim 167 104 (ma_iinc 4 (.ofNat 1) 104 107)) (mt_none)))
set_option maxRecDepth 100000 in
theorem smt167_39 (k : Nat) : ∀ f, mt167_39 k = some f → mo_Sim 167 k f := mt_node (smt167_40 k) (smt167_41 k)
set_option maxRecDepth 100000 in
theorem smt167_35 (k : Nat) : ∀ f, mt167_35 k = some f → mo_Sim 167 k f := mt_node (smt167_36 k) (smt167_39 k)
set_option maxRecDepth 100000 in
theorem smt167_44 (k : Nat) : ∀ f, mt167_44 k = some f → mo_Sim 167 k f := mt_leaf (ms_goto (e := (.goto (-55), 110, 52, 0, 0)) rfl (fun _ _ _ => rfl) : mo_Sim 167 107 (ma_goto 52)) (mt_leaf (ms_pushi (e := (.iconst 0, 111, 0, 0, 0)) rfl (fun _ _ _ => rfl) (by decide) : mo_Sim 167 110 (ma_push (ma_ci (.ofNat 0)) 111)) (mt_leaf (ms_ist (e := (.istore 4, 113, 0, 0, 0)) rfl (fun _ _ _ => rfl) : mo_Sim 167 111 (ma_stor 0 4 113)) (mt_none)))
set_option maxRecDepth 100000 in
theorem smt167_45 (k : Nat) : ∀ f, mt167_45 k = some f → mo_Sim 167 k f := mt_leaf (ms_pushi (e := (.iconst (-1), 114, 0, 0, 0)) rfl (fun _ _ _ => rfl) (by decide) : mo_Sim 167 113 (ma_push (ma_ci (.negSucc 0)) 114)) (mt_leaf (ms_ist (e := (.istore 5, 116, 0, 0, 0)) rfl (fun _ _ _ => rfl) : mo_Sim 167 114 (ma_stor 0 5 116)) (mt_leaf (ms_pushi (e := (.iconst 0, 117, 0, 0, 0)) rfl (fun _ _ _ => rfl) (by decide) : mo_Sim 167 116 (ma_push (ma_ci (.ofNat 0)) 117)) (mt_none)))
set_option maxRecDepth 100000 in
theorem smt167_43 (k : Nat) : ∀ f, mt167_43 k = some f → mo_Sim 167 k f := mt_node (smt167_44 k) (smt167_45 k)
set_option maxRecDepth 100000 in
theorem smt167_47 (k : Nat) : ∀ f, mt167_47 k = some f → mo_Sim 167 k f := mt_leaf (ms_ist (e := (.istore 6, 119, 0, 0, 0)) rfl (fun _ _ _ => rfl) : mo_Sim 167 117 (ma_stor 0 6 119)) (mt_leaf (ms_ild (e := (.iload 6, 121, 0, 0, 0)) rfl (fun _ _ _ => rfl) : mo_Sim 167 119 (ma_load 0 6 121)) (mt_leaf (ms_ild (e := (.iload_n 3, 122, 0, 0, 0)) rfl (fun _ _ _ => rfl) : mo_Sim 167 121 (ma_load 0 3 122)) (mt_none)))
set_option maxRecDepth 100000 in
theorem smt167_48 (k : Nat) : ∀ f, mt167_48 k = some f → mo_Sim 167 k f := mt_leaf (ms_if2 (e := (.if_icmp .ge 46, 125, 168, 0, 0)) rfl (fun _ _ _ => rfl) : mo_Sim 167 122 (ma_if2 .ge 168 122 125)) (mt_leaf (ms_ald (e := (.aload_n 0, 126, 0, 0, 0)) rfl (fun _ _ _ => rfl) : mo_Sim 167 125 (ma_lda 0 126)) (mt_leaf (ms_getf (e := (.getfield 54, 129, 12, 17, 1069)) rfl (fun _ _ _ => rfl) : mo_Sim 167 126 (ma_getf 12 17 129)) (mt_none)))
set_option maxRecDepth 100000 in
theorem smt167_46 (k : Nat) : ∀ f, mt167_46 k = some f → mo_Sim 167 k f := mt_node (smt167_47 k) (smt167_48 k)
set_option maxRecDepth 100000 in
theorem smt167_42 (k : Nat) : ∀ f, mt167_42 k = some f → mo_Sim 167 k f := mt_node (smt167_43 k) (smt167_46 k)
set_option maxRecDepth 100000 in
theorem smt167_34 (k : Nat) : ∀ f, mt167_34 k = some f → mo_Sim 167 k f := mt_node (smt167_35 k) (smt167_42 k)
set_option maxRecDepth 100000 in
theorem smt167_52 (k : Nat) : ∀ f, mt167_52 k = some f → mo_Sim 167 k f := mt_leaf (ms_ild (e := (.iload 6, 131, 0, 0, 0)) rfl (fun _ _ _ => rfl) : mo_Sim 167 129 (ma_load 0 6 131)) (mt_leaf (ms_iald (e := (.iaload, 132, 0, 0, 0)) rfl (fun _ _ _ => rfl) : mo_Sim 167 131 (ma_iald 131 132)) (mt_leaf (ms_if0 (e := (.ifCond .le 30, 135, 162, 0, 0)) rfl (fun _ _ _ => rfl) : mo_Sim 167 132 (ma_if0 .le 162 132 135)) (mt_none)))
set_option maxRecDepth 100000 in
theorem smt167_53 (k : Nat) : ∀ f, mt167_53 k = some f → mo_Sim 167 k f := mt_leaf (ms_ild (e := (.iload 5, 137, 0, 0, 0)) rfl (fun _ _ _ => rfl) : mo_Sim 167 135 (ma_load 0 5 137)) (mt_leaf (ms_pushi (e := (.iconst (-1), 138, 0, 0, 0)) rfl (fun _ _ _ => rfl) (by decide) : mo_Sim 167 137 (ma_push (ma_ci (.negSucc 0)) 138)) (mt_leaf (ms_if2 (e := (.if_icmp .eq 20, 141, 158, 0, 0)) rfl (fun _ _ _ => rfl) : mo_Sim 167 138 (ma_if2 .eq 158 138 141)) (mt_none)))
set_option maxRecDepth 100000 in
theorem smt167_51 (k : Nat) : ∀ f, mt167_51 k = some f → mo_Sim 167 k f := mt_node (smt167_52 k) (smt167_53 k)
set_option maxRecDepth 100000 in
theorem smt167_55 (k : Nat) : ∀ f, mt167_55 k = some f → mo_Sim 167 k f := mt_leaf (ms_ald (e := (.aload_n 0, 142, 0, 0, 0)) rfl (fun _ _ _ => rfl) : mo_Sim 167 141 (ma_lda 0 142)) (mt_leaf (ms_getf (e := (.getfield 54, 145, 12, 17, 1069)) rfl (fun _ _ _ => rfl) : mo_Sim 167 142 (ma_getf 12 17 145)) (mt_leaf (ms_ild (e := (.iload 6, 147, 0, 0, 0)) rfl (fun _ _ _ => rfl) : mo_Sim 167 145 (ma_load 0 6 147)) (mt_none)))
set_option maxRecDepth 100000 in
theorem smt167_56 (k : Nat) : ∀ f, mt167_56 k = some f → mo_Sim 167 k f := mt_leaf (ms_iald (e := (.iaload, 148, 0, 0, 0)) rfl (fun _ _ _ => rfl) : mo_Sim 167 147 (ma_iald 147 148)) (mt_leaf (ms_ald (e := (.aload_n 0, 149, 0, 0, 0)) rfl (fun _ _ _ => rfl) : mo_Sim 167 148 (ma_lda 0 149)) (mt_leaf (ms_getf (e := (.getfield 54, 152, 12, 17, 1069)) rfl (fun _ _ _ => rfl) : mo_Sim 167 149 (ma_getf 12 17 152)) (mt_none)))
set_option maxRecDepth 100000 in
theorem smt167_54 (k : Nat) : ∀ f, mt167_54 k = some f → mo_Sim 167 k f := mt_node (smt167_55 k) (smt167_56 k)
set_option maxRecDepth 100000 in
theorem smt167_50 (k : Nat) : ∀ f, mt167_50 k = some f → mo_Sim 167 k f := mt_node (smt167_51 k) (smt167_54 k)
set_option maxRecDepth 100000 in
theorem smt167_59 (k : Nat) : ∀ f, mt167_59 k = some f → mo_Sim 167 k f := mt_leaf (ms_ild (e := (.iload 5, 154, 0, 0, 0)) rfl (fun _ _ _ => rfl) : mo_Sim 167 152 (ma_load 0 5 154)) (mt_leaf (ms_iald (e := (.iaload, 155, 0, 0, 0)) rfl (fun _ _ _ => rfl) : mo_Sim 167 154 (ma_iald 154 155)) (mt_leaf (ms_if2 (e := (.if_icmp .ge 7, 158, 162, 0, 0)) rfl (fun _ _ _ => rfl) : mo_Sim 167 155 (ma_if2 .ge 162 155 158)) (mt_none)))
set_option maxRecDepth 100000 in
theorem smt167_60 (k : Nat) : ∀ f, mt167_60 k = some f → mo_Sim 167 k f := mt_leaf (ms_ild (e := (.iload 6, 160, 0, 0, 0)) rfl (fun _ _ _ => rfl) : mo_Sim 167 158 (ma_load 0 6 160)) (mt_leaf (ms_ist (e := (.istore 5, 162, 0, 0, 0)) rfl (fun _ _ _ => rfl) : mo_Sim 167 160 (ma_stor 0 5 162)) (mt_leaf (ms_iinc (e := (.iinc 6 1, 165, 0, 0, 0)) rfl (fun _ _ _ => rfl) (by decide) : mo_Sim 167 162 (ma_iinc 6 (.ofNat 1) 162 165)) (mt_none)))
set_option maxRecDepth 100000 in
theorem smt167_58 (k : Nat) : ∀ f, mt167_58 k = some f → mo_Sim 167 k f := mt_node (smt167_59 k) (smt167_60 k)
set_option maxRecDepth 100000 in
theorem smt167_62 (k : Nat) : ∀ f, mt167_62 k = some f → mo_Sim 167 k f := mt_leaf (ms_goto (e := (.goto (-46), 168, 119, 0, 0)) rfl (fun _ _ _ => rfl) : mo_Sim 167 165 (ma_goto 119)) (mt_leaf (ms_ild (e := (.iload 5, 170, 0, 0, 0)) rfl (fun _ _ _ => rfl) : mo_Sim 167 168 (ma_load 0 5 170)) (mt_leaf (ms_pushi (e := (.iconst (-1), 171, 0, 0, 0)) rfl (fun _ _ _ => rfl) (by decide) : mo_Sim 167 170 (ma_push (ma_ci (.negSucc 0)) 171)) (mt_none)))
set_option maxRecDepth 100000 in
theorem smt167_63 (k : Nat) : ∀ f, mt167_63 k = some f → mo_Sim 167 k f := mt_leaf (ms_if2 (e := (.if_icmp .ne 19, 174, 190, 0, 0)) rfl (fun _ _ _ => rfl) : mo_Sim 167 171 (ma_if2 .ne 190 171 174)) (mt_leaf (ms_ald (e := (.aload_n 0, 175, 0, 0, 0)) rfl (fun _ _ _ => rfl) : mo_Sim 167 174 (ma_lda 0 175)) (mt_leaf (ms_getf (e := (.getfield 51, 178, 12, 16, 1068)) rfl (fun _ _ _ => rfl) : mo_Sim 167 175 (ma_getf 12 16 178)) (mt_none)))
set_option maxRecDepth 100000 in
theorem smt167_61 (k : Nat) : ∀ f, mt167_61 k = some f → mo_Sim 167 k f := mt_node (smt167_62 k) (smt167_63 k)
set_option maxRecDepth 100000 in
theorem smt167_57 (k : Nat) : ∀ f, mt167_57 k = some f → mo_Sim 167 k f := mt_node (smt167_58 k) (smt167_61 k)
set_option maxRecDepth 100000 in
theorem smt167_49 (k : Nat) : ∀ f, mt167_49 k = some f → mo_Sim 167 k f := mt_node (smt167_50 k) (smt167_57 k)
set_option maxRecDepth 100000 in
theorem smt167_33 (k : Nat) : ∀ f, mt167_33 k = some f → mo_Sim 167 k f := mt_node (smt167_34 k) (smt167_49 k)
set_option maxRecDepth 100000 in
theorem smt167_1 (k : Nat) : ∀ f, mt167_1 k = some f → mo_Sim 167 k f := mt_node (smt167_2 k) (smt167_33 k)
set_option maxRecDepth 100000 in
theorem smt167_69 (k : Nat) : ∀ f, mt167_69 k = some f → mo_Sim 167 k f := mt_leaf (ms_ild (e := (.iload_n 1, 179, 0, 0, 0)) rfl (fun _ _ _ => rfl) : mo_Sim 167 178 (ma_load 0 1 179)) (mt_leaf (ms_ild (e := (.iload 4, 181, 0, 0, 0)) rfl (fun _ _ _ => rfl) : mo_Sim 167 179 (ma_load 0 4 181)) (mt_leaf (ms_iast (e := (.iastore, 182, 0, 0, 0)) rfl rfl (fun _ _ _ => rfl) : mo_Sim 167 181 (ma_ast 13 0 181 182)) (mt_none)))
set_option maxRecDepth 100000 in
theorem smt167_70 (k : Nat) : ∀ f, mt167_70 k = some f → mo_Sim 167 k f := mt_leaf (ms_ald (e := (.aload_n 0, 183, 0, 0, 0)) rfl (fun _ _ _ => rfl) : mo_Sim 167 182 (ma_lda 0 183)) (mt_leaf (ms_ild (e := (.iload_n 1, 184, 0, 0, 0)) rfl (fun _ _ _ => rfl) : mo_Sim 167 183 (ma_load 0 1 184)) (mt_leaf (ms_ild (e := (.iload 4, 186, 0, 0, 0)) rfl (fun _ _ _ => rfl) : mo_Sim 167 184 (ma_load 0 4 186)) (mt_none)))
set_option maxRecDepth 100000 in
theorem smt167_68 (k : Nat) : ∀ f, mt167_68 k = some f → mo_Sim 167 k f := mt_node (smt167_69 k) (smt167_70 k)
set_option maxRecDepth 100000 in
theorem smt167_72 (k : Nat) : ∀ f, mt167_72 k = some f → mo_Sim 167 k f := mt_leaf (ms_invV (p := 2) (e := (.invokevirtual 141, 189, 166, 0, 1228)) rfl rfl (fun _ _ _ => rfl) rfl rfl rfl (by decide) : mo_Sim 167 186 (ma_inv 166 3 7 12 189)) (mt_leaf (ms_retv (e := (.return_, 190, 0, 0, 0)) rfl rfl (fun _ _ _ => rfl) : mo_Sim 167 189 (ma_retv)) (mt_leaf (ms_ild (e := (.iload 4, 192, 0, 0, 0)) rfl (fun _ _ _ => rfl) : mo_Sim 167 190 (ma_load 0 4 192)) (mt_none)))
set_option maxRecDepth 100000 in
theorem smt167_73 (k : Nat) : ∀ f, mt167_73 k = some f → mo_Sim 167 k f := mt_leaf (ms_pushi (e := (.sipush 256, 195, 0, 0, 0)) rfl (fun _ _ _ => rfl) (by decide) : mo_Sim 167 192 (ma_push (ma_ci (.ofNat 256)) 195)) (mt_leaf (ms_if2 (e := (.if_icmp .ne 12, 198, 207, 0, 0)) rfl (fun _ _ _ => rfl) : mo_Sim 167 195 (ma_if2 .ne 207 195 198)) (mt_leaf (ms_ald (e := (.aload_n 0, 199, 0, 0, 0)) rfl (fun _ _ _ => rfl) : mo_Sim 167 198 (ma_lda 0 199)) (mt_none)))
set_option maxRecDepth 100000 in
theorem smt167_71 (k : Nat) : ∀ f, mt167_71 k = some f → mo_Sim 167 k f := mt_node (smt167_72 k) (smt167_73 k)
set_option maxRecDepth 100000 in
theorem smt167_67 (k : Nat) : ∀ f, mt167_67 k = some f → mo_Sim 167 k f := mt_node (smt167_68 k) (smt167_71 k)
set_option maxRecDepth 100000 in
theorem smt167_76 (k : Nat) : ∀ f, mt167_76 k = some f → mo_Sim 167 k f := mt_leaf (ms_getf (e := (.getfield 51, 202, 12, 16, 1068)) rfl (fun _ _ _ => rfl) : mo_Sim 167 199 (ma_getf 12 16 202)) (mt_leaf (ms_ild (e := (.iload_n 1, 203, 0, 0, 0)) rfl (fun _ _ _ => rfl) : mo_Sim 167 202 (ma_load 0 1 203)) (mt_leaf (ms_pushi (e := (.bipush (-8), 205, 0, 0, 0)) rfl (fun _ _ _ => rfl) (by decide) : mo_Sim 167 203 (ma_push (ma_ci (.negSucc 7)) 205)) (mt_none)))
set_option maxRecDepth 100000 in
theorem smt167_77 (k : Nat) : ∀ f, mt167_77 k = some f → mo_Sim 167 k f := mt_leaf (ms_iast (e := (.iastore, 206, 0, 0, 0)) rfl rfl (fun _ _ _ => rfl) : mo_Sim 167 205 (ma_ast 13 0 205 206)) (mt_leaf (ms_retv (e := (.return_, 207, 0, 0, 0)) rfl rfl (fun _ _ _ => rfl) : mo_Sim 167 206 (ma_retv)) (mt_leaf (ms_ald (e := (.aload_n 0, 208, 0, 0, 0)) rfl (fun _ _ _ => rfl) : mo_Sim 167 207 (ma_lda 0 208)) (mt_none)))
set_option maxRecDepth 100000 in
theorem smt167_75 (k : Nat) : ∀ f, mt167_75 k = some f → mo_Sim 167 k f := mt_node (smt167_76 k) (smt167_77 k)
set_option maxRecDepth 100000 in
theorem smt167_79 (k : Nat) : ∀ f, mt167_79 k = some f → mo_Sim 167 k f := mt_leaf (ms_getf (e := (.getfield 45, 211, 12, 14, 1066)) rfl (fun _ _ _ => rfl) : mo_Sim 167 208 (ma_getf 12 14 211)) (mt_leaf (ms_pushi (e := (.sipush 256, 214, 0, 0, 0)) rfl (fun _ _ _ => rfl) (by decide) : mo_Sim 167 211 (ma_push (ma_ci (.ofNat 256)) 214)) (mt_leaf (ms_ild (e := (.iload_n 1, 215, 0, 0, 0)) rfl (fun _ _ _ => rfl) : mo_Sim 167 214 (ma_load 0 1 215)) (mt_none)))
set_option maxRecDepth 100000 in
theorem smt167_80 (k : Nat) : ∀ f, mt167_80 k = some f → mo_Sim 167 k f := mt_leaf (ms_i2 (e := (.imul, 216, 0, 0, 0)) rfl (fun _ _ _ => rfl) hf_mul : mo_Sim 167 215 (ma_i2 ma_fmul 215 216)) (mt_leaf (ms_ild (e := (.iload 4, 218, 0, 0, 0)) rfl (fun _ _ _ => rfl) : mo_Sim 167 216 (ma_load 0 4 218)) (mt_leaf (ms_iadd (e := (.iadd, 219, 0, 0, 0)) rfl (fun _ _ _ => rfl) : mo_Sim 167 218 (ma_iadd 218 219)) (mt_none)))
set_option maxRecDepth 100000 in
theorem smt167_78 (k : Nat) : ∀ f, mt167_78 k = some f → mo_Sim 167 k f := mt_node (smt167_79 k) (smt167_80 k)
set_option maxRecDepth 100000 in
theorem smt167_74 (k : Nat) : ∀ f, mt167_74 k = some f → mo_Sim 167 k f := mt_node (smt167_75 k) (smt167_78 k)
set_option maxRecDepth 100000 in
theorem smt167_66 (k : Nat) : ∀ f, mt167_66 k = some f → mo_Sim 167 k f := mt_node (smt167_67 k) (smt167_74 k)
set_option maxRecDepth 100000 in
theorem smt167_84 (k : Nat) : ∀ f, mt167_84 k = some f → mo_Sim 167 k f := mt_leaf (ms_ild (e := (.iload 5, 221, 0, 0, 0)) rfl (fun _ _ _ => rfl) : mo_Sim 167 219 (ma_load 0 5 221)) (mt_leaf (ms_iast (e := (.iastore, 222, 0, 0, 0)) rfl rfl (fun _ _ _ => rfl) : mo_Sim 167 221 (ma_ast 13 0 221 222)) (mt_leaf (ms_ald (e := (.aload_n 0, 223, 0, 0, 0)) rfl (fun _ _ _ => rfl) : mo_Sim 167 222 (ma_lda 0 223)) (mt_none)))
set_option maxRecDepth 100000 in
theorem smt167_85 (k : Nat) : ∀ f, mt167_85 k = some f → mo_Sim 167 k f := mt_leaf (ms_getf (e := (.getfield 48, 226, 12, 15, 1067)) rfl (fun _ _ _ => rfl) : mo_Sim 167 223 (ma_getf 12 15 226)) (mt_leaf (ms_pushi (e := (.sipush 256, 229, 0, 0, 0)) rfl (fun _ _ _ => rfl) (by decide) : mo_Sim 167 226 (ma_push (ma_ci (.ofNat 256)) 229)) (mt_leaf (ms_ild (e := (.iload_n 1, 230, 0, 0, 0)) rfl (fun _ _ _ => rfl) : mo_Sim 167 229 (ma_load 0 1 230)) (mt_none)))
set_option maxRecDepth 100000 in
theorem smt167_83 (k : Nat) : ∀ f, mt167_83 k = some f → mo_Sim 167 k f := mt_node (smt167_84 k) (smt167_85 k)
set_option maxRecDepth 100000 in
theorem smt167_87 (k : Nat) : ∀ f, mt167_87 k = some f → mo_Sim 167 k f := mt_leaf (ms_i2 (e := (.imul, 231, 0, 0, 0)) rfl (fun _ _ _ => rfl) hf_mul : mo_Sim 167 230 (ma_i2 ma_fmul 230 231)) (mt_leaf (ms_ild (e := (.iload 4, 233, 0, 0, 0)) rfl (fun _ _ _ => rfl) : mo_Sim 167 231 (ma_load 0 4 233)) (mt_leaf (ms_iadd (e := (.iadd, 234, 0, 0, 0)) rfl (fun _ _ _ => rfl) : mo_Sim 167 233 (ma_iadd 233 234)) (mt_none)))
set_option maxRecDepth 100000 in
theorem smt167_88 (k : Nat) : ∀ f, mt167_88 k = some f → mo_Sim 167 k f := mt_leaf (ms_ald (e := (.aload_n 0, 235, 0, 0, 0)) rfl (fun _ _ _ => rfl) : mo_Sim 167 234 (ma_lda 0 235)) (mt_leaf (ms_getf (e := (.getfield 54, 238, 12, 17, 1069)) rfl (fun _ _ _ => rfl) : mo_Sim 167 235 (ma_getf 12 17 238)) (mt_leaf (ms_ild (e := (.iload 5, 240, 0, 0, 0)) rfl (fun _ _ _ => rfl) : mo_Sim 167 238 (ma_load 0 5 240)) (mt_none)))
set_option maxRecDepth 100000 in
theorem smt167_86 (k : Nat) : ∀ f, mt167_86 k = some f → mo_Sim 167 k f := mt_node (smt167_87 k) (smt167_88 k)
set_option maxRecDepth 100000 in
theorem smt167_82 (k : Nat) : ∀ f, mt167_82 k = some f → mo_Sim 167 k f := mt_node (smt167_83 k) (smt167_86 k)
set_option maxRecDepth 100000 in
theorem smt167_91 (k : Nat) : ∀ f, mt167_91 k = some f → mo_Sim 167 k f := mt_leaf (ms_iald (e := (.iaload, 241, 0, 0, 0)) rfl (fun _ _ _ => rfl) : mo_Sim 167 240 (ma_iald 240 241)) (mt_leaf (ms_pushi (e := (.iconst 1, 242, 0, 0, 0)) rfl (fun _ _ _ => rfl) (by decide) : mo_Sim 167 241 (ma_push (ma_ci (.ofNat 1)) 242)) (mt_leaf (ms_isub (e := (.isub, 243, 0, 0, 0)) rfl (fun _ _ _ => rfl) : mo_Sim 167 242 (ma_isub 242 243)) (mt_none)))
set_option maxRecDepth 100000 in
theorem smt167_92 (k : Nat) : ∀ f, mt167_92 k = some f → mo_Sim 167 k f := mt_leaf (ms_iast (e := (.iastore, 244, 0, 0, 0)) rfl rfl (fun _ _ _ => rfl) : mo_Sim 167 243 (ma_ast 13 0 243 244)) (mt_leaf (ms_ild (e := (.iload 5, 246, 0, 0, 0)) rfl (fun _ _ _ => rfl) : mo_Sim 167 244 (ma_load 0 5 246)) (mt_leaf (ms_ist (e := (.istore 6, 248, 0, 0, 0)) rfl (fun _ _ _ => rfl) : mo_Sim 167 246 (ma_stor 0 6 248)) (mt_none)))
set_option maxRecDepth 100000 in
theorem smt167_90 (k : Nat) : ∀ f, mt167_90 k = some f → mo_Sim 167 k f := mt_node (smt167_91 k) (smt167_92 k)
set_option maxRecDepth 100000 in
theorem smt167_94 (k : Nat) : ∀ f, mt167_94 k = some f → mo_Sim 167 k f := mt_leaf (ms_pushi (e := (.iconst 0, 249, 0, 0, 0)) rfl (fun _ _ _ => rfl) (by decide) : mo_Sim 167 248 (ma_push (ma_ci (.ofNat 0)) 249)) (mt_leaf (ms_ist (e := (.istore 7, 251, 0, 0, 0)) rfl (fun _ _ _ => rfl) : mo_Sim 167 249 (ma_stor 0 7 251)) (mt_leaf (ms_ild (e := (.iload 7, 253, 0, 0, 0)) rfl (fun _ _ _ => rfl) : mo_Sim 167 251 (ma_load 0 7 253)) (mt_none)))
set_option maxRecDepth 100000 in
theorem smt167_95 (k : Nat) : ∀ f, mt167_95 k = some f → mo_Sim 167 k f := mt_leaf (ms_ild (e := (.iload_n 2, 254, 0, 0, 0)) rfl (fun _ _ _ => rfl) : mo_Sim 167 253 (ma_load 0 2 254)) (mt_leaf (ms_if2 (e := (.if_icmp .ge 38, 257, 292, 0, 0)) rfl (fun _ _ _ => rfl) : mo_Sim 167 254 (ma_if2 .ge 292 254 257)) (mt_leaf (ms_ald (e := (.aload_n 0, 258, 0, 0, 0)) rfl (fun _ _ _ => rfl) : mo_Sim 167 257 (ma_lda 0 258)) (mt_none)))
set_option maxRecDepth 100000 in
theorem smt167_93 (k : Nat) : ∀ f, mt167_93 k = some f → mo_Sim 167 k f := mt_node (smt167_94 k) (smt167_95 k)
set_option maxRecDepth 100000 in
theorem smt167_89 (k : Nat) : ∀ f, mt167_89 k = some f → mo_Sim 167 k f := mt_node (smt167_90 k) (smt167_93 k)
set_option maxRecDepth 100000 in
theorem smt167_81 (k : Nat) : ∀ f, mt167_81 k = some f → mo_Sim 167 k f := mt_node (smt167_82 k) (smt167_89 k)
set_option maxRecDepth 100000 in
theorem smt167_65 (k : Nat) : ∀ f, mt167_65 k = some f → mo_Sim 167 k f := mt_node (smt167_66 k) (smt167_81 k)
set_option maxRecDepth 100000 in
theorem smt167_100 (k : Nat) : ∀ f, mt167_100 k = some f → mo_Sim 167 k f := mt_leaf (ms_getf (e := (.getfield 57, 261, 12, 18, 1070)) rfl (fun _ _ _ => rfl) : mo_Sim 167 258 (ma_getf 12 18 261)) (mt_leaf (ms_pushi (e := (.bipush 9, 263, 0, 0, 0)) rfl (fun _ _ _ => rfl) (by decide) : mo_Sim 167 261 (ma_push (ma_ci (.ofNat 9)) 263)) (mt_leaf (ms_ild (e := (.iload 4, 265, 0, 0, 0)) rfl (fun _ _ _ => rfl) : mo_Sim 167 263 (ma_load 0 4 265)) (mt_none)))
set_option maxRecDepth 100000 in
theorem smt167_101 (k : Nat) : ∀ f, mt167_101 k = some f → mo_Sim 167 k f := mt_leaf (ms_i2 (e := (.imul, 266, 0, 0, 0)) rfl (fun _ _ _ => rfl) hf_mul : mo_Sim 167 265 (ma_i2 ma_fmul 265 266)) (mt_leaf (ms_ild (e := (.iload 7, 268, 0, 0, 0)) rfl (fun _ _ _ => rfl) : mo_Sim 167 266 (ma_load 0 7 268)) (mt_leaf (ms_iadd (e := (.iadd, 269, 0, 0, 0)) rfl (fun _ _ _ => rfl) : mo_Sim 167 268 (ma_iadd 268 269)) (mt_none)))
set_option maxRecDepth 100000 in
theorem smt167_99 (k : Nat) : ∀ f, mt167_99 k = some f → mo_Sim 167 k f := mt_node (smt167_100 k) (smt167_101 k)
set_option maxRecDepth 100000 in
theorem smt167_103 (k : Nat) : ∀ f, mt167_103 k = some f → mo_Sim 167 k f := mt_leaf (ms_ild (e := (.iload 6, 271, 0, 0, 0)) rfl (fun _ _ _ => rfl) : mo_Sim 167 269 (ma_load 0 6 271)) (mt_leaf (ms_ald (e := (.aload_n 0, 272, 0, 0, 0)) rfl (fun _ _ _ => rfl) : mo_Sim 167 271 (ma_lda 0 272)) (mt_leaf (ms_getf (e := (.getfield 7, 275, 12, 0, 1052)) rfl (fun _ _ _ => rfl) : mo_Sim 167 272 (ma_getf 12 0 275)) (mt_none)))
set_option maxRecDepth 100000 in
theorem smt167_104 (k : Nat) : ∀ f, mt167_104 k = some f → mo_Sim 167 k f := mt_leaf (ms_id (e := (.irem, 276, 0, 0, 0)) rfl (fun _ _ _ => rfl) hf_rem : mo_Sim 167 275 (ma_i2 ma_frem 275 276)) (mt_leaf (ms_iast (e := (.iastore, 277, 0, 0, 0)) rfl rfl (fun _ _ _ => rfl) : mo_Sim 167 276 (ma_ast 13 0 276 277)) (mt_leaf (ms_ild (e := (.iload 6, 279, 0, 0, 0)) rfl (fun _ _ _ => rfl) : mo_Sim 167 277 (ma_load 0 6 279)) (mt_none)))
set_option maxRecDepth 100000 in
theorem smt167_102 (k : Nat) : ∀ f, mt167_102 k = some f → mo_Sim 167 k f := mt_node (smt167_103 k) (smt167_104 k)
set_option maxRecDepth 100000 in
theorem smt167_98 (k : Nat) : ∀ f, mt167_98 k = some f → mo_Sim 167 k f := mt_node (smt167_99 k) (smt167_102 k)
set_option maxRecDepth 100000 in
theorem smt167_107 (k : Nat) : ∀ f, mt167_107 k = some f → mo_Sim 167 k f := mt_leaf (ms_ald (e := (.aload_n 0, 280, 0, 0, 0)) rfl (fun _ _ _ => rfl) : mo_Sim 167 279 (ma_lda 0 280)) (mt_leaf (ms_getf (e := (.getfield 7, 283, 12, 0, 1052)) rfl (fun _ _ _ => rfl) : mo_Sim 167 280 (ma_getf 12 0 283)) (mt_leaf (ms_id (e := (.idiv, 284, 0, 0, 0)) rfl (fun _ _ _ => rfl) hf_div : mo_Sim 167 283 (ma_i2 ma_fdiv 283 284)) (mt_none)))
set_option maxRecDepth 100000 in
theorem smt167_108 (k : Nat) : ∀ f, mt167_108 k = some f → mo_Sim 167 k f := mt_leaf (ms_ist (e := (.istore 6, 286, 0, 0, 0)) rfl (fun _ _ _ => rfl) : mo_Sim 167 284 (ma_stor 0 6 286)) (mt_leaf (ms_iinc (e := (.iinc 7 1, 289, 0, 0, 0)) rfl (fun _ _ _ => rfl) (by decide) : mo_Sim 167 286 (ma_iinc 7 (.ofNat 1) 286 289)) (mt_leaf (ms_goto (e := (.goto (-38), 292, 251, 0, 0)) rfl (fun _ _ _ => rfl) : mo_Sim 167 289 (ma_goto 251)) (mt_none)))
set_option maxRecDepth 100000 in
theorem smt167_106 (k : Nat) : ∀ f, mt167_106 k = some f → mo_Sim 167 k f := mt_node (smt167_107 k) (smt167_108 k)
set_option maxRecDepth 100000 in
theorem smt167_110 (k : Nat) : ∀ f, mt167_110 k = some f → mo_Sim 167 k f := mt_leaf (ms_ild (e := (.iload 4, 294, 0, 0, 0)) rfl (fun _ _ _ => rfl) : mo_Sim 167 292 (ma_load 0 4 294)) (mt_leaf (ms_pushi (e := (.iconst 1, 295, 0, 0, 0)) rfl (fun _ _ _ => rfl) (by decide) : mo_Sim 167 294 (ma_push (ma_ci (.ofNat 1)) 295)) (mt_leaf (ms_iadd (e := (.iadd, 296, 0, 0, 0)) rfl (fun _ _ _ => rfl) : mo_Sim 167 295 (ma_iadd 295 296)) (mt_none)))
set_option maxRecDepth 100000 in
theorem smt167_111 (k : Nat) : ∀ f, mt167_111 k = some f → mo_Sim 167 k f := mt_leaf (ms_ild (e := (.iload_n 3, 297, 0, 0, 0)) rfl (fun _ _ _ => rfl) : mo_Sim 167 296 (ma_load 0 3 297)) (mt_leaf (ms_if2 (e := (.if_icmp .ge 11, 300, 308, 0, 0)) rfl (fun _ _ _ => rfl) : mo_Sim 167 297 (ma_if2 .ge 308 297 300)) (mt_leaf (ms_ald (e := (.aload_n 0, 301, 0, 0, 0)) rfl (fun _ _ _ => rfl) : mo_Sim 167 300 (ma_lda 0 301)) (mt_none)))
set_option maxRecDepth 100000 in
theorem smt167_109 (k : Nat) : ∀ f, mt167_109 k = some f → mo_Sim 167 k f := mt_node (smt167_110 k) (smt167_111 k)
set_option maxRecDepth 100000 in
theorem smt167_105 (k : Nat) : ∀ f, mt167_105 k = some f → mo_Sim 167 k f := mt_node (smt167_106 k) (smt167_109 k)
set_option maxRecDepth 100000 in
theorem smt167_97 (k : Nat) : ∀ f, mt167_97 k = some f → mo_Sim 167 k f := mt_node (smt167_98 k) (smt167_105 k)
set_option maxRecDepth 100000 in
theorem smt167_115 (k : Nat) : ∀ f, mt167_115 k = some f → mo_Sim 167 k f := mt_leaf (ms_ild (e := (.iload_n 1, 302, 0, 0, 0)) rfl (fun _ _ _ => rfl) : mo_Sim 167 301 (ma_load 0 1 302)) (mt_leaf (ms_ild (e := (.iload_n 2, 303, 0, 0, 0)) rfl (fun _ _ _ => rfl) : mo_Sim 167 302 (ma_load 0 2 303)) (mt_leaf (ms_ild (e := (.iload 4, 305, 0, 0, 0)) rfl (fun _ _ _ => rfl) : mo_Sim 167 303 (ma_load 0 4 305)) (mt_none)))
set_option maxRecDepth 100000 in
theorem smt167_116 (k : Nat) : ∀ f, mt167_116 k = some f → mo_Sim 167 k f := mt_leaf (ms_invV (p := 3) (e := (.invokevirtual 145, 308, 165, 0, 1236)) rfl rfl (fun _ _ _ => rfl) rfl rfl rfl (by decide) : mo_Sim 167 305 (ma_inv 165 4 10 12 308)) (mt_leaf (ms_iinc (e := (.iinc 4 1, 311, 0, 0, 0)) rfl (fun _ _ _ => rfl) (by decide) : mo_Sim 167 308 (ma_iinc 4 (.ofNat 1) 308 311)) (mt_leaf (ms_pushi (e := (.iconst 0, 312, 0, 0, 0)) rfl (fun _ _ _ => rfl) (by decide) : mo_Sim 167 311 (ma_push (ma_ci (.ofNat 0)) 312)) (mt_none)))
set_option maxRecDepth 100000 in
theorem smt167_114 (k : Nat) : ∀ f, mt167_114 k = some f → mo_Sim 167 k f := mt_node (smt167_115 k) (smt167_116 k)
set_option maxRecDepth 100000 in
theorem smt167_118 (k : Nat) : ∀ f, mt167_118 k = some f → mo_Sim 167 k f := mt_leaf (ms_ist (e := (.istore 7, 314, 0, 0, 0)) rfl (fun _ _ _ => rfl) : mo_Sim 167 312 (ma_stor 0 7 314)) (mt_leaf (ms_ild (e := (.iload 7, 316, 0, 0, 0)) rfl (fun _ _ _ => rfl) : mo_Sim 167 314 (ma_load 0 7 316)) (mt_leaf (ms_ild (e := (.iload 4, 318, 0, 0, 0)) rfl (fun _ _ _ => rfl) : mo_Sim 167 316 (ma_load 0 4 318)) (mt_none)))
set_option maxRecDepth 100000 in
theorem smt167_119 (k : Nat) : ∀ f, mt167_119 k = some f → mo_Sim 167 k f := mt_leaf (ms_if2 (e := (.if_icmp .ge 28, 321, 346, 0, 0)) rfl (fun _ _ _ => rfl) : mo_Sim 167 318 (ma_if2 .ge 346 318 321)) (mt_leaf (ms_ald (e := (.aload_n 0, 322, 0, 0, 0)) rfl (fun _ _ _ => rfl) : mo_Sim 167 321 (ma_lda 0 322)) (mt_leaf (ms_getf (e := (.getfield 54, 325, 12, 17, 1069)) rfl (fun _ _ _ => rfl) : mo_Sim 167 322 (ma_getf 12 17 325)) (mt_none)))
set_option maxRecDepth 100000 in
theorem smt167_117 (k : Nat) : ∀ f, mt167_117 k = some f → mo_Sim 167 k f := mt_node (smt167_118 k) (smt167_119 k)
set_option maxRecDepth 100000 in
theorem smt167_113 (k : Nat) : ∀ f, mt167_113 k = some f → mo_Sim 167 k f := mt_node (smt167_114 k) (smt167_117 k)
set_option maxRecDepth 100000 in
theorem smt167_122 (k : Nat) : ∀ f, mt167_122 k = some f → mo_Sim 167 k f := mt_leaf (ms_ald (e := (.aload_n 0, 326, 0, 0, 0)) rfl (fun _ _ _ => rfl) : mo_Sim 167 325 (ma_lda 0 326)) (mt_leaf (ms_getf (e := (.getfield 45, 329, 12, 14, 1066)) rfl (fun _ _ _ => rfl) : mo_Sim 167 326 (ma_getf 12 14 329)) (mt_leaf (ms_pushi (e := (.sipush 256, 332, 0, 0, 0)) rfl (fun _ _ _ => rfl) (by decide) : mo_Sim 167 329 (ma_push (ma_ci (.ofNat 256)) 332)) (mt_none)))
set_option maxRecDepth 100000 in
theorem smt167_123 (k : Nat) : ∀ f, mt167_123 k = some f → mo_Sim 167 k f := mt_leaf (ms_ild (e := (.iload_n 1, 333, 0, 0, 0)) rfl (fun _ _ _ => rfl) : mo_Sim 167 332 (ma_load 0 1 333)) (mt_leaf (ms_i2 (e := (.imul, 334, 0, 0, 0)) rfl (fun _ _ _ => rfl) hf_mul : mo_Sim 167 333 (ma_i2 ma_fmul 333 334)) (mt_leaf (ms_ild (e := (.iload 7, 336, 0, 0, 0)) rfl (fun _ _ _ => rfl) : mo_Sim 167 334 (ma_load 0 7 336)) (mt_none)))
set_option maxRecDepth 100000 in
theorem smt167_121 (k : Nat) : ∀ f, mt167_121 k = some f → mo_Sim 167 k f := mt_node (smt167_122 k) (smt167_123 k)
set_option maxRecDepth 100000 in
theorem smt167_125 (k : Nat) : ∀ f, mt167_125 k = some f → mo_Sim 167 k f := mt_leaf (ms_iadd (e := (.iadd, 337, 0, 0, 0)) rfl (fun _ _ _ => rfl) : mo_Sim 167 336 (ma_iadd 336 337)) (mt_leaf (ms_iald (e := (.iaload, 338, 0, 0, 0)) rfl (fun _ _ _ => rfl) : mo_Sim 167 337 (ma_iald 337 338)) (mt_leaf (ms_pushi (e := (.iconst (-1), 339, 0, 0, 0)) rfl (fun _ _ _ => rfl) (by decide) : mo_Sim 167 338 (ma_push (ma_ci (.negSucc 0)) 339)) (mt_none)))
set_option maxRecDepth 100000 in
theorem smt167_126 (k : Nat) : ∀ f, mt167_126 k = some f → mo_Sim 167 k f := mt_leaf (ms_iast (e := (.iastore, 340, 0, 0, 0)) rfl rfl (fun _ _ _ => rfl) : mo_Sim 167 339 (ma_ast 13 0 339 340)) (mt_leaf (ms_iinc (e := (.iinc 7 1, 343, 0, 0, 0)) rfl (fun _ _ _ => rfl) (by decide) : mo_Sim 167 340 (ma_iinc 7 (.ofNat 1) 340 343)) (mt_leaf (ms_goto (e := (.goto (-29), 346, 314, 0, 0)) rfl (fun _ _ _ => rfl) : mo_Sim 167 343 (ma_goto 314)) (mt_leaf (ms_goto (e := (.goto (-233), 349, 113, 0, 0)) rfl (fun _ _ _ => rfl) : mo_Sim 167 346 (ma_goto 113)) (mt_none))))
set_option maxRecDepth 100000 in
theorem smt167_124 (k : Nat) : ∀ f, mt167_124 k = some f → mo_Sim 167 k f := mt_node (smt167_125 k) (smt167_126 k)
set_option maxRecDepth 100000 in
theorem smt167_120 (k : Nat) : ∀ f, mt167_120 k = some f → mo_Sim 167 k f := mt_node (smt167_121 k) (smt167_124 k)
set_option maxRecDepth 100000 in
theorem smt167_112 (k : Nat) : ∀ f, mt167_112 k = some f → mo_Sim 167 k f := mt_node (smt167_113 k) (smt167_120 k)
set_option maxRecDepth 100000 in
theorem smt167_96 (k : Nat) : ∀ f, mt167_96 k = some f → mo_Sim 167 k f := mt_node (smt167_97 k) (smt167_112 k)
set_option maxRecDepth 100000 in
theorem smt167_64 (k : Nat) : ∀ f, mt167_64 k = some f → mo_Sim 167 k f := mt_node (smt167_65 k) (smt167_96 k)
set_option maxRecDepth 100000 in
theorem smt167_0 (k : Nat) : ∀ f, mt167_0 k = some f → mo_Sim 167 k f := mt_node (smt167_1 k) (smt167_64 k)
set_option maxRecDepth 100000 in
theorem smt168_2 (k : Nat) : ∀ f, mt168_2 k = some f → mo_Sim 168 k f := mt_leaf (ms_ald (e := (.aload_n 0, 1, 0, 0, 0)) rfl (fun _ _ _ => rfl) : mo_Sim 168 0 (ma_lda 0 1)) (mt_leaf (ms_ild (e := (.iload_n 1, 2, 0, 0, 0)) rfl (fun _ _ _ => rfl) : mo_Sim 168 1 (ma_load 0 1 2)) (mt_leaf (ms_invV (p := 1) (e := (.invokevirtual 149, 5, 161, 0, 1212)) rfl rfl (fun _ _ _ => rfl) rfl rfl rfl (by decide) : mo_Sim 168 2 (ma_inv 161 2 2 12 5)) (mt_none)))
set_option maxRecDepth 100000 in
theorem smt168_3 (k : Nat) : ∀ f, mt168_3 k = some f → mo_Sim 168 k f := mt_leaf (ms_if0 (e := (.ifCond .ne 5, 8, 10, 0, 0)) rfl (fun _ _ _ => rfl) : mo_Sim 168 5 (ma_if0 .ne 10 5 8)) (mt_leaf (ms_pushi (e := (.iconst (-1), 9, 0, 0, 0)) rfl (fun _ _ _ => rfl) (by decide) : mo_Sim 168 8 (ma_push (ma_ci (.negSucc 0)) 9)) (mt_leaf (ms_ret (e := (.ireturn, 10, 0, 0, 0)) rfl (Or.inl ⟨rfl, rfl, (fun _ _ _ => rfl)⟩) : mo_Sim 168 9 (ma_ret 0)) (mt_leaf (ms_ald (e := (.aload_n 0, 11, 0, 0, 0)) rfl (fun _ _ _ => rfl) : mo_Sim 168 10 (ma_lda 0 11)) (mt_none))))
set_option maxRecDepth 100000 in
theorem smt168_1 (k : Nat) : ∀ f, mt168_1 k = some f → mo_Sim 168 k f := mt_node (smt168_2 k) (smt168_3 k)
set_option maxRecDepth 100000 in
theorem smt168_5 (k : Nat) : ∀ f, mt168_5 k = some f → mo_Sim 168 k f := mt_leaf (ms_ild (e := (.iload_n 1, 12, 0, 0, 0)) rfl (fun _ _ _ => rfl) : mo_Sim 168 11 (ma_load 0 1 12)) (mt_leaf (ms_invV (p := 1) (e := (.invokevirtual 152, 15, 167, 0, 1216)) rfl rfl (fun _ _ _ => rfl) rfl rfl rfl (by decide) : mo_Sim 168 12 (ma_inv 167 2 8 12 15)) (mt_leaf (ms_ald (e := (.aload_n 0, 16, 0, 0, 0)) rfl (fun _ _ _ => rfl) : mo_Sim 168 15 (ma_lda 0 16)) (mt_none)))
set_option maxRecDepth 100000 in
theorem smt168_6 (k : Nat) : ∀ f, mt168_6 k = some f → mo_Sim 168 k f := mt_leaf (ms_getf (e := (.getfield 51, 19, 12, 16, 1068)) rfl (fun _ _ _ => rfl) : mo_Sim 168 16 (ma_getf 12 16 19)) (mt_leaf (ms_ild (e := (.iload_n 1, 20, 0, 0, 0)) rfl (fun _ _ _ => rfl) : mo_Sim 168 19 (ma_load 0 1 20)) (mt_leaf (ms_iald (e := (.iaload, 21, 0, 0, 0)) rfl (fun _ _ _ => rfl) : mo_Sim 168 20 (ma_iald 20 21)) (mt_leaf (ms_ret (e := (.ireturn, 22, 0, 0, 0)) rfl (Or.inl ⟨rfl, rfl, (fun _ _ _ => rfl)⟩) : mo_Sim 168 21 (ma_ret 0)) (mt_none))))
set_option maxRecDepth 100000 in
theorem smt168_4 (k : Nat) : ∀ f, mt168_4 k = some f → mo_Sim 168 k f := mt_node (smt168_5 k) (smt168_6 k)
set_option maxRecDepth 100000 in
theorem smt168_0 (k : Nat) : ∀ f, mt168_0 k = some f → mo_Sim 168 k f := mt_node (smt168_1 k) (smt168_4 k)
set_option maxRecDepth 100000 in
theorem smt169_4 (k : Nat) : ∀ f, mt169_4 k = some f → mo_Sim 169 k f := mt_leaf (ms_ald (e := (.aload_n 0, 1, 0, 0, 0)) rfl (fun _ _ _ => rfl) : mo_Sim 169 0 (ma_lda 0 1)) (mt_leaf (ms_ild (e := (.iload_n 1, 2, 0, 0, 0)) rfl (fun _ _ _ => rfl) : mo_Sim 169 1 (ma_load 0 1 2)) (mt_none))
set_option maxRecDepth 100000 in
theorem smt169_5 (k : Nat) : ∀ f, mt169_5 k = some f → mo_Sim 169 k f := mt_leaf (ms_invV (p := 1) (e := (.invokevirtual 149, 5, 161, 0, 1212)) rfl rfl (fun _ _ _ => rfl) rfl rfl rfl (by decide) : mo_Sim 169 2 (ma_inv 161 2 2 12 5)) (mt_leaf (ms_if0 (e := (.ifCond .ne 5, 8, 10, 0, 0)) rfl (fun _ _ _ => rfl) : mo_Sim 169 5 (ma_if0 .ne 10 5 8)) (mt_leaf (ms_pushi (e := (.iconst (-1), 9, 0, 0, 0)) rfl (fun _ _ _ => rfl) (by decide) : mo_Sim 169 8 (ma_push (ma_ci (.negSucc 0)) 9)) (mt_none)))
set_option maxRecDepth 100000 in
theorem smt169_3 (k : Nat) : ∀ f, mt169_3 k = some f → mo_Sim 169 k f := mt_node (smt169_4 k) (smt169_5 k)
set_option maxRecDepth 100000 in
theorem smt169_7 (k : Nat) : ∀ f, mt169_7 k = some f → mo_Sim 169 k f := mt_leaf (ms_ret (e := (.ireturn, 10, 0, 0, 0)) rfl (Or.inl ⟨rfl, rfl, (fun _ _ _ => rfl)⟩) : mo_Sim 169 9 (ma_ret 0)) (mt_leaf (ms_ald (e := (.aload_n 0, 11, 0, 0, 0)) rfl (fun _ _ _ => rfl) : mo_Sim 169 10 (ma_lda 0 11)) (mt_none))
set_option maxRecDepth 100000 in
theorem smt169_8 (k : Nat) : ∀ f, mt169_8 k = some f → mo_Sim 169 k f := mt_leaf (ms_ild (e := (.iload_n 1, 12, 0, 0, 0)) rfl (fun _ _ _ => rfl) : mo_Sim 169 11 (ma_load 0 1 12)) (mt_leaf (ms_invV (p := 1) (e := (.invokevirtual 152, 15, 167, 0, 1216)) rfl rfl (fun _ _ _ => rfl) rfl rfl rfl (by decide) : mo_Sim 169 12 (ma_inv 167 2 8 12 15)) (mt_leaf (ms_ild (e := (.iload_n 2, 16, 0, 0, 0)) rfl (fun _ _ _ => rfl) : mo_Sim 169 15 (ma_load 0 2 16)) (mt_none)))
set_option maxRecDepth 100000 in
theorem smt169_6 (k : Nat) : ∀ f, mt169_6 k = some f → mo_Sim 169 k f := mt_node (smt169_7 k) (smt169_8 k)
set_option maxRecDepth 100000 in
theorem smt169_2 (k : Nat) : ∀ f, mt169_2 k = some f → mo_Sim 169 k f := mt_node (smt169_3 k) (smt169_6 k)
set_option maxRecDepth 100000 in
theorem smt169_11 (k : Nat) : ∀ f, mt169_11 k = some f → mo_Sim 169 k f := mt_leaf (ms_if0 (e := (.ifCond .lt 13, 19, 29, 0, 0)) rfl (fun _ _ _ => rfl) : mo_Sim 169 16 (ma_if0 .lt 29 16 19)) (mt_leaf (ms_ild (e := (.iload_n 2, 20, 0, 0, 0)) rfl (fun _ _ _ => rfl) : mo_Sim 169 19 (ma_load 0 2 20)) (mt_none))
set_option maxRecDepth 100000 in
theorem smt169_12 (k : Nat) : ∀ f, mt169_12 k = some f → mo_Sim 169 k f := mt_leaf (ms_ald (e := (.aload_n 0, 21, 0, 0, 0)) rfl (fun _ _ _ => rfl) : mo_Sim 169 20 (ma_lda 0 21)) (mt_leaf (ms_getf (e := (.getfield 51, 24, 12, 16, 1068)) rfl (fun _ _ _ => rfl) : mo_Sim 169 21 (ma_getf 12 16 24)) (mt_leaf (ms_ild (e := (.iload_n 1, 25, 0, 0, 0)) rfl (fun _ _ _ => rfl) : mo_Sim 169 24 (ma_load 0 1 25)) (mt_none)))
set_option maxRecDepth 100000 in
theorem smt169_10 (k : Nat) : ∀ f, mt169_10 k = some f → mo_Sim 169 k f := mt_node (smt169_11 k) (smt169_12 k)
set_option maxRecDepth 100000 in
theorem smt169_14 (k : Nat) : ∀ f, mt169_14 k = some f → mo_Sim 169 k f := mt_leaf (ms_iald (e := (.iaload, 26, 0, 0, 0)) rfl (fun _ _ _ => rfl) : mo_Sim 169 25 (ma_iald 25 26)) (mt_leaf (ms_if2 (e := (.if_icmp .lt 5, 29, 31, 0, 0)) rfl (fun _ _ _ => rfl) : mo_Sim 169 26 (ma_if2 .lt 31 26 29)) (mt_none))
set_option maxRecDepth 100000 in
theorem smt169_15 (k : Nat) : ∀ f, mt169_15 k = some f → mo_Sim 169 k f := mt_leaf (ms_pushi (e := (.iconst (-1), 30, 0, 0, 0)) rfl (fun _ _ _ => rfl) (by decide) : mo_Sim 169 29 (ma_push (ma_ci (.negSucc 0)) 30)) (mt_leaf (ms_ret (e := (.ireturn, 31, 0, 0, 0)) rfl (Or.inl ⟨rfl, rfl, (fun _ _ _ => rfl)⟩) : mo_Sim 169 30 (ma_ret 0)) (mt_leaf (ms_ild (e := (.iload_n 3, 32, 0, 0, 0)) rfl (fun _ _ _ => rfl) : mo_Sim 169 31 (ma_load 0 3 32)) (mt_none)))
set_option maxRecDepth 100000 in
theorem smt169_13 (k : Nat) : ∀ f, mt169_13 k = some f → mo_Sim 169 k f := mt_node (smt169_14 k) (smt169_15 k)
set_option maxRecDepth 100000 in
theorem smt169_9 (k : Nat) : ∀ f, mt169_9 k = some f → mo_Sim 169 k f := mt_node (smt169_10 k) (smt169_13 k)
set_option maxRecDepth 100000 in
theorem smt169_1 (k : Nat) : ∀ f, mt169_1 k = some f → mo_Sim 169 k f := mt_node (smt169_2 k) (smt169_9 k)
set_option maxRecDepth 100000 in
theorem smt169_19 (k : Nat) : ∀ f, mt169_19 k = some f → mo_Sim 169 k f := mt_leaf (ms_if0 (e := (.ifCond .ne 18, 35, 50, 0, 0)) rfl (fun _ _ _ => rfl) : mo_Sim 169 32 (ma_if0 .ne 50 32 35)) (mt_leaf (ms_ald (e := (.aload_n 0, 36, 0, 0, 0)) rfl (fun _ _ _ => rfl) : mo_Sim 169 35 (ma_lda 0 36)) (mt_none))
set_option maxRecDepth 100000 in
theorem smt169_20 (k : Nat) : ∀ f, mt169_20 k = some f → mo_Sim 169 k f := mt_leaf (ms_getf (e := (.getfield 45, 39, 12, 14, 1066)) rfl (fun _ _ _ => rfl) : mo_Sim 169 36 (ma_getf 12 14 39)) (mt_leaf (ms_pushi (e := (.sipush 256, 42, 0, 0, 0)) rfl (fun _ _ _ => rfl) (by decide) : mo_Sim 169 39 (ma_push (ma_ci (.ofNat 256)) 42)) (mt_leaf (ms_ild (e := (.iload_n 1, 43, 0, 0, 0)) rfl (fun _ _ _ => rfl) : mo_Sim 169 42 (ma_load 0 1 43)) (mt_none)))
set_option maxRecDepth 100000 in
theorem smt169_18 (k : Nat) : ∀ f, mt169_18 k = some f → mo_Sim 169 k f := mt_node (smt169_19 k) (smt169_20 k)
set_option maxRecDepth 100000 in
theorem smt169_22 (k : Nat) : ∀ f, mt169_22 k = some f → mo_Sim 169 k f := mt_leaf (ms_i2 (e := (.imul, 44, 0, 0, 0)) rfl (fun _ _ _ => rfl) hf_mul : mo_Sim 169 43 (ma_i2 ma_fmul 43 44)) (mt_leaf (ms_ild (e := (.iload_n 2, 45, 0, 0, 0)) rfl (fun _ _ _ => rfl) : mo_Sim 169 44 (ma_load 0 2 45)) (mt_none))
set_option maxRecDepth 100000 in
theorem smt169_23 (k : Nat) : ∀ f, mt169_23 k = some f → mo_Sim 169 k f := mt_leaf (ms_iadd (e := (.iadd, 46, 0, 0, 0)) rfl (fun _ _ _ => rfl) : mo_Sim 169 45 (ma_iadd 45 46)) (mt_leaf (ms_iald (e := (.iaload, 47, 0, 0, 0)) rfl (fun _ _ _ => rfl) : mo_Sim 169 46 (ma_iald 46 47)) (mt_leaf (ms_goto (e := (.goto 18, 50, 65, 0, 0)) rfl (fun _ _ _ => rfl) : mo_Sim 169 47 (ma_goto 65)) (mt_none)))
set_option maxRecDepth 100000 in
theorem smt169_21 (k : Nat) : ∀ f, mt169_21 k = some f → mo_Sim 169 k f := mt_node (smt169_22 k) (smt169_23 k)
set_option maxRecDepth 100000 in
theorem smt169_17 (k : Nat) : ∀ f, mt169_17 k = some f → mo_Sim 169 k f := mt_node (smt169_18 k) (smt169_21 k)
set_option maxRecDepth 100000 in
theorem smt169_26 (k : Nat) : ∀ f, mt169_26 k = some f → mo_Sim 169 k f := mt_leaf (ms_ild (e := (.iload_n 3, 51, 0, 0, 0)) rfl (fun _ _ _ => rfl) : mo_Sim 169 50 (ma_load 0 3 51)) (mt_leaf (ms_pushi (e := (.iconst 1, 52, 0, 0, 0)) rfl (fun _ _ _ => rfl) (by decide) : mo_Sim 169 51 (ma_push (ma_ci (.ofNat 1)) 52)) (mt_none))
set_option maxRecDepth 100000 in
theorem smt169_27 (k : Nat) : ∀ f, mt169_27 k = some f → mo_Sim 169 k f := mt_leaf (ms_if2 (e := (.if_icmp .ne 12, 55, 64, 0, 0)) rfl (fun _ _ _ => rfl) : mo_Sim 169 52 (ma_if2 .ne 64 52 55)) (mt_leaf (ms_ald (e := (.aload_n 0, 56, 0, 0, 0)) rfl (fun _ _ _ => rfl) : mo_Sim 169 55 (ma_lda 0 56)) (mt_leaf (ms_ild (e := (.iload_n 1, 57, 0, 0, 0)) rfl (fun _ _ _ => rfl) : mo_Sim 169 56 (ma_load 0 1 57)) (mt_none)))
set_option maxRecDepth 100000 in
theorem smt169_25 (k : Nat) : ∀ f, mt169_25 k = some f → mo_Sim 169 k f := mt_node (smt169_26 k) (smt169_27 k)
set_option maxRecDepth 100000 in
theorem smt169_29 (k : Nat) : ∀ f, mt169_29 k = some f → mo_Sim 169 k f := mt_leaf (ms_ild (e := (.iload_n 2, 58, 0, 0, 0)) rfl (fun _ _ _ => rfl) : mo_Sim 169 57 (ma_load 0 2 58)) (mt_leaf (ms_invV (p := 2) (e := (.invokevirtual 120, 61, 164, 0, 1232)) rfl rfl (fun _ _ _ => rfl) rfl rfl rfl (by decide) : mo_Sim 169 58 (ma_inv 164 3 3 12 61)) (mt_none))
set_option maxRecDepth 100000 in
theorem smt169_30 (k : Nat) : ∀ f, mt169_30 k = some f → mo_Sim 169 k f := mt_leaf (ms_goto (e := (.goto 4, 64, 65, 0, 0)) rfl (fun _ _ _ => rfl) : mo_Sim 169 61 (ma_goto 65)) (mt_leaf (ms_pushi (e := (.iconst (-1), 65, 0, 0, 0)) rfl (fun _ _ _ => rfl) (by decide) : mo_Sim 169 64 (ma_push (ma_ci (.negSucc 0)) 65)) (mt_leaf (ms_ret (e := (.ireturn, 66, 0, 0, 0)) rfl (Or.inl ⟨rfl, rfl, (fun _ _ _ => rfl)⟩) : mo_Sim 169 65 (ma_ret 0)) (mt_none)))
set_option maxRecDepth 100000 in
theorem smt169_28 (k : Nat) : ∀ f, mt169_28 k = some f → mo_Sim 169 k f := mt_node (smt169_29 k) (smt169_30 k)
set_option maxRecDepth 100000 in
theorem smt169_24 (k : Nat) : ∀ f, mt169_24 k = some f → mo_Sim 169 k f := mt_node (smt169_25 k) (smt169_28 k)
set_option maxRecDepth 100000 in
theorem smt169_16 (k : Nat) : ∀ f, mt169_16 k = some f → mo_Sim 169 k f := mt_node (smt169_17 k) (smt169_24 k)
set_option maxRecDepth 100000 in
theorem smt169_0 (k : Nat) : ∀ f, mt169_0 k = some f → mo_Sim 169 k f := mt_node (smt169_1 k) (smt169_16 k)
