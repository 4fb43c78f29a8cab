set_option maxRecDepth 100000 in
theorem smt13_2 (k : Nat) : ∀ f, mt13_2 k = some f → mo_Sim 13 k f := mt_leaf (ms_ild (e := (.iload_n 1, 1, 0, 0, 0)) rfl (fun _ _ _ => rfl) : mo_Sim 13 0 (ma_load 0 1 1)) (mt_leaf (ms_pushi (e := (.iconst 1, 2, 0, 0, 0)) rfl (fun _ _ _ => rfl) (by decide) : mo_Sim 13 1 (ma_push (ma_ci (.ofNat 1)) 2)) (mt_leaf (ms_if2 (e := (.if_icmp .lt 24, 5, 26, 0, 0)) rfl (fun _ _ _ => rfl) : mo_Sim 13 2 (ma_if2 .lt 26 2 5)) (mt_leaf (ms_ild (e := (.iload_n 1, 6, 0, 0, 0)) rfl (fun _ _ _ => rfl) : mo_Sim 13 5 (ma_load 0 1 6)) (mt_none))))
set_option maxRecDepth 100000 in
theorem smt13_3 (k : Nat) : ∀ f, mt13_3 k = some f → mo_Sim 13 k f := mt_leaf (ms_ald (e := (.aload_n 0, 7, 0, 0, 0)) rfl (fun _ _ _ => rfl) : mo_Sim 13 6 (ma_lda 0 7)) (mt_leaf (ms_getf (e := (.getfield 9, 10, 1, 0, 107)) rfl (fun _ _ _ => rfl) : mo_Sim 13 7 (ma_getf 1 0 10)) (mt_leaf (ms_pushi (e := (.iconst 2, 11, 0, 0, 0)) rfl (fun _ _ _ => rfl) (by decide) : mo_Sim 13 10 (ma_push (ma_ci (.ofNat 2)) 11)) (mt_leaf (ms_if2 (e := (.if_icmp .ne 7, 14, 18, 0, 0)) rfl (fun _ _ _ => rfl) : mo_Sim 13 11 (ma_if2 .ne 18 11 14)) (mt_none))))
set_option maxRecDepth 100000 in
theorem smt13_1 (k : Nat) : ∀ f, mt13_1 k = some f → mo_Sim 13 k f := mt_node (smt13_2 k) (smt13_3 k)
set_option maxRecDepth 100000 in
theorem smt13_5 (k : Nat) : ∀ f, mt13_5 k = some f → mo_Sim 13 k f := mt_leaf (ms_pushi (e := (.iconst 3, 15, 0, 0, 0)) rfl (fun _ _ _ => rfl) (by decide) : mo_Sim 13 14 (ma_push (ma_ci (.ofNat 3)) 15)) (mt_leaf (ms_goto (e := (.goto 4, 18, 19, 0, 0)) rfl (fun _ _ _ => rfl) : mo_Sim 13 15 (ma_goto 19)) (mt_leaf (ms_pushi (e := (.iconst 2, 19, 0, 0, 0)) rfl (fun _ _ _ => rfl) (by decide) : mo_Sim 13 18 (ma_push (ma_ci (.ofNat 2)) 19)) (mt_leaf (ms_if2 (e := (.if_icmp .gt 7, 22, 26, 0, 0)) rfl (fun _ _ _ => rfl) : mo_Sim 13 19 (ma_if2 .gt 26 19 22)) (mt_none))))
set_option maxRecDepth 100000 in
theorem smt13_6 (k : Nat) : ∀ f, mt13_6 k = some f → mo_Sim 13 k f := mt_leaf (ms_pushi (e := (.iconst 1, 23, 0, 0, 0)) rfl (fun _ _ _ => rfl) (by decide) : mo_Sim 13 22 (ma_push (ma_ci (.ofNat 1)) 23)) (mt_leaf (ms_goto (e := (.goto 4, 26, 27, 0, 0)) rfl (fun _ _ _ => rfl) : mo_Sim 13 23 (ma_goto 27)) (mt_leaf (ms_pushi (e := (.iconst 0, 27, 0, 0, 0)) rfl (fun _ _ _ => rfl) (by decide) : mo_Sim 13 26 (ma_push (ma_ci (.ofNat 0)) 27)) (mt_leaf (ms_ret (e := (.ireturn, 28, 0, 0, 0)) rfl (Or.inr (Or.inl ⟨rfl, rfl, (fun _ _ _ => rfl)⟩)) : mo_Sim 13 27 (ma_ret 1)) (mt_none))))
set_option maxRecDepth 100000 in
theorem smt13_4 (k : Nat) : ∀ f, mt13_4 k = some f → mo_Sim 13 k f := mt_node (smt13_5 k) (smt13_6 k)
set_option maxRecDepth 100000 in
theorem smt13_0 (k : Nat) : ∀ f, mt13_0 k = some f → mo_Sim 13 k f := mt_node (smt13_1 k) (smt13_4 k)
set_option maxRecDepth 100000 in
theorem smt14_1 (k : Nat) : ∀ f, mt14_1 k = some f → mo_Sim 14 k f := mt_leaf (ms_ald (e := (.aload_n 0, 1, 0, 0, 0)) rfl (fun _ _ _ => rfl) : mo_Sim 14 0 (ma_lda 0 1)) (mt_leaf (ms_ald (e := (.aload_n 0, 2, 0, 0, 0)) rfl (fun _ _ _ => rfl) : mo_Sim 14 1 (ma_lda 0 2)) (mt_leaf (ms_ild (e := (.iload_n 1, 3, 0, 0, 0)) rfl (fun _ _ _ => rfl) : mo_Sim 14 2 (ma_load 0 1 3)) (mt_none)))
set_option maxRecDepth 100000 in
theorem smt14_2 (k : Nat) : ∀ f, mt14_2 k = some f → mo_Sim 14 k f := mt_leaf (ms_invV (p := 1) (e := (.invokevirtual 28, 6, 12, 0, 717)) rfl rfl (fun _ _ _ => rfl) rfl rfl rfl (by decide) : mo_Sim 14 3 (ma_inv 12 2 4 1 6)) (mt_leaf (ms_invV (p := 1) (e := (.invokevirtual 28, 9, 12, 0, 717)) rfl rfl (fun _ _ _ => rfl) rfl rfl rfl (by decide) : mo_Sim 14 6 (ma_inv 12 2 4 1 9)) (mt_leaf (ms_ret (e := (.ireturn, 10, 0, 0, 0)) rfl (Or.inl ⟨rfl, rfl, (fun _ _ _ => rfl)⟩) : mo_Sim 14 9 (ma_ret 0)) (mt_none)))
set_option maxRecDepth 100000 in
theorem smt14_0 (k : Nat) : ∀ f, mt14_0 k = some f → mo_Sim 14 k f := mt_node (smt14_1 k) (smt14_2 k)
set_option maxRecDepth 100000 in
theorem smt15_1 (k : Nat) : ∀ f, mt15_1 k = some f → mo_Sim 15 k f := mt_leaf (ms_pushi (e := (.iconst 1, 1, 0, 0, 0)) rfl (fun _ _ _ => rfl) (by decide) : mo_Sim 15 0 (ma_push (ma_ci (.ofNat 1)) 1)) (mt_leaf (ms_ald (e := (.aload_n 0, 2, 0, 0, 0)) rfl (fun _ _ _ => rfl) : mo_Sim 15 1 (ma_lda 0 2)) (mt_leaf (ms_getf (e := (.getfield 9, 5, 1, 0, 107)) rfl (fun _ _ _ => rfl) : mo_Sim 15 2 (ma_getf 1 0 5)) (mt_none)))
set_option maxRecDepth 100000 in
theorem smt15_2 (k : Nat) : ∀ f, mt15_2 k = some f → mo_Sim 15 k f := mt_leaf (ms_i2 (e := (.ishl, 6, 0, 0, 0)) rfl (fun _ _ _ => rfl) hf_shl : mo_Sim 15 5 (ma_i2 ma_fshl 5 6)) (mt_leaf (ms_pushi (e := (.iconst 1, 7, 0, 0, 0)) rfl (fun _ _ _ => rfl) (by decide) : mo_Sim 15 6 (ma_push (ma_ci (.ofNat 1)) 7)) (mt_leaf (ms_isub (e := (.isub, 8, 0, 0, 0)) rfl (fun _ _ _ => rfl) : mo_Sim 15 7 (ma_isub 7 8)) (mt_leaf (ms_ret (e := (.ireturn, 9, 0, 0, 0)) rfl (Or.inl ⟨rfl, rfl, (fun _ _ _ => rfl)⟩) : mo_Sim 15 8 (ma_ret 0)) (mt_none))))
set_option maxRecDepth 100000 in
theorem smt15_0 (k : Nat) : ∀ f, mt15_0 k = some f → mo_Sim 15 k f := mt_node (smt15_1 k) (smt15_2 k)
set_option maxRecDepth 100000 in
theorem smt16_3 (k : Nat) : ∀ f, mt16_3 k = some f → mo_Sim 16 k f := mt_leaf (ms_pushi (e := (.iconst 1, 1, 0, 0, 0)) rfl (fun _ _ _ => rfl) (by decide) : mo_Sim 16 0 (ma_push (ma_ci (.ofNat 1)) 1)) (mt_leaf (ms_ald (e := (.aload_n 0, 2, 0, 0, 0)) rfl (fun _ _ _ => rfl) : mo_Sim 16 1 (ma_lda 0 2)) (mt_leaf (ms_getf (e := (.getfield 25, 5, 1, 4, 130)) rfl (fun _ _ _ => rfl) : mo_Sim 16 2 (ma_getf 1 4 5)) (mt_leaf (ms_ild (e := (.iload_n 1, 6, 0, 0, 0)) rfl (fun _ _ _ => rfl) : mo_Sim 16 5 (ma_load 0 1 6)) (mt_none))))
set_option maxRecDepth 100000 in
theorem smt16_4 (k : Nat) : ∀ f, mt16_4 k = some f → mo_Sim 16 k f := mt_leaf (ms_iald (e := (.iaload, 7, 0, 0, 0)) rfl (fun _ _ _ => rfl) : mo_Sim 16 6 (ma_iald 6 7)) (mt_leaf (ms_i2 (e := (.ishl, 8, 0, 0, 0)) rfl (fun _ _ _ => rfl) hf_shl : mo_Sim 16 7 (ma_i2 ma_fshl 7 8)) (mt_leaf (ms_ist (e := (.istore_n 3, 9, 0, 0, 0)) rfl (fun _ _ _ => rfl) : mo_Sim 16 8 (ma_stor 0 3 9)) (mt_leaf (ms_ild (e := (.iload_n 2, 10, 0, 0, 0)) rfl (fun _ _ _ => rfl) : mo_Sim 16 9 (ma_load 0 2 10)) (mt_none))))
set_option maxRecDepth 100000 in
theorem smt16_2 (k : Nat) : ∀ f, mt16_2 k = some f → mo_Sim 16 k f := mt_node (smt16_3 k) (smt16_4 k)
set_option maxRecDepth 100000 in
theorem smt16_6 (k : Nat) : ∀ f, mt16_6 k = some f → mo_Sim 16 k f := mt_leaf (ms_pushi (e := (.iconst 1, 11, 0, 0, 0)) rfl (fun _ _ _ => rfl) (by decide) : mo_Sim 16 10 (ma_push (ma_ci (.ofNat 1)) 11)) (mt_leaf (ms_if2 (e := (.if_icmp .le 14, 14, 25, 0, 0)) rfl (fun _ _ _ => rfl) : mo_Sim 16 11 (ma_if2 .le 25 11 14)) (mt_leaf (ms_ild (e := (.iload_n 3, 15, 0, 0, 0)) rfl (fun _ _ _ => rfl) : mo_Sim 16 14 (ma_load 0 3 15)) (mt_leaf (ms_pushi (e := (.iconst 1, 16, 0, 0, 0)) rfl (fun _ _ _ => rfl) (by decide) : mo_Sim 16 15 (ma_push (ma_ci (.ofNat 1)) 16)) (mt_none))))
set_option maxRecDepth 100000 in
theorem smt16_7 (k : Nat) : ∀ f, mt16_7 k = some f → mo_Sim 16 k f := mt_leaf (ms_ald (e := (.aload_n 0, 17, 0, 0, 0)) rfl (fun _ _ _ => rfl) : mo_Sim 16 16 (ma_lda 0 17)) (mt_leaf (ms_getf (e := (.getfield 22, 20, 1, 3, 123)) rfl (fun _ _ _ => rfl) : mo_Sim 16 17 (ma_getf 1 3 20)) (mt_leaf (ms_ild (e := (.iload_n 1, 21, 0, 0, 0)) rfl (fun _ _ _ => rfl) : mo_Sim 16 20 (ma_load 0 1 21)) (mt_leaf (ms_iald (e := (.iaload, 22, 0, 0, 0)) rfl (fun _ _ _ => rfl) : mo_Sim 16 21 (ma_iald 21 22)) (mt_none))))
set_option maxRecDepth 100000 in
theorem smt16_5 (k : Nat) : ∀ f, mt16_5 k = some f → mo_Sim 16 k f := mt_node (smt16_6 k) (smt16_7 k)
set_option maxRecDepth 100000 in
theorem smt16_1 (k : Nat) : ∀ f, mt16_1 k = some f → mo_Sim 16 k f := mt_node (smt16_2 k) (smt16_5 k)
set_option maxRecDepth 100000 in
theorem smt16_10 (k : Nat) : ∀ f, mt16_10 k = some f → mo_Sim 16 k f := mt_leaf (ms_i2 (e := (.ishl, 23, 0, 0, 0)) rfl (fun _ _ _ => rfl) hf_shl : mo_Sim 16 22 (ma_i2 ma_fshl 22 23)) (mt_leaf (ms_i2 (e := (.ior, 24, 0, 0, 0)) rfl (fun _ _ _ => rfl) hf_or : mo_Sim 16 23 (ma_i2 ma_for 23 24)) (mt_leaf (ms_ist (e := (.istore_n 3, 25, 0, 0, 0)) rfl (fun _ _ _ => rfl) : mo_Sim 16 24 (ma_stor 0 3 25)) (mt_leaf (ms_ild (e := (.iload_n 2, 26, 0, 0, 0)) rfl (fun _ _ _ => rfl) : mo_Sim 16 25 (ma_load 0 2 26)) (mt_none))))
set_option maxRecDepth 100000 in
theorem smt16_11 (k : Nat) : ∀ f, mt16_11 k = some f → mo_Sim 16 k f := mt_leaf (ms_pushi (e := (.iconst 2, 27, 0, 0, 0)) rfl (fun _ _ _ => rfl) (by decide) : mo_Sim 16 26 (ma_push (ma_ci (.ofNat 2)) 27)) (mt_leaf (ms_if2 (e := (.if_icmp .le 14, 30, 41, 0, 0)) rfl (fun _ _ _ => rfl) : mo_Sim 16 27 (ma_if2 .le 41 27 30)) (mt_leaf (ms_ild (e := (.iload_n 3, 31, 0, 0, 0)) rfl (fun _ _ _ => rfl) : mo_Sim 16 30 (ma_load 0 3 31)) (mt_leaf (ms_pushi (e := (.iconst 1, 32, 0, 0, 0)) rfl (fun _ _ _ => rfl) (by decide) : mo_Sim 16 31 (ma_push (ma_ci (.ofNat 1)) 32)) (mt_none))))
set_option maxRecDepth 100000 in
theorem smt16_9 (k : Nat) : ∀ f, mt16_9 k = some f → mo_Sim 16 k f := mt_node (smt16_10 k) (smt16_11 k)
set_option maxRecDepth 100000 in
theorem smt16_13 (k : Nat) : ∀ f, mt16_13 k = some f → mo_Sim 16 k f := mt_leaf (ms_ald (e := (.aload_n 0, 33, 0, 0, 0)) rfl (fun _ _ _ => rfl) : mo_Sim 16 32 (ma_lda 0 33)) (mt_leaf (ms_getf (e := (.getfield 18, 36, 1, 2, 116)) rfl (fun _ _ _ => rfl) : mo_Sim 16 33 (ma_getf 1 2 36)) (mt_leaf (ms_ild (e := (.iload_n 1, 37, 0, 0, 0)) rfl (fun _ _ _ => rfl) : mo_Sim 16 36 (ma_load 0 1 37)) (mt_leaf (ms_iald (e := (.iaload, 38, 0, 0, 0)) rfl (fun _ _ _ => rfl) : mo_Sim 16 37 (ma_iald 37 38)) (mt_none))))
set_option maxRecDepth 100000 in
theorem smt16_15 (k : Nat) : ∀ f, mt16_15 k = some f → mo_Sim 16 k f := mt_leaf (ms_i2 (e := (.ishl, 39, 0, 0, 0)) rfl (fun _ _ _ => rfl) hf_shl : mo_Sim 16 38 (ma_i2 ma_fshl 38 39)) (mt_leaf (ms_i2 (e := (.ior, 40, 0, 0, 0)) rfl (fun _ _ _ => rfl) hf_or : mo_Sim 16 39 (ma_i2 ma_for 39 40)) (mt_none))
set_option maxRecDepth 100000 in
theorem smt16_16 (k : Nat) : ∀ f, mt16_16 k = some f → mo_Sim 16 k f := mt_leaf (ms_ist (e := (.istore_n 3, 41, 0, 0, 0)) rfl (fun _ _ _ => rfl) : mo_Sim 16 40 (ma_stor 0 3 41)) (mt_leaf (ms_ild (e := (.iload_n 3, 42, 0, 0, 0)) rfl (fun _ _ _ => rfl) : mo_Sim 16 41 (ma_load 0 3 42)) (mt_leaf (ms_ret (e := (.ireturn, 43, 0, 0, 0)) rfl (Or.inl ⟨rfl, rfl, (fun _ _ _ => rfl)⟩) : mo_Sim 16 42 (ma_ret 0)) (mt_none)))
set_option maxRecDepth 100000 in
theorem smt16_14 (k : Nat) : ∀ f, mt16_14 k = some f → mo_Sim 16 k f := mt_node (smt16_15 k) (smt16_16 k)
set_option maxRecDepth 100000 in
theorem smt16_12 (k : Nat) : ∀ f, mt16_12 k = some f → mo_Sim 16 k f := mt_node (smt16_13 k) (smt16_14 k)
set_option maxRecDepth 100000 in
theorem smt16_8 (k : Nat) : ∀ f, mt16_8 k = some f → mo_Sim 16 k f := mt_node (smt16_9 k) (smt16_12 k)
set_option maxRecDepth 100000 in
theorem smt16_0 (k : Nat) : ∀ f, mt16_0 k = some f → mo_Sim 16 k f := mt_node (smt16_1 k) (smt16_8 k)
set_option maxRecDepth 100000 in
theorem smt17_3 (k : Nat) : ∀ f, mt17_3 k = some f → mo_Sim 17 k f := mt_leaf (ms_ild (e := (.iload_n 1, 1, 0, 0, 0)) rfl (fun _ _ _ => rfl) : mo_Sim 17 0 (ma_load 0 1 1)) (mt_leaf (ms_ist (e := (.istore_n 3, 2, 0, 0, 0)) rfl (fun _ _ _ => rfl) : mo_Sim 17 1 (ma_stor 0 3 2)) (mt_none))
set_option maxRecDepth 100000 in
theorem smt17_4 (k : Nat) : ∀ f, mt17_4 k = some f → mo_Sim 17 k f := mt_leaf (ms_ild (e := (.iload_n 2, 3, 0, 0, 0)) rfl (fun _ _ _ => rfl) : mo_Sim 17 2 (ma_load 0 2 3)) (mt_leaf (ms_ist (e := (.istore 4, 5, 0, 0, 0)) rfl (fun _ _ _ => rfl) : mo_Sim 17 3 (ma_stor 0 4 5)) (mt_leaf (ms_ild (e := (.iload 4, 7, 0, 0, 0)) rfl (fun _ _ _ => rfl) : mo_Sim 17 5 (ma_load 0 4 7)) (mt_none)))
set_option maxRecDepth 100000 in
theorem smt17_2 (k : Nat) : ∀ f, mt17_2 k = some f → mo_Sim 17 k f := mt_node (smt17_3 k) (smt17_4 k)
set_option maxRecDepth 100000 in
theorem smt17_6 (k : Nat) : ∀ f, mt17_6 k = some f → mo_Sim 17 k f := mt_leaf (ms_pushi (e := (.iconst 3, 8, 0, 0, 0)) rfl (fun _ _ _ => rfl) (by decide) : mo_Sim 17 7 (ma_push (ma_ci (.ofNat 3)) 8)) (mt_leaf (ms_if2 (e := (.if_icmp .ge 23, 11, 31, 0, 0)) rfl (fun _ _ _ => rfl) : mo_Sim 17 8 (ma_if2 .ge 31 8 11)) (mt_none))
set_option maxRecDepth 100000 in
theorem smt17_7 (k : Nat) : ∀ f, mt17_7 k = some f → mo_Sim 17 k f := mt_leaf (ms_ild (e := (.iload_n 3, 12, 0, 0, 0)) rfl (fun _ _ _ => rfl) : mo_Sim 17 11 (ma_load 0 3 12)) (mt_leaf (ms_ald (e := (.aload_n 0, 13, 0, 0, 0)) rfl (fun _ _ _ => rfl) : mo_Sim 17 12 (ma_lda 0 13)) (mt_leaf (ms_getf (e := (.getfield 9, 16, 1, 0, 107)) rfl (fun _ _ _ => rfl) : mo_Sim 17 13 (ma_getf 1 0 16)) (mt_none)))
set_option maxRecDepth 100000 in
theorem smt17_5 (k : Nat) : ∀ f, mt17_5 k = some f → mo_Sim 17 k f := mt_node (smt17_6 k) (smt17_7 k)
set_option maxRecDepth 100000 in
theorem smt17_1 (k : Nat) : ∀ f, mt17_1 k = some f → mo_Sim 17 k f := mt_node (smt17_2 k) (smt17_5 k)
set_option maxRecDepth 100000 in
theorem smt17_10 (k : Nat) : ∀ f, mt17_10 k = some f → mo_Sim 17 k f := mt_leaf (ms_i2 (e := (.imul, 17, 0, 0, 0)) rfl (fun _ _ _ => rfl) hf_mul : mo_Sim 17 16 (ma_i2 ma_fmul 16 17)) (mt_leaf (ms_ald (e := (.aload_n 0, 18, 0, 0, 0)) rfl (fun _ _ _ => rfl) : mo_Sim 17 17 (ma_lda 0 18)) (mt_none))
set_option maxRecDepth 100000 in
theorem smt17_11 (k : Nat) : ∀ f, mt17_11 k = some f → mo_Sim 17 k f := mt_leaf (ms_getf (e := (.getfield 25, 21, 1, 4, 130)) rfl (fun _ _ _ => rfl) : mo_Sim 17 18 (ma_getf 1 4 21)) (mt_leaf (ms_ild (e := (.iload_n 1, 22, 0, 0, 0)) rfl (fun _ _ _ => rfl) : mo_Sim 17 21 (ma_load 0 1 22)) (mt_leaf (ms_iald (e := (.iaload, 23, 0, 0, 0)) rfl (fun _ _ _ => rfl) : mo_Sim 17 22 (ma_iald 22 23)) (mt_none)))
set_option maxRecDepth 100000 in
theorem smt17_9 (k : Nat) : ∀ f, mt17_9 k = some f → mo_Sim 17 k f := mt_node (smt17_10 k) (smt17_11 k)
set_option maxRecDepth 100000 in
theorem smt17_13 (k : Nat) : ∀ f, mt17_13 k = some f → mo_Sim 17 k f := mt_leaf (ms_iadd (e := (.iadd, 24, 0, 0, 0)) rfl (fun _ _ _ => rfl) : mo_Sim 17 23 (ma_iadd 23 24)) (mt_leaf (ms_ist (e := (.istore_n 3, 25, 0, 0, 0)) rfl (fun _ _ _ => rfl) : mo_Sim 17 24 (ma_stor 0 3 25)) (mt_leaf (ms_iinc (e := (.iinc 4 1, 28, 0, 0, 0)) rfl (fun _ _ _ => rfl) (by decide) : mo_Sim 17 25 (ma_iinc 4 (.ofNat 1) 25 28)) (mt_none)))
set_option maxRecDepth 100000 in
theorem smt17_14 (k : Nat) : ∀ f, mt17_14 k = some f → mo_Sim 17 k f := mt_leaf (ms_goto (e := (.goto (-23), 31, 5, 0, 0)) rfl (fun _ _ _ => rfl) : mo_Sim 17 28 (ma_goto 5)) (mt_leaf (ms_ild (e := (.iload_n 3, 32, 0, 0, 0)) rfl (fun _ _ _ => rfl) : mo_Sim 17 31 (ma_load 0 3 32)) (mt_leaf (ms_ret (e := (.ireturn, 33, 0, 0, 0)) rfl (Or.inl ⟨rfl, rfl, (fun _ _ _ => rfl)⟩) : mo_Sim 17 32 (ma_ret 0)) (mt_none)))
set_option maxRecDepth 100000 in
theorem smt17_12 (k : Nat) : ∀ f, mt17_12 k = some f → mo_Sim 17 k f := mt_node (smt17_13 k) (smt17_14 k)
set_option maxRecDepth 100000 in
theorem smt17_8 (k : Nat) : ∀ f, mt17_8 k = some f → mo_Sim 17 k f := mt_node (smt17_9 k) (smt17_12 k)
set_option maxRecDepth 100000 in
theorem smt17_0 (k : Nat) : ∀ f, mt17_0 k = some f → mo_Sim 17 k f := mt_node (smt17_1 k) (smt17_8 k)
set_option maxRecDepth 100000 in
theorem smt18_4 (k : Nat) : ∀ f, mt18_4 k = some f → mo_Sim 18 k f := mt_leaf (ms_ild (e := (.iload_n 1, 1, 0, 0, 0)) rfl (fun _ _ _ => rfl) : mo_Sim 18 0 (ma_load 0 1 1)) (mt_leaf (ms_ist (e := (.istore_n 3, 2, 0, 0, 0)) rfl (fun _ _ _ => rfl) : mo_Sim 18 1 (ma_stor 0 3 2)) (mt_leaf (ms_pushi (e := (.iconst 0, 3, 0, 0, 0)) rfl (fun _ _ _ => rfl) (by decide) : mo_Sim 18 2 (ma_push (ma_ci (.ofNat 0)) 3)) (mt_none)))
set_option maxRecDepth 100000 in
theorem smt18_5 (k : Nat) : ∀ f, mt18_5 k = some f → mo_Sim 18 k f := mt_leaf (ms_ist (e := (.istore 4, 5, 0, 0, 0)) rfl (fun _ _ _ => rfl) : mo_Sim 18 3 (ma_stor 0 4 5)) (mt_leaf (ms_pushi (e := (.iconst 0, 6, 0, 0, 0)) rfl (fun _ _ _ => rfl) (by decide) : mo_Sim 18 5 (ma_push (ma_ci (.ofNat 0)) 6)) (mt_leaf (ms_ist (e := (.istore 5, 8, 0, 0, 0)) rfl (fun _ _ _ => rfl) : mo_Sim 18 6 (ma_stor 0 5 8)) (mt_none)))
set_option maxRecDepth 100000 in
theorem smt18_3 (k : Nat) : ∀ f, mt18_3 k = some f → mo_Sim 18 k f := mt_node (smt18_4 k) (smt18_5 k)
set_option maxRecDepth 100000 in
theorem smt18_7 (k : Nat) : ∀ f, mt18_7 k = some f → mo_Sim 18 k f := mt_leaf (ms_ild (e := (.iload 5, 10, 0, 0, 0)) rfl (fun _ _ _ => rfl) : mo_Sim 18 8 (ma_load 0 5 10)) (mt_leaf (ms_ild (e := (.iload_n 2, 11, 0, 0, 0)) rfl (fun _ _ _ => rfl) : mo_Sim 18 10 (ma_load 0 2 11)) (mt_leaf (ms_pushi (e := (.iconst 3, 12, 0, 0, 0)) rfl (fun _ _ _ => rfl) (by decide) : mo_Sim 18 11 (ma_push (ma_ci (.ofNat 3)) 12)) (mt_none)))
set_option maxRecDepth 100000 in
theorem smt18_8 (k : Nat) : ∀ f, mt18_8 k = some f → mo_Sim 18 k f := mt_leaf (ms_iadd (e := (.iadd, 13, 0, 0, 0)) rfl (fun _ _ _ => rfl) : mo_Sim 18 12 (ma_iadd 12 13)) (mt_leaf (ms_if2 (e := (.if_icmp .ge 64, 16, 77, 0, 0)) rfl (fun _ _ _ => rfl) : mo_Sim 18 13 (ma_if2 .ge 77 13 16)) (mt_leaf (ms_ald (e := (.aload_n 0, 17, 0, 0, 0)) rfl (fun _ _ _ => rfl) : mo_Sim 18 16 (ma_lda 0 17)) (mt_none)))
set_option maxRecDepth 100000 in
theorem smt18_6 (k : Nat) : ∀ f, mt18_6 k = some f → mo_Sim 18 k f := mt_node (smt18_7 k) (smt18_8 k)
set_option maxRecDepth 100000 in
theorem smt18_2 (k : Nat) : ∀ f, mt18_2 k = some f → mo_Sim 18 k f := mt_node (smt18_3 k) (smt18_6 k)
set_option maxRecDepth 100000 in
theorem smt18_11 (k : Nat) : ∀ f, mt18_11 k = some f → mo_Sim 18 k f := mt_leaf (ms_getf (e := (.getfield 9, 20, 1, 0, 107)) rfl (fun _ _ _ => rfl) : mo_Sim 18 17 (ma_getf 1 0 20)) (mt_leaf (ms_pushi (e := (.iconst 2, 21, 0, 0, 0)) rfl (fun _ _ _ => rfl) (by decide) : mo_Sim 18 20 (ma_push (ma_ci (.ofNat 2)) 21)) (mt_leaf (ms_if2 (e := (.if_icmp .ne 9, 24, 30, 0, 0)) rfl (fun _ _ _ => rfl) : mo_Sim 18 21 (ma_if2 .ne 30 21 24)) (mt_none)))
set_option maxRecDepth 100000 in
theorem smt18_12 (k : Nat) : ∀ f, mt18_12 k = some f → mo_Sim 18 k f := mt_leaf (ms_ild (e := (.iload_n 3, 25, 0, 0, 0)) rfl (fun _ _ _ => rfl) : mo_Sim 18 24 (ma_load 0 3 25)) (mt_leaf (ms_pushi (e := (.iconst 2, 26, 0, 0, 0)) rfl (fun _ _ _ => rfl) (by decide) : mo_Sim 18 25 (ma_push (ma_ci (.ofNat 2)) 26)) (mt_leaf (ms_id (e := (.irem, 27, 0, 0, 0)) rfl (fun _ _ _ => rfl) hf_rem : mo_Sim 18 26 (ma_i2 ma_frem 26 27)) (mt_none)))
set_option maxRecDepth 100000 in
theorem smt18_10 (k : Nat) : ∀ f, mt18_10 k = some f → mo_Sim 18 k f := mt_node (smt18_11 k) (smt18_12 k)
set_option maxRecDepth 100000 in
theorem smt18_14 (k : Nat) : ∀ f, mt18_14 k = some f → mo_Sim 18 k f := mt_leaf (ms_goto (e := (.goto 6, 30, 33, 0, 0)) rfl (fun _ _ _ => rfl) : mo_Sim 18 27 (ma_goto 33)) (mt_leaf (ms_ild (e := (.iload_n 3, 31, 0, 0, 0)) rfl (fun _ _ _ => rfl) : mo_Sim 18 30 (ma_load 0 3 31)) (mt_leaf (ms_pushi (e := (.iconst 3, 32, 0, 0, 0)) rfl (fun _ _ _ => rfl) (by decide) : mo_Sim 18 31 (ma_push (ma_ci (.ofNat 3)) 32)) (mt_none)))
set_option maxRecDepth 100000 in
theorem smt18_15 (k : Nat) : ∀ f, mt18_15 k = some f → mo_Sim 18 k f := mt_leaf (ms_id (e := (.irem, 33, 0, 0, 0)) rfl (fun _ _ _ => rfl) hf_rem : mo_Sim 18 32 (ma_i2 ma_frem 32 33)) (mt_leaf (ms_ist (e := (.istore 6, 35, 0, 0, 0)) rfl (fun _ _ _ => rfl) : mo_Sim 18 33 (ma_stor 0 6 35)) (mt_leaf (ms_ald (e := (.aload_n 0, 36, 0, 0, 0)) rfl (fun _ _ _ => rfl) : mo_Sim 18 35 (ma_lda 0 36)) (mt_none)))
set_option maxRecDepth 100000 in
theorem smt18_13 (k : Nat) : ∀ f, mt18_13 k = some f → mo_Sim 18 k f := mt_node (smt18_14 k) (smt18_15 k)
set_option maxRecDepth 100000 in
theorem smt18_9 (k : Nat) : ∀ f, mt18_9 k = some f → mo_Sim 18 k f := mt_node (smt18_10 k) (smt18_13 k)
set_option maxRecDepth 100000 in
theorem smt18_1 (k : Nat) : ∀ f, mt18_1 k = some f → mo_Sim 18 k f := mt_node (smt18_2 k) (smt18_9 k)
set_option maxRecDepth 100000 in
theorem smt18_19 (k : Nat) : ∀ f, mt18_19 k = some f → mo_Sim 18 k f := mt_leaf (ms_getf (e := (.getfield 9, 39, 1, 0, 107)) rfl (fun _ _ _ => rfl) : mo_Sim 18 36 (ma_getf 1 0 39)) (mt_leaf (ms_pushi (e := (.iconst 2, 40, 0, 0, 0)) rfl (fun _ _ _ => rfl) (by decide) : mo_Sim 18 39 (ma_push (ma_ci (.ofNat 2)) 40)) (mt_leaf (ms_if2 (e := (.if_icmp .ne 9, 43, 49, 0, 0)) rfl (fun _ _ _ => rfl) : mo_Sim 18 40 (ma_if2 .ne 49 40 43)) (mt_none)))
set_option maxRecDepth 100000 in
theorem smt18_20 (k : Nat) : ∀ f, mt18_20 k = some f → mo_Sim 18 k f := mt_leaf (ms_ild (e := (.iload_n 3, 44, 0, 0, 0)) rfl (fun _ _ _ => rfl) : mo_Sim 18 43 (ma_load 0 3 44)) (mt_leaf (ms_pushi (e := (.iconst 2, 45, 0, 0, 0)) rfl (fun _ _ _ => rfl) (by decide) : mo_Sim 18 44 (ma_push (ma_ci (.ofNat 2)) 45)) (mt_leaf (ms_id (e := (.idiv, 46, 0, 0, 0)) rfl (fun _ _ _ => rfl) hf_div : mo_Sim 18 45 (ma_i2 ma_fdiv 45 46)) (mt_none)))
set_option maxRecDepth 100000 in
theorem smt18_18 (k : Nat) : ∀ f, mt18_18 k = some f → mo_Sim 18 k f := mt_node (smt18_19 k) (smt18_20 k)
set_option maxRecDepth 100000 in
theorem smt18_22 (k : Nat) : ∀ f, mt18_22 k = some f → mo_Sim 18 k f := mt_leaf (ms_goto (e := (.goto 6, 49, 52, 0, 0)) rfl (fun _ _ _ => rfl) : mo_Sim 18 46 (ma_goto 52)) (mt_leaf (ms_ild (e := (.iload_n 3, 50, 0, 0, 0)) rfl (fun _ _ _ => rfl) : mo_Sim 18 49 (ma_load 0 3 50)) (mt_leaf (ms_pushi (e := (.iconst 3, 51, 0, 0, 0)) rfl (fun _ _ _ => rfl) (by decide) : mo_Sim 18 50 (ma_push (ma_ci (.ofNat 3)) 51)) (mt_none)))
set_option maxRecDepth 100000 in
theorem smt18_23 (k : Nat) : ∀ f, mt18_23 k = some f → mo_Sim 18 k f := mt_leaf (ms_id (e := (.idiv, 52, 0, 0, 0)) rfl (fun _ _ _ => rfl) hf_div : mo_Sim 18 51 (ma_i2 ma_fdiv 51 52)) (mt_leaf (ms_ist (e := (.istore_n 3, 53, 0, 0, 0)) rfl (fun _ _ _ => rfl) : mo_Sim 18 52 (ma_stor 0 3 53)) (mt_leaf (ms_ild (e := (.iload 5, 55, 0, 0, 0)) rfl (fun _ _ _ => rfl) : mo_Sim 18 53 (ma_load 0 5 55)) (mt_none)))
set_option maxRecDepth 100000 in
theorem smt18_21 (k : Nat) : ∀ f, mt18_21 k = some f → mo_Sim 18 k f := mt_node (smt18_22 k) (smt18_23 k)
set_option maxRecDepth 100000 in
theorem smt18_17 (k : Nat) : ∀ f, mt18_17 k = some f → mo_Sim 18 k f := mt_node (smt18_18 k) (smt18_21 k)
set_option maxRecDepth 100000 in
theorem smt18_26 (k : Nat) : ∀ f, mt18_26 k = some f → mo_Sim 18 k f := mt_leaf (ms_ild (e := (.iload_n 2, 56, 0, 0, 0)) rfl (fun _ _ _ => rfl) : mo_Sim 18 55 (ma_load 0 2 56)) (mt_leaf (ms_if2 (e := (.if_icmp .lt 15, 59, 71, 0, 0)) rfl (fun _ _ _ => rfl) : mo_Sim 18 56 (ma_if2 .lt 71 56 59)) (mt_leaf (ms_ild (e := (.iload 4, 61, 0, 0, 0)) rfl (fun _ _ _ => rfl) : mo_Sim 18 59 (ma_load 0 4 61)) (mt_none)))
set_option maxRecDepth 100000 in
theorem smt18_27 (k : Nat) : ∀ f, mt18_27 k = some f → mo_Sim 18 k f := mt_leaf (ms_ald (e := (.aload_n 0, 62, 0, 0, 0)) rfl (fun _ _ _ => rfl) : mo_Sim 18 61 (ma_lda 0 62)) (mt_leaf (ms_getf (e := (.getfield 9, 65, 1, 0, 107)) rfl (fun _ _ _ => rfl) : mo_Sim 18 62 (ma_getf 1 0 65)) (mt_leaf (ms_i2 (e := (.imul, 66, 0, 0, 0)) rfl (fun _ _ _ => rfl) hf_mul : mo_Sim 18 65 (ma_i2 ma_fmul 65 66)) (mt_none)))
set_option maxRecDepth 100000 in
theorem smt18_25 (k : Nat) : ∀ f, mt18_25 k = some f → mo_Sim 18 k f := mt_node (smt18_26 k) (smt18_27 k)
set_option maxRecDepth 100000 in
theorem smt18_29 (k : Nat) : ∀ f, mt18_29 k = some f → mo_Sim 18 k f := mt_leaf (ms_ild (e := (.iload 6, 68, 0, 0, 0)) rfl (fun _ _ _ => rfl) : mo_Sim 18 66 (ma_load 0 6 68)) (mt_leaf (ms_iadd (e := (.iadd, 69, 0, 0, 0)) rfl (fun _ _ _ => rfl) : mo_Sim 18 68 (ma_iadd 68 69)) (mt_leaf (ms_ist (e := (.istore 4, 71, 0, 0, 0)) rfl (fun _ _ _ => rfl) : mo_Sim 18 69 (ma_stor 0 4 71)) (mt_none)))
set_option maxRecDepth 100000 in
theorem smt18_30 (k : Nat) : ∀ f, mt18_30 k = some f → mo_Sim 18 k f := mt_leaf (ms_iinc (e := (.iinc 5 1, 74, 0, 0, 0)) rfl (fun _ _ _ => rfl) (by decide) : mo_Sim 18 71 (ma_iinc 5 (.ofNat 1) 71 74)) (mt_leaf (ms_goto (e := (.goto (-66), 77, 8, 0, 0)) rfl (fun _ _ _ => rfl) : mo_Sim 18 74 (ma_goto 8)) (mt_leaf (ms_ild (e := (.iload 4, 79, 0, 0, 0)) rfl (fun _ _ _ => rfl) : mo_Sim 18 77 (ma_load 0 4 79)) (mt_leaf (ms_ret (e := (.ireturn, 80, 0, 0, 0)) rfl (Or.inl ⟨rfl, rfl, (fun _ _ _ => rfl)⟩) : mo_Sim 18 79 (ma_ret 0)) (mt_none))))
set_option maxRecDepth 100000 in
theorem smt18_28 (k : Nat) : ∀ f, mt18_28 k = some f → mo_Sim 18 k f := mt_node (smt18_29 k) (smt18_30 k)
set_option maxRecDepth 100000 in
theorem smt18_24 (k : Nat) : ∀ f, mt18_24 k = some f → mo_Sim 18 k f := mt_node (smt18_25 k) (smt18_28 k)
set_option maxRecDepth 100000 in
theorem smt18_16 (k : Nat) : ∀ f, mt18_16 k = some f → mo_Sim 18 k f := mt_node (smt18_17 k) (smt18_24 k)
set_option maxRecDepth 100000 in
theorem smt18_0 (k : Nat) : ∀ f, mt18_0 k = some f → mo_Sim 18 k f := mt_node (smt18_1 k) (smt18_16 k)
set_option maxRecDepth 100000 in
theorem smt19_2 (k : Nat) : ∀ f, mt19_2 k = some f → mo_Sim 19 k f := mt_leaf (ms_ald (e := (.aload_n 0, 1, 0, 0, 0)) rfl (fun _ _ _ => rfl) : mo_Sim 19 0 (ma_lda 0 1)) (mt_leaf (ms_obj (e := (.invokespecial 3, 4, 0, 4, 313)) rfl (fun _ _ _ => rfl) : mo_Sim 19 1 (ma_obj 4)) (mt_none))
set_option maxRecDepth 100000 in
theorem smt19_3 (k : Nat) : ∀ f, mt19_3 k = some f → mo_Sim 19 k f := mt_leaf (ms_ald (e := (.aload_n 0, 5, 0, 0, 0)) rfl (fun _ _ _ => rfl) : mo_Sim 19 4 (ma_lda 0 5)) (mt_leaf (ms_pushi (e := (.bipush 27, 7, 0, 0, 0)) rfl (fun _ _ _ => rfl) (by decide) : mo_Sim 19 5 (ma_push (ma_ci (.ofNat 27)) 7)) (mt_leaf (ms_newaI (e := (.newarray .int, 9, 0, 0, 0)) rfl rfl (fun _ _ _ => rfl) : mo_Sim 19 7 (ma_newa 13 (ma_ci (.ofNat 0)) 9)) (mt_none)))
set_option maxRecDepth 100000 in
theorem smt19_1 (k : Nat) : ∀ f, mt19_1 k = some f → mo_Sim 19 k f := mt_node (smt19_2 k) (smt19_3 k)
set_option maxRecDepth 100000 in
theorem smt19_5 (k : Nat) : ∀ f, mt19_5 k = some f → mo_Sim 19 k f := mt_leaf (ms_putf (e := (.putfield 9, 12, 2, 4, 321)) rfl rfl (fun _ _ _ => rfl) (Or.inr (Or.inr (Or.inl ⟨rfl, Or.inr ⟨_, rfl⟩⟩))) : mo_Sim 19 9 (ma_putf 2 4 2 12)) (mt_leaf (ms_ald (e := (.aload_n 0, 13, 0, 0, 0)) rfl (fun _ _ _ => rfl) : mo_Sim 19 12 (ma_lda 0 13)) (mt_none))
set_option maxRecDepth 100000 in
theorem smt19_6 (k : Nat) : ∀ f, mt19_6 k = some f → mo_Sim 19 k f := mt_leaf (ms_pushi (e := (.iconst 2, 14, 0, 0, 0)) rfl (fun _ _ _ => rfl) (by decide) : mo_Sim 19 13 (ma_push (ma_ci (.ofNat 2)) 14)) (mt_leaf (ms_putf (e := (.putfield 15, 17, 2, 5, 322)) rfl rfl (fun _ _ _ => rfl) (Or.inl ⟨rfl, rfl⟩) : mo_Sim 19 14 (ma_putf 2 5 0 17)) (mt_leaf (ms_retv (e := (.return_, 18, 0, 0, 0)) rfl rfl (fun _ _ _ => rfl) : mo_Sim 19 17 (ma_retv)) (mt_none)))
set_option maxRecDepth 100000 in
theorem smt19_4 (k : Nat) : ∀ f, mt19_4 k = some f → mo_Sim 19 k f := mt_node (smt19_5 k) (smt19_6 k)
set_option maxRecDepth 100000 in
theorem smt19_0 (k : Nat) : ∀ f, mt19_0 k = some f → mo_Sim 19 k f := mt_node (smt19_1 k) (smt19_4 k)
set_option maxRecDepth 100000 in
theorem smt20_3 (k : Nat) : ∀ f, mt20_3 k = some f → mo_Sim 20 k f := mt_leaf (ms_ald (e := (.aload_n 0, 1, 0, 0, 0)) rfl (fun _ _ _ => rfl) : mo_Sim 20 0 (ma_lda 0 1)) (mt_leaf (ms_ild (e := (.iload_n 1, 2, 0, 0, 0)) rfl (fun _ _ _ => rfl) : mo_Sim 20 1 (ma_load 0 1 2)) (mt_leaf (ms_pushi (e := (.iconst 0, 3, 0, 0, 0)) rfl (fun _ _ _ => rfl) (by decide) : mo_Sim 20 2 (ma_push (ma_ci (.ofNat 0)) 3)) (mt_none)))
set_option maxRecDepth 100000 in
theorem smt20_4 (k : Nat) : ∀ f, mt20_4 k = some f → mo_Sim 20 k f := mt_leaf (ms_ald (e := (.aload_n 2, 4, 0, 0, 0)) rfl (fun _ _ _ => rfl) : mo_Sim 20 3 (ma_lda 2 4)) (mt_leaf (ms_invV (p := 3) (e := (.invokevirtual 19, 7, 27, 0, 801)) rfl rfl (fun _ _ _ => rfl) rfl rfl rfl (by decide) : mo_Sim 20 4 (ma_inv 27 4 4 2 7)) (mt_leaf (ms_ald (e := (.aload_n 2, 8, 0, 0, 0)) rfl (fun _ _ _ => rfl) : mo_Sim 20 7 (ma_lda 2 8)) (mt_leaf (ms_ild (e := (.iload_n 1, 9, 0, 0, 0)) rfl (fun _ _ _ => rfl) : mo_Sim 20 8 (ma_load 0 1 9)) (mt_none))))
set_option maxRecDepth 100000 in
theorem smt20_2 (k : Nat) : ∀ f, mt20_2 k = some f → mo_Sim 20 k f := mt_node (smt20_3 k) (smt20_4 k)
set_option maxRecDepth 100000 in
theorem smt20_6 (k : Nat) : ∀ f, mt20_6 k = some f → mo_Sim 20 k f := mt_leaf (ms_invV (p := 1) (e := (.invokevirtual 23, 12, 12, 0, 805)) rfl rfl (fun _ _ _ => rfl) rfl rfl rfl (by decide) : mo_Sim 20 9 (ma_inv 12 2 4 1 12)) (mt_leaf (ms_pushi (e := (.iconst 1, 13, 0, 0, 0)) rfl (fun _ _ _ => rfl) (by decide) : mo_Sim 20 12 (ma_push (ma_ci (.ofNat 1)) 13)) (mt_leaf (ms_isub (e := (.isub, 14, 0, 0, 0)) rfl (fun _ _ _ => rfl) : mo_Sim 20 13 (ma_isub 13 14)) (mt_leaf (ms_ist (e := (.istore_n 3, 15, 0, 0, 0)) rfl (fun _ _ _ => rfl) : mo_Sim 20 14 (ma_stor 0 3 15)) (mt_none))))
set_option maxRecDepth 100000 in
theorem smt20_7 (k : Nat) : ∀ f, mt20_7 k = some f → mo_Sim 20 k f := mt_leaf (ms_ild (e := (.iload_n 3, 16, 0, 0, 0)) rfl (fun _ _ _ => rfl) : mo_Sim 20 15 (ma_load 0 3 16)) (mt_leaf (ms_if0 (e := (.ifCond .lt 26, 19, 42, 0, 0)) rfl (fun _ _ _ => rfl) : mo_Sim 20 16 (ma_if0 .lt 42 16 19)) (mt_leaf (ms_ald (e := (.aload_n 0, 20, 0, 0, 0)) rfl (fun _ _ _ => rfl) : mo_Sim 20 19 (ma_lda 0 20)) (mt_leaf (ms_getf (e := (.getfield 9, 23, 2, 4, 321)) rfl (fun _ _ _ => rfl) : mo_Sim 20 20 (ma_getf 2 4 23)) (mt_none))))
set_option maxRecDepth 100000 in
theorem smt20_5 (k : Nat) : ∀ f, mt20_5 k = some f → mo_Sim 20 k f := mt_node (smt20_6 k) (smt20_7 k)
set_option maxRecDepth 100000 in
theorem smt20_1 (k : Nat) : ∀ f, mt20_1 k = some f → mo_Sim 20 k f := mt_node (smt20_2 k) (smt20_5 k)
set_option maxRecDepth 100000 in
theorem smt20_10 (k : Nat) : ∀ f, mt20_10 k = some f → mo_Sim 20 k f := mt_leaf (ms_ild (e := (.iload_n 3, 24, 0, 0, 0)) rfl (fun _ _ _ => rfl) : mo_Sim 20 23 (ma_load 0 3 24)) (mt_leaf (ms_ald (e := (.aload_n 0, 25, 0, 0, 0)) rfl (fun _ _ _ => rfl) : mo_Sim 20 24 (ma_lda 0 25)) (mt_leaf (ms_dup (e := (.dup, 26, 0, 0, 0)) rfl (fun _ _ _ => rfl) : mo_Sim 20 25 (ma_dup 26)) (mt_none)))
set_option maxRecDepth 100000 in
theorem smt20_11 (k : Nat) : ∀ f, mt20_11 k = some f → mo_Sim 20 k f := mt_leaf (ms_getf (e := (.getfield 29, 29, 2, 2, 318)) rfl (fun _ _ _ => rfl) : mo_Sim 20 26 (ma_getf 2 2 29)) (mt_leaf (ms_dx1 (e := (.dup_x1, 30, 0, 0, 0)) rfl (fun _ _ _ => rfl) : mo_Sim 20 29 (ma_dx1 30)) (mt_leaf (ms_pushi (e := (.iconst 1, 31, 0, 0, 0)) rfl (fun _ _ _ => rfl) (by decide) : mo_Sim 20 30 (ma_push (ma_ci (.ofNat 1)) 31)) (mt_leaf (ms_iadd (e := (.iadd, 32, 0, 0, 0)) rfl (fun _ _ _ => rfl) : mo_Sim 20 31 (ma_iadd 31 32)) (mt_none))))
set_option maxRecDepth 100000 in
theorem smt20_9 (k : Nat) : ∀ f, mt20_9 k = some f → mo_Sim 20 k f := mt_node (smt20_10 k) (smt20_11 k)
set_option maxRecDepth 100000 in
theorem smt20_13 (k : Nat) : ∀ f, mt20_13 k = some f → mo_Sim 20 k f := mt_leaf (ms_putf (e := (.putfield 29, 35, 2, 2, 318)) rfl rfl (fun _ _ _ => rfl) (Or.inl ⟨rfl, rfl⟩) : mo_Sim 20 32 (ma_putf 2 2 0 35)) (mt_leaf (ms_iast (e := (.iastore, 36, 0, 0, 0)) rfl rfl (fun _ _ _ => rfl) : mo_Sim 20 35 (ma_ast 13 0 35 36)) (mt_leaf (ms_iinc (e := (.iinc 3 (-1), 39, 0, 0, 0)) rfl (fun _ _ _ => rfl) (by decide) : mo_Sim 20 36 (ma_iinc 3 (.negSucc 0) 36 39)) (mt_leaf (ms_goto (e := (.goto (-24), 42, 15, 0, 0)) rfl (fun _ _ _ => rfl) : mo_Sim 20 39 (ma_goto 15)) (mt_none))))
set_option maxRecDepth 100000 in
theorem smt20_14 (k : Nat) : ∀ f, mt20_14 k = some f → mo_Sim 20 k f := mt_leaf (ms_ald (e := (.aload_n 0, 43, 0, 0, 0)) rfl (fun _ _ _ => rfl) : mo_Sim 20 42 (ma_lda 0 43)) (mt_leaf (ms_ald (e := (.aload_n 2, 44, 0, 0, 0)) rfl (fun _ _ _ => rfl) : mo_Sim 20 43 (ma_lda 2 44)) (mt_leaf (ms_invV (p := 1) (e := (.invokevirtual 32, 47, 28, 0, 806)) rfl rfl (fun _ _ _ => rfl) rfl rfl rfl (by decide) : mo_Sim 20 44 (ma_inv 28 2 4 2 47)) (mt_leaf (ms_retv (e := (.return_, 48, 0, 0, 0)) rfl rfl (fun _ _ _ => rfl) : mo_Sim 20 47 (ma_retv)) (mt_none))))
set_option maxRecDepth 100000 in
theorem smt20_12 (k : Nat) : ∀ f, mt20_12 k = some f → mo_Sim 20 k f := mt_node (smt20_13 k) (smt20_14 k)
set_option maxRecDepth 100000 in
theorem smt20_8 (k : Nat) : ∀ f, mt20_8 k = some f → mo_Sim 20 k f := mt_node (smt20_9 k) (smt20_12 k)
set_option maxRecDepth 100000 in
theorem smt20_0 (k : Nat) : ∀ f, mt20_0 k = some f → mo_Sim 20 k f := mt_node (smt20_1 k) (smt20_8 k)
set_option maxRecDepth 100000 in
theorem smt21_4 (k : Nat) : ∀ f, mt21_4 k = some f → mo_Sim 21 k f := mt_leaf (ms_ald (e := (.aload_n 0, 1, 0, 0, 0)) rfl (fun _ _ _ => rfl) : mo_Sim 21 0 (ma_lda 0 1)) (mt_leaf (ms_pushi (e := (.iconst 2, 2, 0, 0, 0)) rfl (fun _ _ _ => rfl) (by decide) : mo_Sim 21 1 (ma_push (ma_ci (.ofNat 2)) 2)) (mt_leaf (ms_ald (e := (.aload_n 1, 3, 0, 0, 0)) rfl (fun _ _ _ => rfl) : mo_Sim 21 2 (ma_lda 1 3)) (mt_leaf (ms_getf (e := (.getfield 36, 6, 1, 0, 109)) rfl (fun _ _ _ => rfl) : mo_Sim 21 3 (ma_getf 1 0 6)) (mt_none))))
set_option maxRecDepth 100000 in
theorem smt21_5 (k : Nat) : ∀ f, mt21_5 k = some f → mo_Sim 21 k f := mt_leaf (ms_ald (e := (.aload_n 1, 7, 0, 0, 0)) rfl (fun _ _ _ => rfl) : mo_Sim 21 6 (ma_lda 1 7)) (mt_leaf (ms_invV (p := 3) (e := (.invokevirtual 19, 10, 27, 0, 801)) rfl rfl (fun _ _ _ => rfl) rfl rfl rfl (by decide) : mo_Sim 21 7 (ma_inv 27 4 4 2 10)) (mt_leaf (ms_ald (e := (.aload_n 0, 11, 0, 0, 0)) rfl (fun _ _ _ => rfl) : mo_Sim 21 10 (ma_lda 0 11)) (mt_leaf (ms_pushi (e := (.iconst 1, 12, 0, 0, 0)) rfl (fun _ _ _ => rfl) (by decide) : mo_Sim 21 11 (ma_push (ma_ci (.ofNat 1)) 12)) (mt_none))))
set_option maxRecDepth 100000 in
theorem smt21_3 (k : Nat) : ∀ f, mt21_3 k = some f → mo_Sim 21 k f := mt_node (smt21_4 k) (smt21_5 k)
set_option maxRecDepth 100000 in
theorem smt21_7 (k : Nat) : ∀ f, mt21_7 k = some f → mo_Sim 21 k f := mt_leaf (ms_putf (e := (.putfield 37, 15, 2, 3, 320)) rfl rfl (fun _ _ _ => rfl) (Or.inr (Or.inl ⟨rfl, rfl⟩)) : mo_Sim 21 12 (ma_putf 2 3 1 15)) (mt_leaf (ms_ald (e := (.aload_n 0, 16, 0, 0, 0)) rfl (fun _ _ _ => rfl) : mo_Sim 21 15 (ma_lda 0 16)) (mt_leaf (ms_getf (e := (.getfield 15, 19, 2, 5, 322)) rfl (fun _ _ _ => rfl) : mo_Sim 21 16 (ma_getf 2 5 19)) (mt_leaf (ms_pushi (e := (.iconst 1, 20, 0, 0, 0)) rfl (fun _ _ _ => rfl) (by decide) : mo_Sim 21 19 (ma_push (ma_ci (.ofNat 1)) 20)) (mt_none))))
set_option maxRecDepth 100000 in
theorem smt21_9 (k : Nat) : ∀ f, mt21_9 k = some f → mo_Sim 21 k f := mt_leaf (ms_isub (e := (.isub, 21, 0, 0, 0)) rfl (fun _ _ _ => rfl) : mo_Sim 21 20 (ma_isub 20 21)) (mt_leaf (ms_ist (e := (.istore_n 2, 22, 0, 0, 0)) rfl (fun _ _ _ => rfl) : mo_Sim 21 21 (ma_stor 0 2 22)) (mt_none))
set_option maxRecDepth 100000 in
theorem smt21_10 (k : Nat) : ∀ f, mt21_10 k = some f → mo_Sim 21 k f := mt_leaf (ms_ild (e := (.iload_n 2, 23, 0, 0, 0)) rfl (fun _ _ _ => rfl) : mo_Sim 21 22 (ma_load 0 2 23)) (mt_leaf (ms_if0 (e := (.ifCond .lt 81, 26, 104, 0, 0)) rfl (fun _ _ _ => rfl) : mo_Sim 21 23 (ma_if0 .lt 104 23 26)) (mt_leaf (ms_ald (e := (.aload_n 0, 27, 0, 0, 0)) rfl (fun _ _ _ => rfl) : mo_Sim 21 26 (ma_lda 0 27)) (mt_none)))
set_option maxRecDepth 100000 in
theorem smt21_8 (k : Nat) : ∀ f, mt21_8 k = some f → mo_Sim 21 k f := mt_node (smt21_9 k) (smt21_10 k)
set_option maxRecDepth 100000 in
theorem smt21_6 (k : Nat) : ∀ f, mt21_6 k = some f → mo_Sim 21 k f := mt_node (smt21_7 k) (smt21_8 k)
set_option maxRecDepth 100000 in
theorem smt21_2 (k : Nat) : ∀ f, mt21_2 k = some f → mo_Sim 21 k f := mt_node (smt21_3 k) (smt21_6 k)
set_option maxRecDepth 100000 in
theorem smt21_13 (k : Nat) : ∀ f, mt21_13 k = some f → mo_Sim 21 k f := mt_leaf (ms_getf (e := (.getfield 9, 30, 2, 4, 321)) rfl (fun _ _ _ => rfl) : mo_Sim 21 27 (ma_getf 2 4 30)) (mt_leaf (ms_ild (e := (.iload_n 2, 31, 0, 0, 0)) rfl (fun _ _ _ => rfl) : mo_Sim 21 30 (ma_load 0 2 31)) (mt_leaf (ms_ald (e := (.aload_n 0, 32, 0, 0, 0)) rfl (fun _ _ _ => rfl) : mo_Sim 21 31 (ma_lda 0 32)) (mt_leaf (ms_getf (e := (.getfield 15, 35, 2, 5, 322)) rfl (fun _ _ _ => rfl) : mo_Sim 21 32 (ma_getf 2 5 35)) (mt_none))))
set_option maxRecDepth 100000 in
theorem smt21_14 (k : Nat) : ∀ f, mt21_14 k = some f → mo_Sim 21 k f := mt_leaf (ms_i2 (e := (.imul, 36, 0, 0, 0)) rfl (fun _ _ _ => rfl) hf_mul : mo_Sim 21 35 (ma_i2 ma_fmul 35 36)) (mt_leaf (ms_ild (e := (.iload_n 2, 37, 0, 0, 0)) rfl (fun _ _ _ => rfl) : mo_Sim 21 36 (ma_load 0 2 37)) (mt_leaf (ms_iadd (e := (.iadd, 38, 0, 0, 0)) rfl (fun _ _ _ => rfl) : mo_Sim 21 37 (ma_iadd 37 38)) (mt_leaf (ms_ild (e := (.iload_n 2, 39, 0, 0, 0)) rfl (fun _ _ _ => rfl) : mo_Sim 21 38 (ma_load 0 2 39)) (mt_none))))
set_option maxRecDepth 100000 in
theorem smt21_12 (k : Nat) : ∀ f, mt21_12 k = some f → mo_Sim 21 k f := mt_node (smt21_13 k) (smt21_14 k)
set_option maxRecDepth 100000 in
theorem smt21_16 (k : Nat) : ∀ f, mt21_16 k = some f → mo_Sim 21 k f := mt_leaf (ms_iast (e := (.iastore, 40, 0, 0, 0)) rfl rfl (fun _ _ _ => rfl) : mo_Sim 21 39 (ma_ast 13 0 39 40)) (mt_leaf (ms_ild (e := (.iload_n 2, 41, 0, 0, 0)) rfl (fun _ _ _ => rfl) : mo_Sim 21 40 (ma_load 0 2 41)) (mt_leaf (ms_pushi (e := (.iconst 1, 42, 0, 0, 0)) rfl (fun _ _ _ => rfl) (by decide) : mo_Sim 21 41 (ma_push (ma_ci (.ofNat 1)) 42)) (mt_leaf (ms_isub (e := (.isub, 43, 0, 0, 0)) rfl (fun _ _ _ => rfl) : mo_Sim 21 42 (ma_isub 42 43)) (mt_none))))
set_option maxRecDepth 100000 in
theorem smt21_18 (k : Nat) : ∀ f, mt21_18 k = some f → mo_Sim 21 k f := mt_leaf (ms_ist (e := (.istore_n 3, 44, 0, 0, 0)) rfl (fun _ _ _ => rfl) : mo_Sim 21 43 (ma_stor 0 3 44)) (mt_leaf (ms_ild (e := (.iload_n 3, 45, 0, 0, 0)) rfl (fun _ _ _ => rfl) : mo_Sim 21 44 (ma_load 0 3 45)) (mt_none))
set_option maxRecDepth 100000 in
theorem smt21_19 (k : Nat) : ∀ f, mt21_19 k = some f → mo_Sim 21 k f := mt_leaf (ms_if0 (e := (.ifCond .lt 53, 48, 98, 0, 0)) rfl (fun _ _ _ => rfl) : mo_Sim 21 45 (ma_if0 .lt 98 45 48)) (mt_leaf (ms_ald (e := (.aload_n 0, 49, 0, 0, 0)) rfl (fun _ _ _ => rfl) : mo_Sim 21 48 (ma_lda 0 49)) (mt_leaf (ms_getf (e := (.getfield 9, 52, 2, 4, 321)) rfl (fun _ _ _ => rfl) : mo_Sim 21 49 (ma_getf 2 4 52)) (mt_none)))
set_option maxRecDepth 100000 in
theorem smt21_17 (k : Nat) : ∀ f, mt21_17 k = some f → mo_Sim 21 k f := mt_node (smt21_18 k) (smt21_19 k)
set_option maxRecDepth 100000 in
theorem smt21_15 (k : Nat) : ∀ f, mt21_15 k = some f → mo_Sim 21 k f := mt_node (smt21_16 k) (smt21_17 k)
set_option maxRecDepth 100000 in
theorem smt21_11 (k : Nat) : ∀ f, mt21_11 k = some f → mo_Sim 21 k f := mt_node (smt21_12 k) (smt21_15 k)
set_option maxRecDepth 100000 in
theorem smt21_1 (k : Nat) : ∀ f, mt21_1 k = some f → mo_Sim 21 k f := mt_node (smt21_2 k) (smt21_11 k)
set_option maxRecDepth 100000 in
theorem smt21_23 (k : Nat) : ∀ f, mt21_23 k = some f → mo_Sim 21 k f := mt_leaf (ms_ild (e := (.iload_n 2, 53, 0, 0, 0)) rfl (fun _ _ _ => rfl) : mo_Sim 21 52 (ma_load 0 2 53)) (mt_leaf (ms_ald (e := (.aload_n 0, 54, 0, 0, 0)) rfl (fun _ _ _ => rfl) : mo_Sim 21 53 (ma_lda 0 54)) (mt_leaf (ms_getf (e := (.getfield 15, 57, 2, 5, 322)) rfl (fun _ _ _ => rfl) : mo_Sim 21 54 (ma_getf 2 5 57)) (mt_leaf (ms_i2 (e := (.imul, 58, 0, 0, 0)) rfl (fun _ _ _ => rfl) hf_mul : mo_Sim 21 57 (ma_i2 ma_fmul 57 58)) (mt_none))))
set_option maxRecDepth 100000 in
theorem smt21_24 (k : Nat) : ∀ f, mt21_24 k = some f → mo_Sim 21 k f := mt_leaf (ms_ild (e := (.iload_n 3, 59, 0, 0, 0)) rfl (fun _ _ _ => rfl) : mo_Sim 21 58 (ma_load 0 3 59)) (mt_leaf (ms_iadd (e := (.iadd, 60, 0, 0, 0)) rfl (fun _ _ _ => rfl) : mo_Sim 21 59 (ma_iadd 59 60)) (mt_leaf (ms_ald (e := (.aload_n 0, 61, 0, 0, 0)) rfl (fun _ _ _ => rfl) : mo_Sim 21 60 (ma_lda 0 61)) (mt_leaf (ms_getf (e := (.getfield 29, 64, 2, 2, 318)) rfl (fun _ _ _ => rfl) : mo_Sim 21 61 (ma_getf 2 2 64)) (mt_none))))
set_option maxRecDepth 100000 in
theorem smt21_22 (k : Nat) : ∀ f, mt21_22 k = some f → mo_Sim 21 k f := mt_node (smt21_23 k) (smt21_24 k)
set_option maxRecDepth 100000 in
theorem smt21_26 (k : Nat) : ∀ f, mt21_26 k = some f → mo_Sim 21 k f := mt_leaf (ms_iast (e := (.iastore, 65, 0, 0, 0)) rfl rfl (fun _ _ _ => rfl) : mo_Sim 21 64 (ma_ast 13 0 64 65)) (mt_leaf (ms_ald (e := (.aload_n 0, 66, 0, 0, 0)) rfl (fun _ _ _ => rfl) : mo_Sim 21 65 (ma_lda 0 66)) (mt_leaf (ms_getf (e := (.getfield 9, 69, 2, 4, 321)) rfl (fun _ _ _ => rfl) : mo_Sim 21 66 (ma_getf 2 4 69)) (mt_leaf (ms_ild (e := (.iload_n 3, 70, 0, 0, 0)) rfl (fun _ _ _ => rfl) : mo_Sim 21 69 (ma_load 0 3 70)) (mt_none))))
set_option maxRecDepth 100000 in
theorem smt21_28 (k : Nat) : ∀ f, mt21_28 k = some f → mo_Sim 21 k f := mt_leaf (ms_ald (e := (.aload_n 0, 71, 0, 0, 0)) rfl (fun _ _ _ => rfl) : mo_Sim 21 70 (ma_lda 0 71)) (mt_leaf (ms_getf (e := (.getfield 15, 74, 2, 5, 322)) rfl (fun _ _ _ => rfl) : mo_Sim 21 71 (ma_getf 2 5 74)) (mt_none))
set_option maxRecDepth 100000 in
theorem smt21_29 (k : Nat) : ∀ f, mt21_29 k = some f → mo_Sim 21 k f := mt_leaf (ms_i2 (e := (.imul, 75, 0, 0, 0)) rfl (fun _ _ _ => rfl) hf_mul : mo_Sim 21 74 (ma_i2 ma_fmul 74 75)) (mt_leaf (ms_ild (e := (.iload_n 2, 76, 0, 0, 0)) rfl (fun _ _ _ => rfl) : mo_Sim 21 75 (ma_load 0 2 76)) (mt_leaf (ms_iadd (e := (.iadd, 77, 0, 0, 0)) rfl (fun _ _ _ => rfl) : mo_Sim 21 76 (ma_iadd 76 77)) (mt_none)))
set_option maxRecDepth 100000 in
theorem smt21_27 (k : Nat) : ∀ f, mt21_27 k = some f → mo_Sim 21 k f := mt_node (smt21_28 k) (smt21_29 k)
set_option maxRecDepth 100000 in
theorem smt21_25 (k : Nat) : ∀ f, mt21_25 k = some f → mo_Sim 21 k f := mt_node (smt21_26 k) (smt21_27 k)
set_option maxRecDepth 100000 in
theorem smt21_21 (k : Nat) : ∀ f, mt21_21 k = some f → mo_Sim 21 k f := mt_node (smt21_22 k) (smt21_25 k)
set_option maxRecDepth 100000 in
theorem smt21_32 (k : Nat) : ∀ f, mt21_32 k = some f → mo_Sim 21 k f := mt_leaf (ms_ald (e := (.aload_n 0, 78, 0, 0, 0)) rfl (fun _ _ _ => rfl) : mo_Sim 21 77 (ma_lda 0 78)) (mt_leaf (ms_getf (e := (.getfield 29, 81, 2, 2, 318)) rfl (fun _ _ _ => rfl) : mo_Sim 21 78 (ma_getf 2 2 81)) (mt_leaf (ms_iast (e := (.iastore, 82, 0, 0, 0)) rfl rfl (fun _ _ _ => rfl) : mo_Sim 21 81 (ma_ast 13 0 81 82)) (mt_leaf (ms_ald (e := (.aload_n 0, 83, 0, 0, 0)) rfl (fun _ _ _ => rfl) : mo_Sim 21 82 (ma_lda 0 83)) (mt_none))))
set_option maxRecDepth 100000 in
theorem smt21_33 (k : Nat) : ∀ f, mt21_33 k = some f → mo_Sim 21 k f := mt_leaf (ms_dup (e := (.dup, 84, 0, 0, 0)) rfl (fun _ _ _ => rfl) : mo_Sim 21 83 (ma_dup 84)) (mt_leaf (ms_getf (e := (.getfield 29, 87, 2, 2, 318)) rfl (fun _ _ _ => rfl) : mo_Sim 21 84 (ma_getf 2 2 87)) (mt_leaf (ms_pushi (e := (.iconst 1, 88, 0, 0, 0)) rfl (fun _ _ _ => rfl) (by decide) : mo_Sim 21 87 (ma_push (ma_ci (.ofNat 1)) 88)) (mt_leaf (ms_iadd (e := (.iadd, 89, 0, 0, 0)) rfl (fun _ _ _ => rfl) : mo_Sim 21 88 (ma_iadd 88 89)) (mt_none))))
set_option maxRecDepth 100000 in
theorem smt21_31 (k : Nat) : ∀ f, mt21_31 k = some f → mo_Sim 21 k f := mt_node (smt21_32 k) (smt21_33 k)
set_option maxRecDepth 100000 in
theorem smt21_35 (k : Nat) : ∀ f, mt21_35 k = some f → mo_Sim 21 k f := mt_leaf (ms_putf (e := (.putfield 29, 92, 2, 2, 318)) rfl rfl (fun _ _ _ => rfl) (Or.inl ⟨rfl, rfl⟩) : mo_Sim 21 89 (ma_putf 2 2 0 92)) (mt_leaf (ms_iinc (e := (.iinc 3 (-1), 95, 0, 0, 0)) rfl (fun _ _ _ => rfl) (by decide) : mo_Sim 21 92 (ma_iinc 3 (.negSucc 0) 92 95)) (mt_leaf (ms_goto (e := (.goto (-51), 98, 44, 0, 0)) rfl (fun _ _ _ => rfl) : mo_Sim 21 95 (ma_goto 44)) (mt_leaf (ms_iinc (e := (.iinc 2 (-1), 101, 0, 0, 0)) rfl (fun _ _ _ => rfl) (by decide) : mo_Sim 21 98 (ma_iinc 2 (.negSucc 0) 98 101)) (mt_none))))
set_option maxRecDepth 100000 in
theorem smt21_37 (k : Nat) : ∀ f, mt21_37 k = some f → mo_Sim 21 k f := mt_leaf (ms_goto (e := (.goto (-79), 104, 22, 0, 0)) rfl (fun _ _ _ => rfl) : mo_Sim 21 101 (ma_goto 22)) (mt_leaf (ms_ald (e := (.aload_n 0, 105, 0, 0, 0)) rfl (fun _ _ _ => rfl) : mo_Sim 21 104 (ma_lda 0 105)) (mt_none))
set_option maxRecDepth 100000 in
theorem smt21_38 (k : Nat) : ∀ f, mt21_38 k = some f → mo_Sim 21 k f := mt_leaf (ms_ald (e := (.aload_n 1, 106, 0, 0, 0)) rfl (fun _ _ _ => rfl) : mo_Sim 21 105 (ma_lda 1 106)) (mt_leaf (ms_invV (p := 1) (e := (.invokevirtual 32, 109, 28, 0, 806)) rfl rfl (fun _ _ _ => rfl) rfl rfl rfl (by decide) : mo_Sim 21 106 (ma_inv 28 2 4 2 109)) (mt_leaf (ms_retv (e := (.return_, 110, 0, 0, 0)) rfl rfl (fun _ _ _ => rfl) : mo_Sim 21 109 (ma_retv)) (mt_none)))
set_option maxRecDepth 100000 in
theorem smt21_36 (k : Nat) : ∀ f, mt21_36 k = some f → mo_Sim 21 k f := mt_node (smt21_37 k) (smt21_38 k)
set_option maxRecDepth 100000 in
theorem smt21_34 (k : Nat) : ∀ f, mt21_34 k = some f → mo_Sim 21 k f := mt_node (smt21_35 k) (smt21_36 k)
set_option maxRecDepth 100000 in
theorem smt21_30 (k : Nat) : ∀ f, mt21_30 k = some f → mo_Sim 21 k f := mt_node (smt21_31 k) (smt21_34 k)
set_option maxRecDepth 100000 in
theorem smt21_20 (k : Nat) : ∀ f, mt21_20 k = some f → mo_Sim 21 k f := mt_node (smt21_21 k) (smt21_30 k)
set_option maxRecDepth 100000 in
theorem smt21_0 (k : Nat) : ∀ f, mt21_0 k = some f → mo_Sim 21 k f := mt_node (smt21_1 k) (smt21_20 k)
set_option maxRecDepth 100000 in
theorem smt22_4 (k : Nat) : ∀ f, mt22_4 k = some f → mo_Sim 22 k f := mt_leaf (ms_ald (e := (.aload_n 0, 1, 0, 0, 0)) rfl (fun _ _ _ => rfl) : mo_Sim 22 0 (ma_lda 0 1)) (mt_leaf (ms_pushi (e := (.iconst 3, 2, 0, 0, 0)) rfl (fun _ _ _ => rfl) (by decide) : mo_Sim 22 1 (ma_push (ma_ci (.ofNat 3)) 2)) (mt_leaf (ms_ald (e := (.aload_n 1, 3, 0, 0, 0)) rfl (fun _ _ _ => rfl) : mo_Sim 22 2 (ma_lda 1 3)) (mt_none)))
set_option maxRecDepth 100000 in
theorem smt22_5 (k : Nat) : ∀ f, mt22_5 k = some f → mo_Sim 22 k f := mt_leaf (ms_getf (e := (.getfield 36, 6, 1, 0, 109)) rfl (fun _ _ _ => rfl) : mo_Sim 22 3 (ma_getf 1 0 6)) (mt_leaf (ms_ald (e := (.aload_n 1, 7, 0, 0, 0)) rfl (fun _ _ _ => rfl) : mo_Sim 22 6 (ma_lda 1 7)) (mt_leaf (ms_invV (p := 3) (e := (.invokevirtual 19, 10, 27, 0, 801)) rfl rfl (fun _ _ _ => rfl) rfl rfl rfl (by decide) : mo_Sim 22 7 (ma_inv 27 4 4 2 10)) (mt_leaf (ms_ald (e := (.aload_n 1, 11, 0, 0, 0)) rfl (fun _ _ _ => rfl) : mo_Sim 22 10 (ma_lda 1 11)) (mt_none))))
set_option maxRecDepth 100000 in
theorem smt22_3 (k : Nat) : ∀ f, mt22_3 k = some f → mo_Sim 22 k f := mt_node (smt22_4 k) (smt22_5 k)
set_option maxRecDepth 100000 in
theorem smt22_7 (k : Nat) : ∀ f, mt22_7 k = some f → mo_Sim 22 k f := mt_leaf (ms_getf (e := (.getfield 41, 14, 1, 1, 115)) rfl (fun _ _ _ => rfl) : mo_Sim 22 11 (ma_getf 1 1 14)) (mt_leaf (ms_pushi (e := (.iconst 1, 15, 0, 0, 0)) rfl (fun _ _ _ => rfl) (by decide) : mo_Sim 22 14 (ma_push (ma_ci (.ofNat 1)) 15)) (mt_leaf (ms_isub (e := (.isub, 16, 0, 0, 0)) rfl (fun _ _ _ => rfl) : mo_Sim 22 15 (ma_isub 15 16)) (mt_leaf (ms_ist (e := (.istore_n 2, 17, 0, 0, 0)) rfl (fun _ _ _ => rfl) : mo_Sim 22 16 (ma_stor 0 2 17)) (mt_none))))
set_option maxRecDepth 100000 in
theorem smt22_8 (k : Nat) : ∀ f, mt22_8 k = some f → mo_Sim 22 k f := mt_leaf (ms_ild (e := (.iload_n 2, 18, 0, 0, 0)) rfl (fun _ _ _ => rfl) : mo_Sim 22 17 (ma_load 0 2 18)) (mt_leaf (ms_if0 (e := (.ifCond .lt 89, 21, 107, 0, 0)) rfl (fun _ _ _ => rfl) : mo_Sim 22 18 (ma_if0 .lt 107 18 21)) (mt_leaf (ms_ald (e := (.aload_n 1, 22, 0, 0, 0)) rfl (fun _ _ _ => rfl) : mo_Sim 22 21 (ma_lda 1 22)) (mt_leaf (ms_getf (e := (.getfield 44, 25, 1, 2, 120)) rfl (fun _ _ _ => rfl) : mo_Sim 22 22 (ma_getf 1 2 25)) (mt_none))))
set_option maxRecDepth 100000 in
theorem smt22_6 (k : Nat) : ∀ f, mt22_6 k = some f → mo_Sim 22 k f := mt_node (smt22_7 k) (smt22_8 k)
set_option maxRecDepth 100000 in
theorem smt22_2 (k : Nat) : ∀ f, mt22_2 k = some f → mo_Sim 22 k f := mt_node (smt22_3 k) (smt22_6 k)
set_option maxRecDepth 100000 in
theorem smt22_11 (k : Nat) : ∀ f, mt22_11 k = some f → mo_Sim 22 k f := mt_leaf (ms_ild (e := (.iload_n 2, 26, 0, 0, 0)) rfl (fun _ _ _ => rfl) : mo_Sim 22 25 (ma_load 0 2 26)) (mt_leaf (ms_iald (e := (.iaload, 27, 0, 0, 0)) rfl (fun _ _ _ => rfl) : mo_Sim 22 26 (ma_iald 26 27)) (mt_leaf (ms_ist (e := (.istore_n 3, 28, 0, 0, 0)) rfl (fun _ _ _ => rfl) : mo_Sim 22 27 (ma_stor 0 3 28)) (mt_leaf (ms_ald (e := (.aload_n 1, 29, 0, 0, 0)) rfl (fun _ _ _ => rfl) : mo_Sim 22 28 (ma_lda 1 29)) (mt_none))))
set_option maxRecDepth 100000 in
theorem smt22_12 (k : Nat) : ∀ f, mt22_12 k = some f → mo_Sim 22 k f := mt_leaf (ms_getf (e := (.getfield 47, 32, 1, 3, 127)) rfl (fun _ _ _ => rfl) : mo_Sim 22 29 (ma_getf 1 3 32)) (mt_leaf (ms_ild (e := (.iload_n 2, 33, 0, 0, 0)) rfl (fun _ _ _ => rfl) : mo_Sim 22 32 (ma_load 0 2 33)) (mt_leaf (ms_iald (e := (.iaload, 34, 0, 0, 0)) rfl (fun _ _ _ => rfl) : mo_Sim 22 33 (ma_iald 33 34)) (mt_leaf (ms_ist (e := (.istore 4, 36, 0, 0, 0)) rfl (fun _ _ _ => rfl) : mo_Sim 22 34 (ma_stor 0 4 36)) (mt_none))))
set_option maxRecDepth 100000 in
theorem smt22_10 (k : Nat) : ∀ f, mt22_10 k = some f → mo_Sim 22 k f := mt_node (smt22_11 k) (smt22_12 k)
set_option maxRecDepth 100000 in
theorem smt22_14 (k : Nat) : ∀ f, mt22_14 k = some f → mo_Sim 22 k f := mt_leaf (ms_ald (e := (.aload_n 1, 37, 0, 0, 0)) rfl (fun _ _ _ => rfl) : mo_Sim 22 36 (ma_lda 1 37)) (mt_leaf (ms_getf (e := (.getfield 50, 40, 1, 4, 134)) rfl (fun _ _ _ => rfl) : mo_Sim 22 37 (ma_getf 1 4 40)) (mt_leaf (ms_ild (e := (.iload_n 2, 41, 0, 0, 0)) rfl (fun _ _ _ => rfl) : mo_Sim 22 40 (ma_load 0 2 41)) (mt_leaf (ms_iald (e := (.iaload, 42, 0, 0, 0)) rfl (fun _ _ _ => rfl) : mo_Sim 22 41 (ma_iald 41 42)) (mt_none))))
set_option maxRecDepth 100000 in
theorem smt22_15 (k : Nat) : ∀ f, mt22_15 k = some f → mo_Sim 22 k f := mt_leaf (ms_ist (e := (.istore 5, 44, 0, 0, 0)) rfl (fun _ _ _ => rfl) : mo_Sim 22 42 (ma_stor 0 5 44)) (mt_leaf (ms_ild (e := (.iload_n 3, 45, 0, 0, 0)) rfl (fun _ _ _ => rfl) : mo_Sim 22 44 (ma_load 0 3 45)) (mt_leaf (ms_ild (e := (.iload 4, 47, 0, 0, 0)) rfl (fun _ _ _ => rfl) : mo_Sim 22 45 (ma_load 0 4 47)) (mt_leaf (ms_if2 (e := (.if_icmp .eq 9, 50, 56, 0, 0)) rfl (fun _ _ _ => rfl) : mo_Sim 22 47 (ma_if2 .eq 56 47 50)) (mt_none))))
set_option maxRecDepth 100000 in
theorem smt22_13 (k : Nat) : ∀ f, mt22_13 k = some f → mo_Sim 22 k f := mt_node (smt22_14 k) (smt22_15 k)
set_option maxRecDepth 100000 in
theorem smt22_9 (k : Nat) : ∀ f, mt22_9 k = some f → mo_Sim 22 k f := mt_node (smt22_10 k) (smt22_13 k)
set_option maxRecDepth 100000 in
theorem smt22_1 (k : Nat) : ∀ f, mt22_1 k = some f → mo_Sim 22 k f := mt_node (smt22_2 k) (smt22_9 k)
set_option maxRecDepth 100000 in
theorem smt22_19 (k : Nat) : ∀ f, mt22_19 k = some f → mo_Sim 22 k f := mt_leaf (ms_ild (e := (.iload_n 3, 51, 0, 0, 0)) rfl (fun _ _ _ => rfl) : mo_Sim 22 50 (ma_load 0 3 51)) (mt_leaf (ms_ild (e := (.iload 5, 53, 0, 0, 0)) rfl (fun _ _ _ => rfl) : mo_Sim 22 51 (ma_load 0 5 53)) (mt_leaf (ms_if2 (e := (.if_icmp .ne 13, 56, 66, 0, 0)) rfl (fun _ _ _ => rfl) : mo_Sim 22 53 (ma_if2 .ne 66 53 56)) (mt_leaf (ms_ald (e := (.aload_n 0, 57, 0, 0, 0)) rfl (fun _ _ _ => rfl) : mo_Sim 22 56 (ma_lda 0 57)) (mt_none))))
set_option maxRecDepth 100000 in
theorem smt22_20 (k : Nat) : ∀ f, mt22_20 k = some f → mo_Sim 22 k f := mt_leaf (ms_getf (e := (.getfield 9, 60, 2, 4, 321)) rfl (fun _ _ _ => rfl) : mo_Sim 22 57 (ma_getf 2 4 60)) (mt_leaf (ms_ild (e := (.iload_n 2, 61, 0, 0, 0)) rfl (fun _ _ _ => rfl) : mo_Sim 22 60 (ma_load 0 2 61)) (mt_leaf (ms_ild (e := (.iload_n 3, 62, 0, 0, 0)) rfl (fun _ _ _ => rfl) : mo_Sim 22 61 (ma_load 0 3 62)) (mt_leaf (ms_iast (e := (.iastore, 63, 0, 0, 0)) rfl rfl (fun _ _ _ => rfl) : mo_Sim 22 62 (ma_ast 13 0 62 63)) (mt_none))))
set_option maxRecDepth 100000 in
theorem smt22_18 (k : Nat) : ∀ f, mt22_18 k = some f → mo_Sim 22 k f := mt_node (smt22_19 k) (smt22_20 k)
set_option maxRecDepth 100000 in
theorem smt22_22 (k : Nat) : ∀ f, mt22_22 k = some f → mo_Sim 22 k f := mt_leaf (ms_goto (e := (.goto 38, 66, 101, 0, 0)) rfl (fun _ _ _ => rfl) : mo_Sim 22 63 (ma_goto 101)) (mt_leaf (ms_ild (e := (.iload 4, 68, 0, 0, 0)) rfl (fun _ _ _ => rfl) : mo_Sim 22 66 (ma_load 0 4 68)) (mt_leaf (ms_ild (e := (.iload 5, 70, 0, 0, 0)) rfl (fun _ _ _ => rfl) : mo_Sim 22 68 (ma_load 0 5 70)) (mt_leaf (ms_if2 (e := (.if_icmp .ne 14, 73, 84, 0, 0)) rfl (fun _ _ _ => rfl) : mo_Sim 22 70 (ma_if2 .ne 84 70 73)) (mt_none))))
set_option maxRecDepth 100000 in
theorem smt22_23 (k : Nat) : ∀ f, mt22_23 k = some f → mo_Sim 22 k f := mt_leaf (ms_ald (e := (.aload_n 0, 74, 0, 0, 0)) rfl (fun _ _ _ => rfl) : mo_Sim 22 73 (ma_lda 0 74)) (mt_leaf (ms_getf (e := (.getfield 9, 77, 2, 4, 321)) rfl (fun _ _ _ => rfl) : mo_Sim 22 74 (ma_getf 2 4 77)) (mt_leaf (ms_ild (e := (.iload_n 2, 78, 0, 0, 0)) rfl (fun _ _ _ => rfl) : mo_Sim 22 77 (ma_load 0 2 78)) (mt_leaf (ms_ild (e := (.iload 4, 80, 0, 0, 0)) rfl (fun _ _ _ => rfl) : mo_Sim 22 78 (ma_load 0 4 80)) (mt_none))))
set_option maxRecDepth 100000 in
theorem smt22_21 (k : Nat) : ∀ f, mt22_21 k = some f → mo_Sim 22 k f := mt_node (smt22_22 k) (smt22_23 k)
set_option maxRecDepth 100000 in
theorem smt22_17 (k : Nat) : ∀ f, mt22_17 k = some f → mo_Sim 22 k f := mt_node (smt22_18 k) (smt22_21 k)
set_option maxRecDepth 100000 in
theorem smt22_26 (k : Nat) : ∀ f, mt22_26 k = some f → mo_Sim 22 k f := mt_leaf (ms_iast (e := (.iastore, 81, 0, 0, 0)) rfl rfl (fun _ _ _ => rfl) : mo_Sim 22 80 (ma_ast 13 0 80 81)) (mt_leaf (ms_goto (e := (.goto 20, 84, 101, 0, 0)) rfl (fun _ _ _ => rfl) : mo_Sim 22 81 (ma_goto 101)) (mt_leaf (ms_ald (e := (.aload_n 0, 85, 0, 0, 0)) rfl (fun _ _ _ => rfl) : mo_Sim 22 84 (ma_lda 0 85)) (mt_leaf (ms_getf (e := (.getfield 9, 88, 2, 4, 321)) rfl (fun _ _ _ => rfl) : mo_Sim 22 85 (ma_getf 2 4 88)) (mt_none))))
set_option maxRecDepth 100000 in
theorem smt22_27 (k : Nat) : ∀ f, mt22_27 k = some f → mo_Sim 22 k f := mt_leaf (ms_ild (e := (.iload_n 2, 89, 0, 0, 0)) rfl (fun _ _ _ => rfl) : mo_Sim 22 88 (ma_load 0 2 89)) (mt_leaf (ms_ald (e := (.aload_n 0, 90, 0, 0, 0)) rfl (fun _ _ _ => rfl) : mo_Sim 22 89 (ma_lda 0 90)) (mt_leaf (ms_dup (e := (.dup, 91, 0, 0, 0)) rfl (fun _ _ _ => rfl) : mo_Sim 22 90 (ma_dup 91)) (mt_leaf (ms_getf (e := (.getfield 29, 94, 2, 2, 318)) rfl (fun _ _ _ => rfl) : mo_Sim 22 91 (ma_getf 2 2 94)) (mt_none))))
set_option maxRecDepth 100000 in
theorem smt22_25 (k : Nat) : ∀ f, mt22_25 k = some f → mo_Sim 22 k f := mt_node (smt22_26 k) (smt22_27 k)
set_option maxRecDepth 100000 in
theorem smt22_29 (k : Nat) : ∀ f, mt22_29 k = some f → mo_Sim 22 k f := mt_leaf (ms_dx1 (e := (.dup_x1, 95, 0, 0, 0)) rfl (fun _ _ _ => rfl) : mo_Sim 22 94 (ma_dx1 95)) (mt_leaf (ms_pushi (e := (.iconst 1, 96, 0, 0, 0)) rfl (fun _ _ _ => rfl) (by decide) : mo_Sim 22 95 (ma_push (ma_ci (.ofNat 1)) 96)) (mt_leaf (ms_iadd (e := (.iadd, 97, 0, 0, 0)) rfl (fun _ _ _ => rfl) : mo_Sim 22 96 (ma_iadd 96 97)) (mt_leaf (ms_putf (e := (.putfield 29, 100, 2, 2, 318)) rfl rfl (fun _ _ _ => rfl) (Or.inl ⟨rfl, rfl⟩) : mo_Sim 22 97 (ma_putf 2 2 0 100)) (mt_none))))
set_option maxRecDepth 100000 in
theorem smt22_30 (k : Nat) : ∀ f, mt22_30 k = some f → mo_Sim 22 k f := mt_leaf (ms_iast (e := (.iastore, 101, 0, 0, 0)) rfl rfl (fun _ _ _ => rfl) : mo_Sim 22 100 (ma_ast 13 0 100 101)) (mt_leaf (ms_iinc (e := (.iinc 2 (-1), 104, 0, 0, 0)) rfl (fun _ _ _ => rfl) (by decide) : mo_Sim 22 101 (ma_iinc 2 (.negSucc 0) 101 104)) (mt_leaf (ms_goto (e := (.goto (-87), 107, 17, 0, 0)) rfl (fun _ _ _ => rfl) : mo_Sim 22 104 (ma_goto 17)) (mt_leaf (ms_retv (e := (.return_, 108, 0, 0, 0)) rfl rfl (fun _ _ _ => rfl) : mo_Sim 22 107 (ma_retv)) (mt_none))))
set_option maxRecDepth 100000 in
theorem smt22_28 (k : Nat) : ∀ f, mt22_28 k = some f → mo_Sim 22 k f := mt_node (smt22_29 k) (smt22_30 k)
set_option maxRecDepth 100000 in
theorem smt22_24 (k : Nat) : ∀ f, mt22_24 k = some f → mo_Sim 22 k f := mt_node (smt22_25 k) (smt22_28 k)
set_option maxRecDepth 100000 in
theorem smt22_16 (k : Nat) : ∀ f, mt22_16 k = some f → mo_Sim 22 k f := mt_node (smt22_17 k) (smt22_24 k)
set_option maxRecDepth 100000 in
theorem smt22_0 (k : Nat) : ∀ f, mt22_0 k = some f → mo_Sim 22 k f := mt_node (smt22_1 k) (smt22_16 k)
set_option maxRecDepth 100000 in
theorem smt23_4 (k : Nat) : ∀ f, mt23_4 k = some f → mo_Sim 23 k f := mt_leaf (ms_ald (e := (.aload_n 0, 1, 0, 0, 0)) rfl (fun _ _ _ => rfl) : mo_Sim 23 0 (ma_lda 0 1)) (mt_leaf (ms_pushi (e := (.iconst 3, 2, 0, 0, 0)) rfl (fun _ _ _ => rfl) (by decide) : mo_Sim 23 1 (ma_push (ma_ci (.ofNat 3)) 2)) (mt_none))
set_option maxRecDepth 100000 in
theorem smt23_5 (k : Nat) : ∀ f, mt23_5 k = some f → mo_Sim 23 k f := mt_leaf (ms_ald (e := (.aload_n 1, 3, 0, 0, 0)) rfl (fun _ _ _ => rfl) : mo_Sim 23 2 (ma_lda 1 3)) (mt_leaf (ms_getf (e := (.getfield 36, 6, 1, 0, 109)) rfl (fun _ _ _ => rfl) : mo_Sim 23 3 (ma_getf 1 0 6)) (mt_leaf (ms_ald (e := (.aload_n 1, 7, 0, 0, 0)) rfl (fun _ _ _ => rfl) : mo_Sim 23 6 (ma_lda 1 7)) (mt_none)))
set_option maxRecDepth 100000 in
theorem smt23_3 (k : Nat) : ∀ f, mt23_3 k = some f → mo_Sim 23 k f := mt_node (smt23_4 k) (smt23_5 k)
set_option maxRecDepth 100000 in
theorem smt23_7 (k : Nat) : ∀ f, mt23_7 k = some f → mo_Sim 23 k f := mt_leaf (ms_invV (p := 3) (e := (.invokevirtual 19, 10, 27, 0, 801)) rfl rfl (fun _ _ _ => rfl) rfl rfl rfl (by decide) : mo_Sim 23 7 (ma_inv 27 4 4 2 10)) (mt_leaf (ms_pushi (e := (.iconst 0, 11, 0, 0, 0)) rfl (fun _ _ _ => rfl) (by decide) : mo_Sim 23 10 (ma_push (ma_ci (.ofNat 0)) 11)) (mt_none))
set_option maxRecDepth 100000 in
theorem smt23_8 (k : Nat) : ∀ f, mt23_8 k = some f → mo_Sim 23 k f := mt_leaf (ms_ist (e := (.istore_n 2, 12, 0, 0, 0)) rfl (fun _ _ _ => rfl) : mo_Sim 23 11 (ma_stor 0 2 12)) (mt_leaf (ms_ild (e := (.iload_n 2, 13, 0, 0, 0)) rfl (fun _ _ _ => rfl) : mo_Sim 23 12 (ma_load 0 2 13)) (mt_leaf (ms_ald (e := (.aload_n 1, 14, 0, 0, 0)) rfl (fun _ _ _ => rfl) : mo_Sim 23 13 (ma_lda 1 14)) (mt_none)))
set_option maxRecDepth 100000 in
theorem smt23_6 (k : Nat) : ∀ f, mt23_6 k = some f → mo_Sim 23 k f := mt_node (smt23_7 k) (smt23_8 k)
set_option maxRecDepth 100000 in
theorem smt23_2 (k : Nat) : ∀ f, mt23_2 k = some f → mo_Sim 23 k f := mt_node (smt23_3 k) (smt23_6 k)
set_option maxRecDepth 100000 in
theorem smt23_11 (k : Nat) : ∀ f, mt23_11 k = some f → mo_Sim 23 k f := mt_leaf (ms_getf (e := (.getfield 41, 17, 1, 1, 115)) rfl (fun _ _ _ => rfl) : mo_Sim 23 14 (ma_getf 1 1 17)) (mt_leaf (ms_if2 (e := (.if_icmp .ge 53, 20, 70, 0, 0)) rfl (fun _ _ _ => rfl) : mo_Sim 23 17 (ma_if2 .ge 70 17 20)) (mt_none))
set_option maxRecDepth 100000 in
theorem smt23_12 (k : Nat) : ∀ f, mt23_12 k = some f → mo_Sim 23 k f := mt_leaf (ms_ald (e := (.aload_n 1, 21, 0, 0, 0)) rfl (fun _ _ _ => rfl) : mo_Sim 23 20 (ma_lda 1 21)) (mt_leaf (ms_getf (e := (.getfield 44, 24, 1, 2, 120)) rfl (fun _ _ _ => rfl) : mo_Sim 23 21 (ma_getf 1 2 24)) (mt_leaf (ms_ild (e := (.iload_n 2, 25, 0, 0, 0)) rfl (fun _ _ _ => rfl) : mo_Sim 23 24 (ma_load 0 2 25)) (mt_none)))
set_option maxRecDepth 100000 in
theorem smt23_10 (k : Nat) : ∀ f, mt23_10 k = some f → mo_Sim 23 k f := mt_node (smt23_11 k) (smt23_12 k)
set_option maxRecDepth 100000 in
theorem smt23_14 (k : Nat) : ∀ f, mt23_14 k = some f → mo_Sim 23 k f := mt_leaf (ms_iald (e := (.iaload, 26, 0, 0, 0)) rfl (fun _ _ _ => rfl) : mo_Sim 23 25 (ma_iald 25 26)) (mt_leaf (ms_ald (e := (.aload_n 1, 27, 0, 0, 0)) rfl (fun _ _ _ => rfl) : mo_Sim 23 26 (ma_lda 1 27)) (mt_leaf (ms_getf (e := (.getfield 47, 30, 1, 3, 127)) rfl (fun _ _ _ => rfl) : mo_Sim 23 27 (ma_getf 1 3 30)) (mt_none)))
set_option maxRecDepth 100000 in
theorem smt23_15 (k : Nat) : ∀ f, mt23_15 k = some f → mo_Sim 23 k f := mt_leaf (ms_ild (e := (.iload_n 2, 31, 0, 0, 0)) rfl (fun _ _ _ => rfl) : mo_Sim 23 30 (ma_load 0 2 31)) (mt_leaf (ms_iald (e := (.iaload, 32, 0, 0, 0)) rfl (fun _ _ _ => rfl) : mo_Sim 23 31 (ma_iald 31 32)) (mt_leaf (ms_isub (e := (.isub, 33, 0, 0, 0)) rfl (fun _ _ _ => rfl) : mo_Sim 23 32 (ma_isub 32 33)) (mt_none)))
set_option maxRecDepth 100000 in
theorem smt23_13 (k : Nat) : ∀ f, mt23_13 k = some f → mo_Sim 23 k f := mt_node (smt23_14 k) (smt23_15 k)
set_option maxRecDepth 100000 in
theorem smt23_9 (k : Nat) : ∀ f, mt23_9 k = some f → mo_Sim 23 k f := mt_node (smt23_10 k) (smt23_13 k)
set_option maxRecDepth 100000 in
theorem smt23_1 (k : Nat) : ∀ f, mt23_1 k = some f → mo_Sim 23 k f := mt_node (smt23_2 k) (smt23_9 k)
set_option maxRecDepth 100000 in
theorem smt23_19 (k : Nat) : ∀ f, mt23_19 k = some f → mo_Sim 23 k f := mt_leaf (ms_ald (e := (.aload_n 1, 34, 0, 0, 0)) rfl (fun _ _ _ => rfl) : mo_Sim 23 33 (ma_lda 1 34)) (mt_leaf (ms_getf (e := (.getfield 50, 37, 1, 4, 134)) rfl (fun _ _ _ => rfl) : mo_Sim 23 34 (ma_getf 1 4 37)) (mt_none))
set_option maxRecDepth 100000 in
theorem smt23_20 (k : Nat) : ∀ f, mt23_20 k = some f → mo_Sim 23 k f := mt_leaf (ms_ild (e := (.iload_n 2, 38, 0, 0, 0)) rfl (fun _ _ _ => rfl) : mo_Sim 23 37 (ma_load 0 2 38)) (mt_leaf (ms_iald (e := (.iaload, 39, 0, 0, 0)) rfl (fun _ _ _ => rfl) : mo_Sim 23 38 (ma_iald 38 39)) (mt_leaf (ms_iadd (e := (.iadd, 40, 0, 0, 0)) rfl (fun _ _ _ => rfl) : mo_Sim 23 39 (ma_iadd 39 40)) (mt_none)))
set_option maxRecDepth 100000 in
theorem smt23_18 (k : Nat) : ∀ f, mt23_18 k = some f → mo_Sim 23 k f := mt_node (smt23_19 k) (smt23_20 k)
set_option maxRecDepth 100000 in
theorem smt23_22 (k : Nat) : ∀ f, mt23_22 k = some f → mo_Sim 23 k f := mt_leaf (ms_ist (e := (.istore_n 3, 41, 0, 0, 0)) rfl (fun _ _ _ => rfl) : mo_Sim 23 40 (ma_stor 0 3 41)) (mt_leaf (ms_ald (e := (.aload_n 0, 42, 0, 0, 0)) rfl (fun _ _ _ => rfl) : mo_Sim 23 41 (ma_lda 0 42)) (mt_leaf (ms_getf (e := (.getfield 9, 45, 2, 4, 321)) rfl (fun _ _ _ => rfl) : mo_Sim 23 42 (ma_getf 2 4 45)) (mt_none)))
set_option maxRecDepth 100000 in
theorem smt23_23 (k : Nat) : ∀ f, mt23_23 k = some f → mo_Sim 23 k f := mt_leaf (ms_ild (e := (.iload_n 2, 46, 0, 0, 0)) rfl (fun _ _ _ => rfl) : mo_Sim 23 45 (ma_load 0 2 46)) (mt_leaf (ms_ild (e := (.iload_n 3, 47, 0, 0, 0)) rfl (fun _ _ _ => rfl) : mo_Sim 23 46 (ma_load 0 3 47)) (mt_leaf (ms_ald (e := (.aload_n 0, 48, 0, 0, 0)) rfl (fun _ _ _ => rfl) : mo_Sim 23 47 (ma_lda 0 48)) (mt_none)))
set_option maxRecDepth 100000 in
theorem smt23_21 (k : Nat) : ∀ f, mt23_21 k = some f → mo_Sim 23 k f := mt_node (smt23_22 k) (smt23_23 k)
set_option maxRecDepth 100000 in
theorem smt23_17 (k : Nat) : ∀ f, mt23_17 k = some f → mo_Sim 23 k f := mt_node (smt23_18 k) (smt23_21 k)
set_option maxRecDepth 100000 in
theorem smt23_26 (k : Nat) : ∀ f, mt23_26 k = some f → mo_Sim 23 k f := mt_leaf (ms_getf (e := (.getfield 15, 51, 2, 5, 322)) rfl (fun _ _ _ => rfl) : mo_Sim 23 48 (ma_getf 2 5 51)) (mt_leaf (ms_pushi (e := (.iconst 2, 52, 0, 0, 0)) rfl (fun _ _ _ => rfl) (by decide) : mo_Sim 23 51 (ma_push (ma_ci (.ofNat 2)) 52)) (mt_none))
set_option maxRecDepth 100000 in
theorem smt23_27 (k : Nat) : ∀ f, mt23_27 k = some f → mo_Sim 23 k f := mt_leaf (ms_if2 (e := (.if_icmp .ne 7, 55, 59, 0, 0)) rfl (fun _ _ _ => rfl) : mo_Sim 23 52 (ma_if2 .ne 59 52 55)) (mt_leaf (ms_pushi (e := (.iconst 2, 56, 0, 0, 0)) rfl (fun _ _ _ => rfl) (by decide) : mo_Sim 23 55 (ma_push (ma_ci (.ofNat 2)) 56)) (mt_leaf (ms_goto (e := (.goto 4, 59, 60, 0, 0)) rfl (fun _ _ _ => rfl) : mo_Sim 23 56 (ma_goto 60)) (mt_none)))
set_option maxRecDepth 100000 in
theorem smt23_25 (k : Nat) : ∀ f, mt23_25 k = some f → mo_Sim 23 k f := mt_node (smt23_26 k) (smt23_27 k)
set_option maxRecDepth 100000 in
theorem smt23_29 (k : Nat) : ∀ f, mt23_29 k = some f → mo_Sim 23 k f := mt_leaf (ms_pushi (e := (.iconst 3, 60, 0, 0, 0)) rfl (fun _ _ _ => rfl) (by decide) : mo_Sim 23 59 (ma_push (ma_ci (.ofNat 3)) 60)) (mt_leaf (ms_invS (e := (.invokestatic 53, 63, 204, 1, 1011)) rfl rfl (fun _ _ _ => rfl) rfl rfl : mo_Sim 23 60 (ma_inv 204 2 3 20 63)) (mt_leaf (ms_iast (e := (.iastore, 64, 0, 0, 0)) rfl rfl (fun _ _ _ => rfl) : mo_Sim 23 63 (ma_ast 13 0 63 64)) (mt_none)))
set_option maxRecDepth 100000 in
theorem smt23_30 (k : Nat) : ∀ f, mt23_30 k = some f → mo_Sim 23 k f := mt_leaf (ms_iinc (e := (.iinc 2 1, 67, 0, 0, 0)) rfl (fun _ _ _ => rfl) (by decide) : mo_Sim 23 64 (ma_iinc 2 (.ofNat 1) 64 67)) (mt_leaf (ms_goto (e := (.goto (-55), 70, 12, 0, 0)) rfl (fun _ _ _ => rfl) : mo_Sim 23 67 (ma_goto 12)) (mt_leaf (ms_retv (e := (.return_, 71, 0, 0, 0)) rfl rfl (fun _ _ _ => rfl) : mo_Sim 23 70 (ma_retv)) (mt_none)))
set_option maxRecDepth 100000 in
theorem smt23_28 (k : Nat) : ∀ f, mt23_28 k = some f → mo_Sim 23 k f := mt_node (smt23_29 k) (smt23_30 k)
set_option maxRecDepth 100000 in
theorem smt23_24 (k : Nat) : ∀ f, mt23_24 k = some f → mo_Sim 23 k f := mt_node (smt23_25 k) (smt23_28 k)
set_option maxRecDepth 100000 in
theorem smt23_16 (k : Nat) : ∀ f, mt23_16 k = some f → mo_Sim 23 k f := mt_node (smt23_17 k) (smt23_24 k)
set_option maxRecDepth 100000 in
theorem smt23_0 (k : Nat) : ∀ f, mt23_0 k = some f → mo_Sim 23 k f := mt_node (smt23_1 k) (smt23_16 k)
set_option maxRecDepth 100000 in
theorem smt24_3 (k : Nat) : ∀ f, mt24_3 k = some f → mo_Sim 24 k f := mt_leaf (ms_ald (e := (.aload_n 0, 1, 0, 0, 0)) rfl (fun _ _ _ => rfl) : mo_Sim 24 0 (ma_lda 0 1)) (mt_leaf (ms_getf (e := (.getfield 9, 4, 2, 4, 321)) rfl (fun _ _ _ => rfl) : mo_Sim 24 1 (ma_getf 2 4 4)) (mt_none))
set_option maxRecDepth 100000 in
theorem smt24_4 (k : Nat) : ∀ f, mt24_4 k = some f → mo_Sim 24 k f := mt_leaf (ms_ald (e := (.aload_n 1, 5, 0, 0, 0)) rfl (fun _ _ _ => rfl) : mo_Sim 24 4 (ma_lda 1 5)) (mt_leaf (ms_ild (e := (.iload_n 2, 6, 0, 0, 0)) rfl (fun _ _ _ => rfl) : mo_Sim 24 5 (ma_load 0 2 6)) (mt_leaf (ms_iald (e := (.iaload, 7, 0, 0, 0)) rfl (fun _ _ _ => rfl) : mo_Sim 24 6 (ma_iald 6 7)) (mt_none)))
set_option maxRecDepth 100000 in
theorem smt24_2 (k : Nat) : ∀ f, mt24_2 k = some f → mo_Sim 24 k f := mt_node (smt24_3 k) (smt24_4 k)
set_option maxRecDepth 100000 in
theorem smt24_6 (k : Nat) : ∀ f, mt24_6 k = some f → mo_Sim 24 k f := mt_leaf (ms_ald (e := (.aload_n 0, 8, 0, 0, 0)) rfl (fun _ _ _ => rfl) : mo_Sim 24 7 (ma_lda 0 8)) (mt_leaf (ms_getf (e := (.getfield 15, 11, 2, 5, 322)) rfl (fun _ _ _ => rfl) : mo_Sim 24 8 (ma_getf 2 5 11)) (mt_none))
set_option maxRecDepth 100000 in
theorem smt24_7 (k : Nat) : ∀ f, mt24_7 k = some f → mo_Sim 24 k f := mt_leaf (ms_i2 (e := (.imul, 12, 0, 0, 0)) rfl (fun _ _ _ => rfl) hf_mul : mo_Sim 24 11 (ma_i2 ma_fmul 11 12)) (mt_leaf (ms_ald (e := (.aload_n 1, 13, 0, 0, 0)) rfl (fun _ _ _ => rfl) : mo_Sim 24 12 (ma_lda 1 13)) (mt_leaf (ms_ild (e := (.iload_n 3, 14, 0, 0, 0)) rfl (fun _ _ _ => rfl) : mo_Sim 24 13 (ma_load 0 3 14)) (mt_none)))
set_option maxRecDepth 100000 in
theorem smt24_5 (k : Nat) : ∀ f, mt24_5 k = some f → mo_Sim 24 k f := mt_node (smt24_6 k) (smt24_7 k)
set_option maxRecDepth 100000 in
theorem smt24_1 (k : Nat) : ∀ f, mt24_1 k = some f → mo_Sim 24 k f := mt_node (smt24_2 k) (smt24_5 k)
set_option maxRecDepth 100000 in
theorem smt24_10 (k : Nat) : ∀ f, mt24_10 k = some f → mo_Sim 24 k f := mt_leaf (ms_iald (e := (.iaload, 15, 0, 0, 0)) rfl (fun _ _ _ => rfl) : mo_Sim 24 14 (ma_iald 14 15)) (mt_leaf (ms_iadd (e := (.iadd, 16, 0, 0, 0)) rfl (fun _ _ _ => rfl) : mo_Sim 24 15 (ma_iadd 15 16)) (mt_none))
set_option maxRecDepth 100000 in
theorem smt24_11 (k : Nat) : ∀ f, mt24_11 k = some f → mo_Sim 24 k f := mt_leaf (ms_ald (e := (.aload_n 0, 17, 0, 0, 0)) rfl (fun _ _ _ => rfl) : mo_Sim 24 16 (ma_lda 0 17)) (mt_leaf (ms_getf (e := (.getfield 15, 20, 2, 5, 322)) rfl (fun _ _ _ => rfl) : mo_Sim 24 17 (ma_getf 2 5 20)) (mt_leaf (ms_i2 (e := (.imul, 21, 0, 0, 0)) rfl (fun _ _ _ => rfl) hf_mul : mo_Sim 24 20 (ma_i2 ma_fmul 20 21)) (mt_none)))
set_option maxRecDepth 100000 in
theorem smt24_9 (k : Nat) : ∀ f, mt24_9 k = some f → mo_Sim 24 k f := mt_node (smt24_10 k) (smt24_11 k)
set_option maxRecDepth 100000 in
theorem smt24_13 (k : Nat) : ∀ f, mt24_13 k = some f → mo_Sim 24 k f := mt_leaf (ms_ald (e := (.aload_n 1, 22, 0, 0, 0)) rfl (fun _ _ _ => rfl) : mo_Sim 24 21 (ma_lda 1 22)) (mt_leaf (ms_ild (e := (.iload 4, 24, 0, 0, 0)) rfl (fun _ _ _ => rfl) : mo_Sim 24 22 (ma_load 0 4 24)) (mt_leaf (ms_iald (e := (.iaload, 25, 0, 0, 0)) rfl (fun _ _ _ => rfl) : mo_Sim 24 24 (ma_iald 24 25)) (mt_none)))
set_option maxRecDepth 100000 in
theorem smt24_14 (k : Nat) : ∀ f, mt24_14 k = some f → mo_Sim 24 k f := mt_leaf (ms_iadd (e := (.iadd, 26, 0, 0, 0)) rfl (fun _ _ _ => rfl) : mo_Sim 24 25 (ma_iadd 25 26)) (mt_leaf (ms_iald (e := (.iaload, 27, 0, 0, 0)) rfl (fun _ _ _ => rfl) : mo_Sim 24 26 (ma_iald 26 27)) (mt_leaf (ms_ret (e := (.ireturn, 28, 0, 0, 0)) rfl (Or.inl ⟨rfl, rfl, (fun _ _ _ => rfl)⟩) : mo_Sim 24 27 (ma_ret 0)) (mt_none)))
set_option maxRecDepth 100000 in
theorem smt24_12 (k : Nat) : ∀ f, mt24_12 k = some f → mo_Sim 24 k f := mt_node (smt24_13 k) (smt24_14 k)
set_option maxRecDepth 100000 in
theorem smt24_8 (k : Nat) : ∀ f, mt24_8 k = some f → mo_Sim 24 k f := mt_node (smt24_9 k) (smt24_12 k)
set_option maxRecDepth 100000 in
theorem smt24_0 (k : Nat) : ∀ f, mt24_0 k = some f → mo_Sim 24 k f := mt_node (smt24_1 k) (smt24_8 k)
set_option maxRecDepth 100000 in
theorem smt25_4 (k : Nat) : ∀ f, mt25_4 k = some f → mo_Sim 25 k f := mt_leaf (ms_ald (e := (.aload_n 0, 1, 0, 0, 0)) rfl (fun _ _ _ => rfl) : mo_Sim 25 0 (ma_lda 0 1)) (mt_leaf (ms_getf (e := (.getfield 37, 4, 2, 3, 320)) rfl (fun _ _ _ => rfl) : mo_Sim 25 1 (ma_getf 2 3 4)) (mt_leaf (ms_if0 (e := (.ifCond .ne 5, 7, 9, 0, 0)) rfl (fun _ _ _ => rfl) : mo_Sim 25 4 (ma_if0 .ne 9 4 7)) (mt_none)))
set_option maxRecDepth 100000 in
theorem smt25_5 (k : Nat) : ∀ f, mt25_5 k = some f → mo_Sim 25 k f := mt_leaf (ms_pushi (e := (.iconst 1, 8, 0, 0, 0)) rfl (fun _ _ _ => rfl) (by decide) : mo_Sim 25 7 (ma_push (ma_ci (.ofNat 1)) 8)) (mt_leaf (ms_ret (e := (.ireturn, 9, 0, 0, 0)) rfl (Or.inr (Or.inl ⟨rfl, rfl, (fun _ _ _ => rfl)⟩)) : mo_Sim 25 8 (ma_ret 1)) (mt_leaf (ms_pushi (e := (.iconst 0, 10, 0, 0, 0)) rfl (fun _ _ _ => rfl) (by decide) : mo_Sim 25 9 (ma_push (ma_ci (.ofNat 0)) 10)) (mt_none)))
set_option maxRecDepth 100000 in
theorem smt25_3 (k : Nat) : ∀ f, mt25_3 k = some f → mo_Sim 25 k f := mt_node (smt25_4 k) (smt25_5 k)
set_option maxRecDepth 100000 in
theorem smt25_7 (k : Nat) : ∀ f, mt25_7 k = some f → mo_Sim 25 k f := mt_leaf (ms_ist (e := (.istore_n 3, 11, 0, 0, 0)) rfl (fun _ _ _ => rfl) : mo_Sim 25 10 (ma_stor 0 3 11)) (mt_leaf (ms_ild (e := (.iload_n 3, 12, 0, 0, 0)) rfl (fun _ _ _ => rfl) : mo_Sim 25 11 (ma_load 0 3 12)) (mt_leaf (ms_ild (e := (.iload_n 2, 13, 0, 0, 0)) rfl (fun _ _ _ => rfl) : mo_Sim 25 12 (ma_load 0 2 13)) (mt_none)))
set_option maxRecDepth 100000 in
theorem smt25_8 (k : Nat) : ∀ f, mt25_8 k = some f → mo_Sim 25 k f := mt_leaf (ms_if2 (e := (.if_icmp .ge 78, 16, 91, 0, 0)) rfl (fun _ _ _ => rfl) : mo_Sim 25 13 (ma_if2 .ge 91 13 16)) (mt_leaf (ms_pushi (e := (.iconst 0, 17, 0, 0, 0)) rfl (fun _ _ _ => rfl) (by decide) : mo_Sim 25 16 (ma_push (ma_ci (.ofNat 0)) 17)) (mt_leaf (ms_ist (e := (.istore 4, 19, 0, 0, 0)) rfl (fun _ _ _ => rfl) : mo_Sim 25 17 (ma_stor 0 4 19)) (mt_none)))
set_option maxRecDepth 100000 in
theorem smt25_6 (k : Nat) : ∀ f, mt25_6 k = some f → mo_Sim 25 k f := mt_node (smt25_7 k) (smt25_8 k)
set_option maxRecDepth 100000 in
theorem smt25_2 (k : Nat) : ∀ f, mt25_2 k = some f → mo_Sim 25 k f := mt_node (smt25_3 k) (smt25_6 k)
set_option maxRecDepth 100000 in
theorem smt25_11 (k : Nat) : ∀ f, mt25_11 k = some f → mo_Sim 25 k f := mt_leaf (ms_ild (e := (.iload 4, 21, 0, 0, 0)) rfl (fun _ _ _ => rfl) : mo_Sim 25 19 (ma_load 0 4 21)) (mt_leaf (ms_ild (e := (.iload_n 2, 22, 0, 0, 0)) rfl (fun _ _ _ => rfl) : mo_Sim 25 21 (ma_load 0 2 22)) (mt_leaf (ms_if2 (e := (.if_icmp .ge 63, 25, 85, 0, 0)) rfl (fun _ _ _ => rfl) : mo_Sim 25 22 (ma_if2 .ge 85 22 25)) (mt_none)))
set_option maxRecDepth 100000 in
theorem smt25_12 (k : Nat) : ∀ f, mt25_12 k = some f → mo_Sim 25 k f := mt_leaf (ms_pushi (e := (.iconst 0, 26, 0, 0, 0)) rfl (fun _ _ _ => rfl) (by decide) : mo_Sim 25 25 (ma_push (ma_ci (.ofNat 0)) 26)) (mt_leaf (ms_ist (e := (.istore 5, 28, 0, 0, 0)) rfl (fun _ _ _ => rfl) : mo_Sim 25 26 (ma_stor 0 5 28)) (mt_leaf (ms_ild (e := (.iload 5, 30, 0, 0, 0)) rfl (fun _ _ _ => rfl) : mo_Sim 25 28 (ma_load 0 5 30)) (mt_none)))
set_option maxRecDepth 100000 in
theorem smt25_10 (k : Nat) : ∀ f, mt25_10 k = some f → mo_Sim 25 k f := mt_node (smt25_11 k) (smt25_12 k)
set_option maxRecDepth 100000 in
theorem smt25_14 (k : Nat) : ∀ f, mt25_14 k = some f → mo_Sim 25 k f := mt_leaf (ms_ild (e := (.iload_n 2, 31, 0, 0, 0)) rfl (fun _ _ _ => rfl) : mo_Sim 25 30 (ma_load 0 2 31)) (mt_leaf (ms_if2 (e := (.if_icmp .ge 48, 34, 79, 0, 0)) rfl (fun _ _ _ => rfl) : mo_Sim 25 31 (ma_if2 .ge 79 31 34)) (mt_leaf (ms_ald (e := (.aload_n 0, 35, 0, 0, 0)) rfl (fun _ _ _ => rfl) : mo_Sim 25 34 (ma_lda 0 35)) (mt_none)))
set_option maxRecDepth 100000 in
theorem smt25_15 (k : Nat) : ∀ f, mt25_15 k = some f → mo_Sim 25 k f := mt_leaf (ms_ald (e := (.aload_n 1, 36, 0, 0, 0)) rfl (fun _ _ _ => rfl) : mo_Sim 25 35 (ma_lda 1 36)) (mt_leaf (ms_ald (e := (.aload_n 0, 37, 0, 0, 0)) rfl (fun _ _ _ => rfl) : mo_Sim 25 36 (ma_lda 0 37)) (mt_leaf (ms_ald (e := (.aload_n 1, 38, 0, 0, 0)) rfl (fun _ _ _ => rfl) : mo_Sim 25 37 (ma_lda 1 38)) (mt_leaf (ms_ild (e := (.iload_n 3, 39, 0, 0, 0)) rfl (fun _ _ _ => rfl) : mo_Sim 25 38 (ma_load 0 3 39)) (mt_none))))
set_option maxRecDepth 100000 in
theorem smt25_13 (k : Nat) : ∀ f, mt25_13 k = some f → mo_Sim 25 k f := mt_node (smt25_14 k) (smt25_15 k)
set_option maxRecDepth 100000 in
theorem smt25_9 (k : Nat) : ∀ f, mt25_9 k = some f → mo_Sim 25 k f := mt_node (smt25_10 k) (smt25_13 k)
set_option maxRecDepth 100000 in
theorem smt25_1 (k : Nat) : ∀ f, mt25_1 k = some f → mo_Sim 25 k f := mt_node (smt25_2 k) (smt25_9 k)
set_option maxRecDepth 100000 in
theorem smt25_19 (k : Nat) : ∀ f, mt25_19 k = some f → mo_Sim 25 k f := mt_leaf (ms_ild (e := (.iload 4, 41, 0, 0, 0)) rfl (fun _ _ _ => rfl) : mo_Sim 25 39 (ma_load 0 4 41)) (mt_leaf (ms_invV (p := 3) (e := (.invokevirtual 59, 44, 29, 0, 1029)) rfl rfl (fun _ _ _ => rfl) rfl rfl rfl (by decide) : mo_Sim 25 41 (ma_inv 29 4 4 2 44)) (mt_leaf (ms_ild (e := (.iload 5, 46, 0, 0, 0)) rfl (fun _ _ _ => rfl) : mo_Sim 25 44 (ma_load 0 5 46)) (mt_none)))
set_option maxRecDepth 100000 in
theorem smt25_20 (k : Nat) : ∀ f, mt25_20 k = some f → mo_Sim 25 k f := mt_leaf (ms_invV (p := 3) (e := (.invokevirtual 59, 49, 29, 0, 1029)) rfl rfl (fun _ _ _ => rfl) rfl rfl rfl (by decide) : mo_Sim 25 46 (ma_inv 29 4 4 2 49)) (mt_leaf (ms_ist (e := (.istore 6, 51, 0, 0, 0)) rfl (fun _ _ _ => rfl) : mo_Sim 25 49 (ma_stor 0 6 51)) (mt_leaf (ms_ild (e := (.iload 6, 53, 0, 0, 0)) rfl (fun _ _ _ => rfl) : mo_Sim 25 51 (ma_load 0 6 53)) (mt_none)))
set_option maxRecDepth 100000 in
theorem smt25_18 (k : Nat) : ∀ f, mt25_18 k = some f → mo_Sim 25 k f := mt_node (smt25_19 k) (smt25_20 k)
set_option maxRecDepth 100000 in
theorem smt25_22 (k : Nat) : ∀ f, mt25_22 k = some f → mo_Sim 25 k f := mt_leaf (ms_ald (e := (.aload_n 0, 54, 0, 0, 0)) rfl (fun _ _ _ => rfl) : mo_Sim 25 53 (ma_lda 0 54)) (mt_leaf (ms_ald (e := (.aload_n 1, 55, 0, 0, 0)) rfl (fun _ _ _ => rfl) : mo_Sim 25 54 (ma_lda 1 55)) (mt_leaf (ms_ild (e := (.iload_n 3, 56, 0, 0, 0)) rfl (fun _ _ _ => rfl) : mo_Sim 25 55 (ma_load 0 3 56)) (mt_none)))
set_option maxRecDepth 100000 in
theorem smt25_23 (k : Nat) : ∀ f, mt25_23 k = some f → mo_Sim 25 k f := mt_leaf (ms_ald (e := (.aload_n 0, 57, 0, 0, 0)) rfl (fun _ _ _ => rfl) : mo_Sim 25 56 (ma_lda 0 57)) (mt_leaf (ms_ald (e := (.aload_n 1, 58, 0, 0, 0)) rfl (fun _ _ _ => rfl) : mo_Sim 25 57 (ma_lda 1 58)) (mt_leaf (ms_ild (e := (.iload 4, 60, 0, 0, 0)) rfl (fun _ _ _ => rfl) : mo_Sim 25 58 (ma_load 0 4 60)) (mt_leaf (ms_ild (e := (.iload 5, 62, 0, 0, 0)) rfl (fun _ _ _ => rfl) : mo_Sim 25 60 (ma_load 0 5 62)) (mt_none))))
set_option maxRecDepth 100000 in
theorem smt25_21 (k : Nat) : ∀ f, mt25_21 k = some f → mo_Sim 25 k f := mt_node (smt25_22 k) (smt25_23 k)
set_option maxRecDepth 100000 in
theorem smt25_17 (k : Nat) : ∀ f, mt25_17 k = some f → mo_Sim 25 k f := mt_node (smt25_18 k) (smt25_21 k)
set_option maxRecDepth 100000 in
theorem smt25_26 (k : Nat) : ∀ f, mt25_26 k = some f → mo_Sim 25 k f := mt_leaf (ms_invV (p := 3) (e := (.invokevirtual 59, 65, 29, 0, 1029)) rfl rfl (fun _ _ _ => rfl) rfl rfl rfl (by decide) : mo_Sim 25 62 (ma_inv 29 4 4 2 65)) (mt_leaf (ms_invV (p := 3) (e := (.invokevirtual 59, 68, 29, 0, 1029)) rfl rfl (fun _ _ _ => rfl) rfl rfl rfl (by decide) : mo_Sim 25 65 (ma_inv 29 4 4 2 68)) (mt_leaf (ms_if2 (e := (.if_icmp .eq 5, 71, 73, 0, 0)) rfl (fun _ _ _ => rfl) : mo_Sim 25 68 (ma_if2 .eq 73 68 71)) (mt_none)))
set_option maxRecDepth 100000 in
theorem smt25_27 (k : Nat) : ∀ f, mt25_27 k = some f → mo_Sim 25 k f := mt_leaf (ms_pushi (e := (.iconst 0, 72, 0, 0, 0)) rfl (fun _ _ _ => rfl) (by decide) : mo_Sim 25 71 (ma_push (ma_ci (.ofNat 0)) 72)) (mt_leaf (ms_ret (e := (.ireturn, 73, 0, 0, 0)) rfl (Or.inr (Or.inl ⟨rfl, rfl, (fun _ _ _ => rfl)⟩)) : mo_Sim 25 72 (ma_ret 1)) (mt_leaf (ms_iinc (e := (.iinc 5 1, 76, 0, 0, 0)) rfl (fun _ _ _ => rfl) (by decide) : mo_Sim 25 73 (ma_iinc 5 (.ofNat 1) 73 76)) (mt_none)))
set_option maxRecDepth 100000 in
theorem smt25_25 (k : Nat) : ∀ f, mt25_25 k = some f → mo_Sim 25 k f := mt_node (smt25_26 k) (smt25_27 k)
set_option maxRecDepth 100000 in
theorem smt25_29 (k : Nat) : ∀ f, mt25_29 k = some f → mo_Sim 25 k f := mt_leaf (ms_goto (e := (.goto (-48), 79, 28, 0, 0)) rfl (fun _ _ _ => rfl) : mo_Sim 25 76 (ma_goto 28)) (mt_leaf (ms_iinc (e := (.iinc 4 1, 82, 0, 0, 0)) rfl (fun _ _ _ => rfl) (by decide) : mo_Sim 25 79 (ma_iinc 4 (.ofNat 1) 79 82)) (mt_leaf (ms_goto (e := (.goto (-63), 85, 19, 0, 0)) rfl (fun _ _ _ => rfl) : mo_Sim 25 82 (ma_goto 19)) (mt_none)))
set_option maxRecDepth 100000 in
theorem smt25_30 (k : Nat) : ∀ f, mt25_30 k = some f → mo_Sim 25 k f := mt_leaf (ms_iinc (e := (.iinc 3 1, 88, 0, 0, 0)) rfl (fun _ _ _ => rfl) (by decide) : mo_Sim 25 85 (ma_iinc 3 (.ofNat 1) 85 88)) (mt_leaf (ms_goto (e := (.goto (-77), 91, 11, 0, 0)) rfl (fun _ _ _ => rfl) : mo_Sim 25 88 (ma_goto 11)) (mt_leaf (ms_pushi (e := (.iconst 1, 92, 0, 0, 0)) rfl (fun _ _ _ => rfl) (by decide) : mo_Sim 25 91 (ma_push (ma_ci (.ofNat 1)) 92)) (mt_leaf (ms_ret (e := (.ireturn, 93, 0, 0, 0)) rfl (Or.inr (Or.inl ⟨rfl, rfl, (fun _ _ _ => rfl)⟩)) : mo_Sim 25 92 (ma_ret 1)) (mt_none))))
set_option maxRecDepth 100000 in
theorem smt25_28 (k : Nat) : ∀ f, mt25_28 k = some f → mo_Sim 25 k f := mt_node (smt25_29 k) (smt25_30 k)
set_option maxRecDepth 100000 in
theorem smt25_24 (k : Nat) : ∀ f, mt25_24 k = some f → mo_Sim 25 k f := mt_node (smt25_25 k) (smt25_28 k)
set_option maxRecDepth 100000 in
theorem smt25_16 (k : Nat) : ∀ f, mt25_16 k = some f → mo_Sim 25 k f := mt_node (smt25_17 k) (smt25_24 k)
set_option maxRecDepth 100000 in
theorem smt25_0 (k : Nat) : ∀ f, mt25_0 k = some f → mo_Sim 25 k f := mt_node (smt25_1 k) (smt25_16 k)
set_option maxRecDepth 100000 in
theorem smt26_3 (k : Nat) : ∀ f, mt26_3 k = some f → mo_Sim 26 k f := mt_leaf (ms_pushl (e := (.lconst 0, 1, 0, 0, 0)) rfl (fun _ _ _ => rfl) (by decide) : mo_Sim 26 0 (ma_push (ma_cl (.ofNat 0)) 1)) (mt_leaf (ms_lst (e := (.lstore_n 3, 2, 0, 0, 0)) rfl (fun _ _ _ => rfl) : mo_Sim 26 1 (ma_stol 3 2)) (mt_leaf (ms_ald (e := (.aload_n 2, 3, 0, 0, 0)) rfl (fun _ _ _ => rfl) : mo_Sim 26 2 (ma_lda 2 3)) (mt_none)))
set_option maxRecDepth 100000 in
theorem smt26_4 (k : Nat) : ∀ f, mt26_4 k = some f → mo_Sim 26 k f := mt_leaf (ms_ald (e := (.aload_n 0, 4, 0, 0, 0)) rfl (fun _ _ _ => rfl) : mo_Sim 26 3 (ma_lda 0 4)) (mt_leaf (ms_getf (e := (.getfield 63, 7, 2, 0, 315)) rfl (fun _ _ _ => rfl) : mo_Sim 26 4 (ma_getf 2 0 7)) (mt_leaf (ms_invV (p := 1) (e := (.invokevirtual 23, 10, 12, 0, 805)) rfl rfl (fun _ _ _ => rfl) rfl rfl rfl (by decide) : mo_Sim 26 7 (ma_inv 12 2 4 1 10)) (mt_leaf (ms_pushi (e := (.iconst 1, 11, 0, 0, 0)) rfl (fun _ _ _ => rfl) (by decide) : mo_Sim 26 10 (ma_push (ma_ci (.ofNat 1)) 11)) (mt_none))))
set_option maxRecDepth 100000 in
theorem smt26_2 (k : Nat) : ∀ f, mt26_2 k = some f → mo_Sim 26 k f := mt_node (smt26_3 k) (smt26_4 k)
set_option maxRecDepth 100000 in
theorem smt26_6 (k : Nat) : ∀ f, mt26_6 k = some f → mo_Sim 26 k f := mt_leaf (ms_isub (e := (.isub, 12, 0, 0, 0)) rfl (fun _ _ _ => rfl) : mo_Sim 26 11 (ma_isub 11 12)) (mt_leaf (ms_ist (e := (.istore 5, 14, 0, 0, 0)) rfl (fun _ _ _ => rfl) : mo_Sim 26 12 (ma_stor 0 5 14)) (mt_leaf (ms_ild (e := (.iload 5, 16, 0, 0, 0)) rfl (fun _ _ _ => rfl) : mo_Sim 26 14 (ma_load 0 5 16)) (mt_none)))
set_option maxRecDepth 100000 in
theorem smt26_7 (k : Nat) : ∀ f, mt26_7 k = some f → mo_Sim 26 k f := mt_leaf (ms_if0 (e := (.ifCond .lt 28, 19, 44, 0, 0)) rfl (fun _ _ _ => rfl) : mo_Sim 26 16 (ma_if0 .lt 44 16 19)) (mt_leaf (ms_lld (e := (.lload_n 3, 20, 0, 0, 0)) rfl (fun _ _ _ => rfl) : mo_Sim 26 19 (ma_load 2 3 20)) (mt_leaf (ms_ald (e := (.aload_n 2, 21, 0, 0, 0)) rfl (fun _ _ _ => rfl) : mo_Sim 26 20 (ma_lda 2 21)) (mt_leaf (ms_getf (e := (.getfield 36, 24, 1, 0, 109)) rfl (fun _ _ _ => rfl) : mo_Sim 26 21 (ma_getf 1 0 24)) (mt_none))))
set_option maxRecDepth 100000 in
theorem smt26_5 (k : Nat) : ∀ f, mt26_5 k = some f → mo_Sim 26 k f := mt_node (smt26_6 k) (smt26_7 k)
set_option maxRecDepth 100000 in
theorem smt26_1 (k : Nat) : ∀ f, mt26_1 k = some f → mo_Sim 26 k f := mt_node (smt26_2 k) (smt26_5 k)
set_option maxRecDepth 100000 in
theorem smt26_10 (k : Nat) : ∀ f, mt26_10 k = some f → mo_Sim 26 k f := mt_leaf (ms_i2l (e := (.i2l, 25, 0, 0, 0)) rfl (fun _ _ _ => rfl) : mo_Sim 26 24 (ma_i2l 25)) (mt_leaf (ms_l2 (e := (.lmul, 26, 0, 0, 0)) rfl (fun _ _ _ => rfl) hg_mul : mo_Sim 26 25 (ma_l2 ma_gmul 26)) (mt_leaf (ms_ald (e := (.aload_n 1, 27, 0, 0, 0)) rfl (fun _ _ _ => rfl) : mo_Sim 26 26 (ma_lda 1 27)) (mt_none)))
set_option maxRecDepth 100000 in
theorem smt26_11 (k : Nat) : ∀ f, mt26_11 k = some f → mo_Sim 26 k f := mt_leaf (ms_ald (e := (.aload_n 0, 28, 0, 0, 0)) rfl (fun _ _ _ => rfl) : mo_Sim 26 27 (ma_lda 0 28)) (mt_leaf (ms_getf (e := (.getfield 9, 31, 2, 4, 321)) rfl (fun _ _ _ => rfl) : mo_Sim 26 28 (ma_getf 2 4 31)) (mt_leaf (ms_ild (e := (.iload 5, 33, 0, 0, 0)) rfl (fun _ _ _ => rfl) : mo_Sim 26 31 (ma_load 0 5 33)) (mt_leaf (ms_iald (e := (.iaload, 34, 0, 0, 0)) rfl (fun _ _ _ => rfl) : mo_Sim 26 33 (ma_iald 33 34)) (mt_none))))
set_option maxRecDepth 100000 in
theorem smt26_9 (k : Nat) : ∀ f, mt26_9 k = some f → mo_Sim 26 k f := mt_node (smt26_10 k) (smt26_11 k)
set_option maxRecDepth 100000 in
theorem smt26_13 (k : Nat) : ∀ f, mt26_13 k = some f → mo_Sim 26 k f := mt_leaf (ms_iald (e := (.iaload, 35, 0, 0, 0)) rfl (fun _ _ _ => rfl) : mo_Sim 26 34 (ma_iald 34 35)) (mt_leaf (ms_i2l (e := (.i2l, 36, 0, 0, 0)) rfl (fun _ _ _ => rfl) : mo_Sim 26 35 (ma_i2l 36)) (mt_leaf (ms_l2 (e := (.ladd, 37, 0, 0, 0)) rfl (fun _ _ _ => rfl) hg_add : mo_Sim 26 36 (ma_l2 ma_gadd 37)) (mt_leaf (ms_lst (e := (.lstore_n 3, 38, 0, 0, 0)) rfl (fun _ _ _ => rfl) : mo_Sim 26 37 (ma_stol 3 38)) (mt_none))))
set_option maxRecDepth 100000 in
theorem smt26_14 (k : Nat) : ∀ f, mt26_14 k = some f → mo_Sim 26 k f := mt_leaf (ms_iinc (e := (.iinc 5 (-1), 41, 0, 0, 0)) rfl (fun _ _ _ => rfl) (by decide) : mo_Sim 26 38 (ma_iinc 5 (.negSucc 0) 38 41)) (mt_leaf (ms_goto (e := (.goto (-27), 44, 14, 0, 0)) rfl (fun _ _ _ => rfl) : mo_Sim 26 41 (ma_goto 14)) (mt_leaf (ms_lld (e := (.lload_n 3, 45, 0, 0, 0)) rfl (fun _ _ _ => rfl) : mo_Sim 26 44 (ma_load 2 3 45)) (mt_leaf (ms_ret (e := (.lreturn, 46, 0, 0, 0)) rfl (Or.inr (Or.inr (Or.inr ⟨rfl, rfl, (fun _ _ _ => rfl)⟩))) : mo_Sim 26 45 (ma_ret 3)) (mt_none))))
set_option maxRecDepth 100000 in
theorem smt26_12 (k : Nat) : ∀ f, mt26_12 k = some f → mo_Sim 26 k f := mt_node (smt26_13 k) (smt26_14 k)
set_option maxRecDepth 100000 in
theorem smt26_8 (k : Nat) : ∀ f, mt26_8 k = some f → mo_Sim 26 k f := mt_node (smt26_9 k) (smt26_12 k)
set_option maxRecDepth 100000 in
theorem smt26_0 (k : Nat) : ∀ f, mt26_0 k = some f → mo_Sim 26 k f := mt_node (smt26_1 k) (smt26_8 k)
set_option maxRecDepth 100000 in
theorem smt27_2 (k : Nat) : ∀ f, mt27_2 k = some f → mo_Sim 27 k f := mt_leaf (ms_ald (e := (.aload_n 0, 1, 0, 0, 0)) rfl (fun _ _ _ => rfl) : mo_Sim 27 0 (ma_lda 0 1)) (mt_leaf (ms_ald (e := (.aload_n 3, 2, 0, 0, 0)) rfl (fun _ _ _ => rfl) : mo_Sim 27 1 (ma_lda 3 2)) (mt_leaf (ms_getf (e := (.getfield 36, 5, 1, 0, 109)) rfl (fun _ _ _ => rfl) : mo_Sim 27 2 (ma_getf 1 0 5)) (mt_leaf (ms_putf (e := (.putfield 15, 8, 2, 5, 322)) rfl rfl (fun _ _ _ => rfl) (Or.inl ⟨rfl, rfl⟩) : mo_Sim 27 5 (ma_putf 2 5 0 8)) (mt_none))))
set_option maxRecDepth 100000 in
theorem smt27_3 (k : Nat) : ∀ f, mt27_3 k = some f → mo_Sim 27 k f := mt_leaf (ms_ald (e := (.aload_n 0, 9, 0, 0, 0)) rfl (fun _ _ _ => rfl) : mo_Sim 27 8 (ma_lda 0 9)) (mt_leaf (ms_ild (e := (.iload_n 1, 10, 0, 0, 0)) rfl (fun _ _ _ => rfl) : mo_Sim 27 9 (ma_load 0 1 10)) (mt_leaf (ms_putf (e := (.putfield 63, 13, 2, 0, 315)) rfl rfl (fun _ _ _ => rfl) (Or.inl ⟨rfl, rfl⟩) : mo_Sim 27 10 (ma_putf 2 0 0 13)) (mt_leaf (ms_ald (e := (.aload_n 0, 14, 0, 0, 0)) rfl (fun _ _ _ => rfl) : mo_Sim 27 13 (ma_lda 0 14)) (mt_none))))
set_option maxRecDepth 100000 in
theorem smt27_1 (k : Nat) : ∀ f, mt27_1 k = some f → mo_Sim 27 k f := mt_node (smt27_2 k) (smt27_3 k)
set_option maxRecDepth 100000 in
theorem smt27_5 (k : Nat) : ∀ f, mt27_5 k = some f → mo_Sim 27 k f := mt_leaf (ms_ild (e := (.iload_n 2, 15, 0, 0, 0)) rfl (fun _ _ _ => rfl) : mo_Sim 27 14 (ma_load 0 2 15)) (mt_leaf (ms_putf (e := (.putfield 66, 18, 2, 1, 317)) rfl rfl (fun _ _ _ => rfl) (Or.inl ⟨rfl, rfl⟩) : mo_Sim 27 15 (ma_putf 2 1 0 18)) (mt_leaf (ms_ald (e := (.aload_n 0, 19, 0, 0, 0)) rfl (fun _ _ _ => rfl) : mo_Sim 27 18 (ma_lda 0 19)) (mt_leaf (ms_ild (e := (.iload_n 2, 20, 0, 0, 0)) rfl (fun _ _ _ => rfl) : mo_Sim 27 19 (ma_load 0 2 20)) (mt_none))))
set_option maxRecDepth 100000 in
theorem smt27_7 (k : Nat) : ∀ f, mt27_7 k = some f → mo_Sim 27 k f := mt_leaf (ms_putf (e := (.putfield 29, 23, 2, 2, 318)) rfl rfl (fun _ _ _ => rfl) (Or.inl ⟨rfl, rfl⟩) : mo_Sim 27 20 (ma_putf 2 2 0 23)) (mt_leaf (ms_ald (e := (.aload_n 0, 24, 0, 0, 0)) rfl (fun _ _ _ => rfl) : mo_Sim 27 23 (ma_lda 0 24)) (mt_none))
set_option maxRecDepth 100000 in
theorem smt27_8 (k : Nat) : ∀ f, mt27_8 k = some f → mo_Sim 27 k f := mt_leaf (ms_pushi (e := (.iconst 0, 25, 0, 0, 0)) rfl (fun _ _ _ => rfl) (by decide) : mo_Sim 27 24 (ma_push (ma_ci (.ofNat 0)) 25)) (mt_leaf (ms_putf (e := (.putfield 37, 28, 2, 3, 320)) rfl rfl (fun _ _ _ => rfl) (Or.inr (Or.inl ⟨rfl, rfl⟩)) : mo_Sim 27 25 (ma_putf 2 3 1 28)) (mt_leaf (ms_retv (e := (.return_, 29, 0, 0, 0)) rfl rfl (fun _ _ _ => rfl) : mo_Sim 27 28 (ma_retv)) (mt_none)))
set_option maxRecDepth 100000 in
theorem smt27_6 (k : Nat) : ∀ f, mt27_6 k = some f → mo_Sim 27 k f := mt_node (smt27_7 k) (smt27_8 k)
set_option maxRecDepth 100000 in
theorem smt27_4 (k : Nat) : ∀ f, mt27_4 k = some f → mo_Sim 27 k f := mt_node (smt27_5 k) (smt27_6 k)
set_option maxRecDepth 100000 in
theorem smt27_0 (k : Nat) : ∀ f, mt27_0 k = some f → mo_Sim 27 k f := mt_node (smt27_1 k) (smt27_4 k)
set_option maxRecDepth 100000 in
theorem smt28_3 (k : Nat) : ∀ f, mt28_3 k = some f → mo_Sim 28 k f := mt_leaf (ms_ald (e := (.aload_n 1, 1, 0, 0, 0)) rfl (fun _ _ _ => rfl) : mo_Sim 28 0 (ma_lda 1 1)) (mt_leaf (ms_ald (e := (.aload_n 0, 2, 0, 0, 0)) rfl (fun _ _ _ => rfl) : mo_Sim 28 1 (ma_lda 0 2)) (mt_leaf (ms_getf (e := (.getfield 63, 5, 2, 0, 315)) rfl (fun _ _ _ => rfl) : mo_Sim 28 2 (ma_getf 2 0 5)) (mt_none)))
set_option maxRecDepth 100000 in
theorem smt28_4 (k : Nat) : ∀ f, mt28_4 k = some f → mo_Sim 28 k f := mt_leaf (ms_invV (p := 1) (e := (.invokevirtual 23, 8, 12, 0, 805)) rfl rfl (fun _ _ _ => rfl) rfl rfl rfl (by decide) : mo_Sim 28 5 (ma_inv 12 2 4 1 8)) (mt_leaf (ms_ist (e := (.istore_n 2, 9, 0, 0, 0)) rfl (fun _ _ _ => rfl) : mo_Sim 28 8 (ma_stor 0 2 9)) (mt_leaf (ms_ild (e := (.iload_n 2, 10, 0, 0, 0)) rfl (fun _ _ _ => rfl) : mo_Sim 28 9 (ma_load 0 2 10)) (mt_none)))
set_option maxRecDepth 100000 in
theorem smt28_2 (k : Nat) : ∀ f, mt28_2 k = some f → mo_Sim 28 k f := mt_node (smt28_3 k) (smt28_4 k)
set_option maxRecDepth 100000 in
theorem smt28_6 (k : Nat) : ∀ f, mt28_6 k = some f → mo_Sim 28 k f := mt_leaf (ms_ist (e := (.istore_n 3, 11, 0, 0, 0)) rfl (fun _ _ _ => rfl) : mo_Sim 28 10 (ma_stor 0 3 11)) (mt_leaf (ms_ild (e := (.iload_n 3, 12, 0, 0, 0)) rfl (fun _ _ _ => rfl) : mo_Sim 28 11 (ma_load 0 3 12)) (mt_leaf (ms_ald (e := (.aload_n 1, 13, 0, 0, 0)) rfl (fun _ _ _ => rfl) : mo_Sim 28 12 (ma_lda 1 13)) (mt_none)))
set_option maxRecDepth 100000 in
theorem smt28_7 (k : Nat) : ∀ f, mt28_7 k = some f → mo_Sim 28 k f := mt_leaf (ms_getf (e := (.getfield 41, 16, 1, 1, 115)) rfl (fun _ _ _ => rfl) : mo_Sim 28 13 (ma_getf 1 1 16)) (mt_leaf (ms_if2 (e := (.if_icmp .ge 23, 19, 39, 0, 0)) rfl (fun _ _ _ => rfl) : mo_Sim 28 16 (ma_if2 .ge 39 16 19)) (mt_leaf (ms_ald (e := (.aload_n 0, 20, 0, 0, 0)) rfl (fun _ _ _ => rfl) : mo_Sim 28 19 (ma_lda 0 20)) (mt_none)))
set_option maxRecDepth 100000 in
theorem smt28_5 (k : Nat) : ∀ f, mt28_5 k = some f → mo_Sim 28 k f := mt_node (smt28_6 k) (smt28_7 k)
set_option maxRecDepth 100000 in
theorem smt28_1 (k : Nat) : ∀ f, mt28_1 k = some f → mo_Sim 28 k f := mt_node (smt28_2 k) (smt28_5 k)
set_option maxRecDepth 100000 in
theorem smt28_10 (k : Nat) : ∀ f, mt28_10 k = some f → mo_Sim 28 k f := mt_leaf (ms_getf (e := (.getfield 9, 23, 2, 4, 321)) rfl (fun _ _ _ => rfl) : mo_Sim 28 20 (ma_getf 2 4 23)) (mt_leaf (ms_ild (e := (.iload_n 3, 24, 0, 0, 0)) rfl (fun _ _ _ => rfl) : mo_Sim 28 23 (ma_load 0 3 24)) (mt_leaf (ms_ald (e := (.aload_n 0, 25, 0, 0, 0)) rfl (fun _ _ _ => rfl) : mo_Sim 28 24 (ma_lda 0 25)) (mt_none)))
set_option maxRecDepth 100000 in
theorem smt28_11 (k : Nat) : ∀ f, mt28_11 k = some f → mo_Sim 28 k f := mt_leaf (ms_getf (e := (.getfield 9, 28, 2, 4, 321)) rfl (fun _ _ _ => rfl) : mo_Sim 28 25 (ma_getf 2 4 28)) (mt_leaf (ms_ild (e := (.iload_n 3, 29, 0, 0, 0)) rfl (fun _ _ _ => rfl) : mo_Sim 28 28 (ma_load 0 3 29)) (mt_leaf (ms_ild (e := (.iload_n 2, 30, 0, 0, 0)) rfl (fun _ _ _ => rfl) : mo_Sim 28 29 (ma_load 0 2 30)) (mt_none)))
set_option maxRecDepth 100000 in
theorem smt28_9 (k : Nat) : ∀ f, mt28_9 k = some f → mo_Sim 28 k f := mt_node (smt28_10 k) (smt28_11 k)
set_option maxRecDepth 100000 in
theorem smt28_13 (k : Nat) : ∀ f, mt28_13 k = some f → mo_Sim 28 k f := mt_leaf (ms_isub (e := (.isub, 31, 0, 0, 0)) rfl (fun _ _ _ => rfl) : mo_Sim 28 30 (ma_isub 30 31)) (mt_leaf (ms_iald (e := (.iaload, 32, 0, 0, 0)) rfl (fun _ _ _ => rfl) : mo_Sim 28 31 (ma_iald 31 32)) (mt_leaf (ms_iast (e := (.iastore, 33, 0, 0, 0)) rfl rfl (fun _ _ _ => rfl) : mo_Sim 28 32 (ma_ast 13 0 32 33)) (mt_none)))
set_option maxRecDepth 100000 in
theorem smt28_14 (k : Nat) : ∀ f, mt28_14 k = some f → mo_Sim 28 k f := mt_leaf (ms_iinc (e := (.iinc 3 1, 36, 0, 0, 0)) rfl (fun _ _ _ => rfl) (by decide) : mo_Sim 28 33 (ma_iinc 3 (.ofNat 1) 33 36)) (mt_leaf (ms_goto (e := (.goto (-25), 39, 11, 0, 0)) rfl (fun _ _ _ => rfl) : mo_Sim 28 36 (ma_goto 11)) (mt_leaf (ms_retv (e := (.return_, 40, 0, 0, 0)) rfl rfl (fun _ _ _ => rfl) : mo_Sim 28 39 (ma_retv)) (mt_none)))
set_option maxRecDepth 100000 in
theorem smt28_12 (k : Nat) : ∀ f, mt28_12 k = some f → mo_Sim 28 k f := mt_node (smt28_13 k) (smt28_14 k)
set_option maxRecDepth 100000 in
theorem smt28_8 (k : Nat) : ∀ f, mt28_8 k = some f → mo_Sim 28 k f := mt_node (smt28_9 k) (smt28_12 k)
set_option maxRecDepth 100000 in
theorem smt28_0 (k : Nat) : ∀ f, mt28_0 k = some f → mo_Sim 28 k f := mt_node (smt28_1 k) (smt28_8 k)
set_option maxRecDepth 100000 in
theorem smt29_2 (k : Nat) : ∀ f, mt29_2 k = some f → mo_Sim 29 k f := mt_leaf (ms_ald (e := (.aload_n 1, 1, 0, 0, 0)) rfl (fun _ _ _ => rfl) : mo_Sim 29 0 (ma_lda 1 1)) (mt_leaf (ms_ald (e := (.aload_n 0, 2, 0, 0, 0)) rfl (fun _ _ _ => rfl) : mo_Sim 29 1 (ma_lda 0 2)) (mt_leaf (ms_getf (e := (.getfield 9, 5, 2, 4, 321)) rfl (fun _ _ _ => rfl) : mo_Sim 29 2 (ma_getf 2 4 5)) (mt_none)))
set_option maxRecDepth 100000 in
theorem smt29_3 (k : Nat) : ∀ f, mt29_3 k = some f → mo_Sim 29 k f := mt_leaf (ms_ild (e := (.iload_n 2, 6, 0, 0, 0)) rfl (fun _ _ _ => rfl) : mo_Sim 29 5 (ma_load 0 2 6)) (mt_leaf (ms_ald (e := (.aload_n 0, 7, 0, 0, 0)) rfl (fun _ _ _ => rfl) : mo_Sim 29 6 (ma_lda 0 7)) (mt_leaf (ms_getf (e := (.getfield 15, 10, 2, 5, 322)) rfl (fun _ _ _ => rfl) : mo_Sim 29 7 (ma_getf 2 5 10)) (mt_none)))
set_option maxRecDepth 100000 in
theorem smt29_1 (k : Nat) : ∀ f, mt29_1 k = some f → mo_Sim 29 k f := mt_node (smt29_2 k) (smt29_3 k)
set_option maxRecDepth 100000 in
theorem smt29_5 (k : Nat) : ∀ f, mt29_5 k = some f → mo_Sim 29 k f := mt_leaf (ms_i2 (e := (.imul, 11, 0, 0, 0)) rfl (fun _ _ _ => rfl) hf_mul : mo_Sim 29 10 (ma_i2 ma_fmul 10 11)) (mt_leaf (ms_ild (e := (.iload_n 3, 12, 0, 0, 0)) rfl (fun _ _ _ => rfl) : mo_Sim 29 11 (ma_load 0 3 12)) (mt_leaf (ms_iadd (e := (.iadd, 13, 0, 0, 0)) rfl (fun _ _ _ => rfl) : mo_Sim 29 12 (ma_iadd 12 13)) (mt_none)))
set_option maxRecDepth 100000 in
theorem smt29_6 (k : Nat) : ∀ f, mt29_6 k = some f → mo_Sim 29 k f := mt_leaf (ms_iald (e := (.iaload, 14, 0, 0, 0)) rfl (fun _ _ _ => rfl) : mo_Sim 29 13 (ma_iald 13 14)) (mt_leaf (ms_iald (e := (.iaload, 15, 0, 0, 0)) rfl (fun _ _ _ => rfl) : mo_Sim 29 14 (ma_iald 14 15)) (mt_leaf (ms_ret (e := (.ireturn, 16, 0, 0, 0)) rfl (Or.inl ⟨rfl, rfl, (fun _ _ _ => rfl)⟩) : mo_Sim 29 15 (ma_ret 0)) (mt_none)))
set_option maxRecDepth 100000 in
theorem smt29_4 (k : Nat) : ∀ f, mt29_4 k = some f → mo_Sim 29 k f := mt_node (smt29_5 k) (smt29_6 k)
set_option maxRecDepth 100000 in
theorem smt29_0 (k : Nat) : ∀ f, mt29_0 k = some f → mo_Sim 29 k f := mt_node (smt29_1 k) (smt29_4 k)
set_option maxRecDepth 100000 in
theorem smt30_2 (k : Nat) : ∀ f, mt30_2 k = some f → mo_Sim 30 k f := mt_leaf (ms_ald (e := (.aload_n 0, 1, 0, 0, 0)) rfl (fun _ _ _ => rfl) : mo_Sim 30 0 (ma_lda 0 1)) (mt_leaf (ms_obj (e := (.invokespecial 3, 4, 0, 4, 341)) rfl (fun _ _ _ => rfl) : mo_Sim 30 1 (ma_obj 4)) (mt_leaf (ms_ald (e := (.aload_n 0, 5, 0, 0, 0)) rfl (fun _ _ _ => rfl) : mo_Sim 30 4 (ma_lda 0 5)) (mt_none)))
set_option maxRecDepth 100000 in
theorem smt30_3 (k : Nat) : ∀ f, mt30_3 k = some f → mo_Sim 30 k f := mt_leaf (ms_ild (e := (.iload_n 1, 6, 0, 0, 0)) rfl (fun _ _ _ => rfl) : mo_Sim 30 5 (ma_load 0 1 6)) (mt_leaf (ms_pushi (e := (.iconst 0, 7, 0, 0, 0)) rfl (fun _ _ _ => rfl) (by decide) : mo_Sim 30 6 (ma_push (ma_ci (.ofNat 0)) 7)) (mt_leaf (ms_invS (e := (.invokestatic 9, 10, 205, 1, 342)) rfl rfl (fun _ _ _ => rfl) rfl rfl : mo_Sim 30 7 (ma_inv 205 2 2 20 10)) (mt_none)))
set_option maxRecDepth 100000 in
theorem smt30_1 (k : Nat) : ∀ f, mt30_1 k = some f → mo_Sim 30 k f := mt_node (smt30_2 k) (smt30_3 k)
set_option maxRecDepth 100000 in
theorem smt30_5 (k : Nat) : ∀ f, mt30_5 k = some f → mo_Sim 30 k f := mt_leaf (ms_pushi (e := (.bipush 64, 12, 0, 0, 0)) rfl (fun _ _ _ => rfl) (by decide) : mo_Sim 30 10 (ma_push (ma_ci (.ofNat 64)) 12)) (mt_leaf (ms_id (e := (.idiv, 13, 0, 0, 0)) rfl (fun _ _ _ => rfl) hf_div : mo_Sim 30 12 (ma_i2 ma_fdiv 12 13)) (mt_leaf (ms_pushi (e := (.iconst 1, 14, 0, 0, 0)) rfl (fun _ _ _ => rfl) (by decide) : mo_Sim 30 13 (ma_push (ma_ci (.ofNat 1)) 14)) (mt_none)))
set_option maxRecDepth 100000 in
theorem smt30_6 (k : Nat) : ∀ f, mt30_6 k = some f → mo_Sim 30 k f := mt_leaf (ms_iadd (e := (.iadd, 15, 0, 0, 0)) rfl (fun _ _ _ => rfl) : mo_Sim 30 14 (ma_iadd 14 15)) (mt_leaf (ms_newaL (e := (.newarray .long, 17, 0, 0, 0)) rfl rfl (fun _ _ _ => rfl) : mo_Sim 30 15 (ma_newa 14 (ma_cl (.ofNat 0)) 17)) (mt_leaf (ms_putf (e := (.putfield 15, 20, 3, 0, 345)) rfl rfl (fun _ _ _ => rfl) (Or.inr (Or.inr (Or.inl ⟨rfl, Or.inr ⟨_, rfl⟩⟩))) : mo_Sim 30 17 (ma_putf 3 0 2 20)) (mt_leaf (ms_retv (e := (.return_, 21, 0, 0, 0)) rfl rfl (fun _ _ _ => rfl) : mo_Sim 30 20 (ma_retv)) (mt_none))))
set_option maxRecDepth 100000 in
theorem smt30_4 (k : Nat) : ∀ f, mt30_4 k = some f → mo_Sim 30 k f := mt_node (smt30_5 k) (smt30_6 k)
set_option maxRecDepth 100000 in
theorem smt30_0 (k : Nat) : ∀ f, mt30_0 k = some f → mo_Sim 30 k f := mt_node (smt30_1 k) (smt30_4 k)
set_option maxRecDepth 100000 in
theorem smt31_1 (k : Nat) : ∀ f, mt31_1 k = some f → mo_Sim 31 k f := mt_leaf (ms_ald (e := (.aload_n 0, 1, 0, 0, 0)) rfl (fun _ _ _ => rfl) : mo_Sim 31 0 (ma_lda 0 1)) (mt_leaf (ms_getf (e := (.getfield 15, 4, 3, 0, 345)) rfl (fun _ _ _ => rfl) : mo_Sim 31 1 (ma_getf 3 0 4)) (mt_leaf (ms_pushl (e := (.lconst 0, 5, 0, 0, 0)) rfl (fun _ _ _ => rfl) (by decide) : mo_Sim 31 4 (ma_push (ma_cl (.ofNat 0)) 5)) (mt_leaf (ms_invS (e := (.invokestatic 21, 8, 207, 1, 849)) rfl rfl (fun _ _ _ => rfl) rfl rfl : mo_Sim 31 5 (ma_inv 207 2 5 20 8)) (mt_none))))
set_option maxRecDepth 100000 in
theorem smt31_2 (k : Nat) : ∀ f, mt31_2 k = some f → mo_Sim 31 k f := mt_leaf (ms_ald (e := (.aload_n 0, 9, 0, 0, 0)) rfl (fun _ _ _ => rfl) : mo_Sim 31 8 (ma_lda 0 9)) (mt_leaf (ms_pushi (e := (.iconst 0, 10, 0, 0, 0)) rfl (fun _ _ _ => rfl) (by decide) : mo_Sim 31 9 (ma_push (ma_ci (.ofNat 0)) 10)) (mt_leaf (ms_putf (e := (.putfield 27, 13, 3, 1, 346)) rfl rfl (fun _ _ _ => rfl) (Or.inl ⟨rfl, rfl⟩) : mo_Sim 31 10 (ma_putf 3 1 0 13)) (mt_leaf (ms_retv (e := (.return_, 14, 0, 0, 0)) rfl rfl (fun _ _ _ => rfl) : mo_Sim 31 13 (ma_retv)) (mt_none))))
set_option maxRecDepth 100000 in
theorem smt31_0 (k : Nat) : ∀ f, mt31_0 k = some f → mo_Sim 31 k f := mt_node (smt31_1 k) (smt31_2 k)
set_option maxRecDepth 100000 in
theorem smt32_3 (k : Nat) : ∀ f, mt32_3 k = some f → mo_Sim 32 k f := mt_leaf (ms_ild (e := (.iload_n 1, 1, 0, 0, 0)) rfl (fun _ _ _ => rfl) : mo_Sim 32 0 (ma_load 0 1 1)) (mt_leaf (ms_pushi (e := (.bipush 6, 3, 0, 0, 0)) rfl (fun _ _ _ => rfl) (by decide) : mo_Sim 32 1 (ma_push (ma_ci (.ofNat 6)) 3)) (mt_leaf (ms_i2 (e := (.ishr, 4, 0, 0, 0)) rfl (fun _ _ _ => rfl) hf_shr : mo_Sim 32 3 (ma_i2 ma_fshr 3 4)) (mt_none)))
set_option maxRecDepth 100000 in
theorem smt32_4 (k : Nat) : ∀ f, mt32_4 k = some f → mo_Sim 32 k f := mt_leaf (ms_ist (e := (.istore_n 2, 5, 0, 0, 0)) rfl (fun _ _ _ => rfl) : mo_Sim 32 4 (ma_stor 0 2 5)) (mt_leaf (ms_ild (e := (.iload_n 2, 6, 0, 0, 0)) rfl (fun _ _ _ => rfl) : mo_Sim 32 5 (ma_load 0 2 6)) (mt_leaf (ms_if0 (e := (.ifCond .lt 37, 9, 43, 0, 0)) rfl (fun _ _ _ => rfl) : mo_Sim 32 6 (ma_if0 .lt 43 6 9)) (mt_leaf (ms_ild (e := (.iload_n 2, 10, 0, 0, 0)) rfl (fun _ _ _ => rfl) : mo_Sim 32 9 (ma_load 0 2 10)) (mt_none))))
set_option maxRecDepth 100000 in
theorem smt32_2 (k : Nat) : ∀ f, mt32_2 k = some f → mo_Sim 32 k f := mt_node (smt32_3 k) (smt32_4 k)
set_option maxRecDepth 100000 in
theorem smt32_6 (k : Nat) : ∀ f, mt32_6 k = some f → mo_Sim 32 k f := mt_leaf (ms_ald (e := (.aload_n 0, 11, 0, 0, 0)) rfl (fun _ _ _ => rfl) : mo_Sim 32 10 (ma_lda 0 11)) (mt_leaf (ms_getf (e := (.getfield 15, 14, 3, 0, 345)) rfl (fun _ _ _ => rfl) : mo_Sim 32 11 (ma_getf 3 0 14)) (mt_leaf (ms_alen (e := (.arraylength, 15, 0, 0, 0)) rfl (fun _ _ _ => rfl) : mo_Sim 32 14 (ma_alen 15)) (mt_leaf (ms_if2 (e := (.if_icmp .ge 28, 18, 43, 0, 0)) rfl (fun _ _ _ => rfl) : mo_Sim 32 15 (ma_if2 .ge 43 15 18)) (mt_none))))
set_option maxRecDepth 100000 in
theorem smt32_7 (k : Nat) : ∀ f, mt32_7 k = some f → mo_Sim 32 k f := mt_leaf (ms_ald (e := (.aload_n 0, 19, 0, 0, 0)) rfl (fun _ _ _ => rfl) : mo_Sim 32 18 (ma_lda 0 19)) (mt_leaf (ms_getf (e := (.getfield 15, 22, 3, 0, 345)) rfl (fun _ _ _ => rfl) : mo_Sim 32 19 (ma_getf 3 0 22)) (mt_leaf (ms_ild (e := (.iload_n 2, 23, 0, 0, 0)) rfl (fun _ _ _ => rfl) : mo_Sim 32 22 (ma_load 0 2 23)) (mt_leaf (ms_d2 (e := (.dup2, 24, 0, 0, 0)) rfl (fun _ _ _ => rfl) : mo_Sim 32 23 (ma_d2 24)) (mt_none))))
set_option maxRecDepth 100000 in
theorem smt32_5 (k : Nat) : ∀ f, mt32_5 k = some f → mo_Sim 32 k f := mt_node (smt32_6 k) (smt32_7 k)
set_option maxRecDepth 100000 in
theorem smt32_1 (k : Nat) : ∀ f, mt32_1 k = some f → mo_Sim 32 k f := mt_node (smt32_2 k) (smt32_5 k)
set_option maxRecDepth 100000 in
theorem smt32_10 (k : Nat) : ∀ f, mt32_10 k = some f → mo_Sim 32 k f := mt_leaf (ms_lald (e := (.laload, 25, 0, 0, 0)) rfl (fun _ _ _ => rfl) : mo_Sim 32 24 (ma_lald 25)) (mt_leaf (ms_pushl (e := (.lconst 1, 26, 0, 0, 0)) rfl (fun _ _ _ => rfl) (by decide) : mo_Sim 32 25 (ma_push (ma_cl (.ofNat 1)) 26)) (mt_leaf (ms_ild (e := (.iload_n 1, 27, 0, 0, 0)) rfl (fun _ _ _ => rfl) : mo_Sim 32 26 (ma_load 0 1 27)) (mt_none)))
set_option maxRecDepth 100000 in
theorem smt32_11 (k : Nat) : ∀ f, mt32_11 k = some f → mo_Sim 32 k f := mt_leaf (ms_pushi (e := (.bipush 63, 29, 0, 0, 0)) rfl (fun _ _ _ => rfl) (by decide) : mo_Sim 32 27 (ma_push (ma_ci (.ofNat 63)) 29)) (mt_leaf (ms_iand (e := (.iand, 30, 0, 0, 0)) rfl (fun _ _ _ => rfl) : mo_Sim 32 29 (ma_iand 29 30)) (mt_leaf (ms_ls (e := (.lshl, 31, 0, 0, 0)) rfl (fun _ _ _ => rfl) hg_shl : mo_Sim 32 30 (ma_ls ma_gshl 30 31)) (mt_leaf (ms_l2 (e := (.lor, 32, 0, 0, 0)) rfl (fun _ _ _ => rfl) hg_or : mo_Sim 32 31 (ma_l2 ma_gor 32)) (mt_none))))
set_option maxRecDepth 100000 in
theorem smt32_9 (k : Nat) : ∀ f, mt32_9 k = some f → mo_Sim 32 k f := mt_node (smt32_10 k) (smt32_11 k)
set_option maxRecDepth 100000 in
theorem smt32_13 (k : Nat) : ∀ f, mt32_13 k = some f → mo_Sim 32 k f := mt_leaf (ms_last (e := (.lastore, 33, 0, 0, 0)) rfl rfl (fun _ _ _ => rfl) : mo_Sim 32 32 (ma_ast 14 2 32 33)) (mt_leaf (ms_ald (e := (.aload_n 0, 34, 0, 0, 0)) rfl (fun _ _ _ => rfl) : mo_Sim 32 33 (ma_lda 0 34)) (mt_leaf (ms_dup (e := (.dup, 35, 0, 0, 0)) rfl (fun _ _ _ => rfl) : mo_Sim 32 34 (ma_dup 35)) (mt_leaf (ms_getf (e := (.getfield 27, 38, 3, 1, 346)) rfl (fun _ _ _ => rfl) : mo_Sim 32 35 (ma_getf 3 1 38)) (mt_none))))
set_option maxRecDepth 100000 in
theorem smt32_14 (k : Nat) : ∀ f, mt32_14 k = some f → mo_Sim 32 k f := mt_leaf (ms_pushi (e := (.iconst 1, 39, 0, 0, 0)) rfl (fun _ _ _ => rfl) (by decide) : mo_Sim 32 38 (ma_push (ma_ci (.ofNat 1)) 39)) (mt_leaf (ms_iadd (e := (.iadd, 40, 0, 0, 0)) rfl (fun _ _ _ => rfl) : mo_Sim 32 39 (ma_iadd 39 40)) (mt_leaf (ms_putf (e := (.putfield 27, 43, 3, 1, 346)) rfl rfl (fun _ _ _ => rfl) (Or.inl ⟨rfl, rfl⟩) : mo_Sim 32 40 (ma_putf 3 1 0 43)) (mt_leaf (ms_retv (e := (.return_, 44, 0, 0, 0)) rfl rfl (fun _ _ _ => rfl) : mo_Sim 32 43 (ma_retv)) (mt_none))))
set_option maxRecDepth 100000 in
theorem smt32_12 (k : Nat) : ∀ f, mt32_12 k = some f → mo_Sim 32 k f := mt_node (smt32_13 k) (smt32_14 k)
set_option maxRecDepth 100000 in
theorem smt32_8 (k : Nat) : ∀ f, mt32_8 k = some f → mo_Sim 32 k f := mt_node (smt32_9 k) (smt32_12 k)
set_option maxRecDepth 100000 in
theorem smt32_0 (k : Nat) : ∀ f, mt32_0 k = some f → mo_Sim 32 k f := mt_node (smt32_1 k) (smt32_8 k)
set_option maxRecDepth 100000 in
theorem smt33_4 (k : Nat) : ∀ f, mt33_4 k = some f → mo_Sim 33 k f := mt_leaf (ms_ild (e := (.iload_n 1, 1, 0, 0, 0)) rfl (fun _ _ _ => rfl) : mo_Sim 33 0 (ma_load 0 1 1)) (mt_leaf (ms_if0 (e := (.ifCond .lt 11, 4, 12, 0, 0)) rfl (fun _ _ _ => rfl) : mo_Sim 33 1 (ma_if0 .lt 12 1 4)) (mt_none))
set_option maxRecDepth 100000 in
theorem smt33_5 (k : Nat) : ∀ f, mt33_5 k = some f → mo_Sim 33 k f := mt_leaf (ms_ild (e := (.iload_n 1, 5, 0, 0, 0)) rfl (fun _ _ _ => rfl) : mo_Sim 33 4 (ma_load 0 1 5)) (mt_leaf (ms_ald (e := (.aload_n 0, 6, 0, 0, 0)) rfl (fun _ _ _ => rfl) : mo_Sim 33 5 (ma_lda 0 6)) (mt_leaf (ms_getf (e := (.getfield 27, 9, 3, 1, 346)) rfl (fun _ _ _ => rfl) : mo_Sim 33 6 (ma_getf 3 1 9)) (mt_none)))
set_option maxRecDepth 100000 in
theorem smt33_3 (k : Nat) : ∀ f, mt33_3 k = some f → mo_Sim 33 k f := mt_node (smt33_4 k) (smt33_5 k)
set_option maxRecDepth 100000 in
theorem smt33_7 (k : Nat) : ∀ f, mt33_7 k = some f → mo_Sim 33 k f := mt_leaf (ms_if2 (e := (.if_icmp .lt 5, 12, 14, 0, 0)) rfl (fun _ _ _ => rfl) : mo_Sim 33 9 (ma_if2 .lt 14 9 12)) (mt_leaf (ms_pushi (e := (.iconst (-1), 13, 0, 0, 0)) rfl (fun _ _ _ => rfl) (by decide) : mo_Sim 33 12 (ma_push (ma_ci (.negSucc 0)) 13)) (mt_leaf (ms_ret (e := (.ireturn, 14, 0, 0, 0)) rfl (Or.inl ⟨rfl, rfl, (fun _ _ _ => rfl)⟩) : mo_Sim 33 13 (ma_ret 0)) (mt_none)))
set_option maxRecDepth 100000 in
theorem smt33_8 (k : Nat) : ∀ f, mt33_8 k = some f → mo_Sim 33 k f := mt_leaf (ms_ild (e := (.iload_n 1, 15, 0, 0, 0)) rfl (fun _ _ _ => rfl) : mo_Sim 33 14 (ma_load 0 1 15)) (mt_leaf (ms_ist (e := (.istore_n 2, 16, 0, 0, 0)) rfl (fun _ _ _ => rfl) : mo_Sim 33 15 (ma_stor 0 2 16)) (mt_leaf (ms_pushi (e := (.iconst 0, 17, 0, 0, 0)) rfl (fun _ _ _ => rfl) (by decide) : mo_Sim 33 16 (ma_push (ma_ci (.ofNat 0)) 17)) (mt_none)))
set_option maxRecDepth 100000 in
theorem smt33_6 (k : Nat) : ∀ f, mt33_6 k = some f → mo_Sim 33 k f := mt_node (smt33_7 k) (smt33_8 k)
set_option maxRecDepth 100000 in
theorem smt33_2 (k : Nat) : ∀ f, mt33_2 k = some f → mo_Sim 33 k f := mt_node (smt33_3 k) (smt33_6 k)
set_option maxRecDepth 100000 in
theorem smt33_11 (k : Nat) : ∀ f, mt33_11 k = some f → mo_Sim 33 k f := mt_leaf (ms_ist (e := (.istore_n 3, 18, 0, 0, 0)) rfl (fun _ _ _ => rfl) : mo_Sim 33 17 (ma_stor 0 3 18)) (mt_leaf (ms_ild (e := (.iload_n 3, 19, 0, 0, 0)) rfl (fun _ _ _ => rfl) : mo_Sim 33 18 (ma_load 0 3 19)) (mt_leaf (ms_ald (e := (.aload_n 0, 20, 0, 0, 0)) rfl (fun _ _ _ => rfl) : mo_Sim 33 19 (ma_lda 0 20)) (mt_none)))
set_option maxRecDepth 100000 in
theorem smt33_12 (k : Nat) : ∀ f, mt33_12 k = some f → mo_Sim 33 k f := mt_leaf (ms_getf (e := (.getfield 15, 23, 3, 0, 345)) rfl (fun _ _ _ => rfl) : mo_Sim 33 20 (ma_getf 3 0 23)) (mt_leaf (ms_alen (e := (.arraylength, 24, 0, 0, 0)) rfl (fun _ _ _ => rfl) : mo_Sim 33 23 (ma_alen 24)) (mt_leaf (ms_if2 (e := (.if_icmp .ge 48, 27, 72, 0, 0)) rfl (fun _ _ _ => rfl) : mo_Sim 33 24 (ma_if2 .ge 72 24 27)) (mt_none)))
set_option maxRecDepth 100000 in
theorem smt33_10 (k : Nat) : ∀ f, mt33_10 k = some f → mo_Sim 33 k f := mt_node (smt33_11 k) (smt33_12 k)
set_option maxRecDepth 100000 in
theorem smt33_14 (k : Nat) : ∀ f, mt33_14 k = some f → mo_Sim 33 k f := mt_leaf (ms_ald (e := (.aload_n 0, 28, 0, 0, 0)) rfl (fun _ _ _ => rfl) : mo_Sim 33 27 (ma_lda 0 28)) (mt_leaf (ms_getf (e := (.getfield 15, 31, 3, 0, 345)) rfl (fun _ _ _ => rfl) : mo_Sim 33 28 (ma_getf 3 0 31)) (mt_leaf (ms_ild (e := (.iload_n 3, 32, 0, 0, 0)) rfl (fun _ _ _ => rfl) : mo_Sim 33 31 (ma_load 0 3 32)) (mt_none)))
set_option maxRecDepth 100000 in
theorem smt33_15 (k : Nat) : ∀ f, mt33_15 k = some f → mo_Sim 33 k f := mt_leaf (ms_lald (e := (.laload, 33, 0, 0, 0)) rfl (fun _ _ _ => rfl) : mo_Sim 33 32 (ma_lald 33)) (mt_leaf (ms_invS (e := (.invokestatic 31, 36, 203, 1, 871)) rfl rfl (fun _ _ _ => rfl) rfl rfl : mo_Sim 33 33 (ma_inv 203 1 2 20 36)) (mt_leaf (ms_ist (e := (.istore 4, 38, 0, 0, 0)) rfl (fun _ _ _ => rfl) : mo_Sim 33 36 (ma_stor 0 4 38)) (mt_none)))
set_option maxRecDepth 100000 in
theorem smt33_13 (k : Nat) : ∀ f, mt33_13 k = some f → mo_Sim 33 k f := mt_node (smt33_14 k) (smt33_15 k)
set_option maxRecDepth 100000 in
theorem smt33_9 (k : Nat) : ∀ f, mt33_9 k = some f → mo_Sim 33 k f := mt_node (smt33_10 k) (smt33_13 k)
set_option maxRecDepth 100000 in
theorem smt33_1 (k : Nat) : ∀ f, mt33_1 k = some f → mo_Sim 33 k f := mt_node (smt33_2 k) (smt33_9 k)
set_option maxRecDepth 100000 in
theorem smt33_19 (k : Nat) : ∀ f, mt33_19 k = some f → mo_Sim 33 k f := mt_leaf (ms_ild (e := (.iload_n 2, 39, 0, 0, 0)) rfl (fun _ _ _ => rfl) : mo_Sim 33 38 (ma_load 0 2 39)) (mt_leaf (ms_ild (e := (.iload 4, 41, 0, 0, 0)) rfl (fun _ _ _ => rfl) : mo_Sim 33 39 (ma_load 0 4 41)) (mt_none))
set_option maxRecDepth 100000 in
theorem smt33_20 (k : Nat) : ∀ f, mt33_20 k = some f → mo_Sim 33 k f := mt_leaf (ms_if2 (e := (.if_icmp .ge 20, 44, 61, 0, 0)) rfl (fun _ _ _ => rfl) : mo_Sim 33 41 (ma_if2 .ge 61 41 44)) (mt_leaf (ms_ild (e := (.iload_n 3, 45, 0, 0, 0)) rfl (fun _ _ _ => rfl) : mo_Sim 33 44 (ma_load 0 3 45)) (mt_leaf (ms_pushi (e := (.bipush 64, 47, 0, 0, 0)) rfl (fun _ _ _ => rfl) (by decide) : mo_Sim 33 45 (ma_push (ma_ci (.ofNat 64)) 47)) (mt_none)))
set_option maxRecDepth 100000 in
theorem smt33_18 (k : Nat) : ∀ f, mt33_18 k = some f → mo_Sim 33 k f := mt_node (smt33_19 k) (smt33_20 k)
set_option maxRecDepth 100000 in
theorem smt33_22 (k : Nat) : ∀ f, mt33_22 k = some f → mo_Sim 33 k f := mt_leaf (ms_i2 (e := (.imul, 48, 0, 0, 0)) rfl (fun _ _ _ => rfl) hf_mul : mo_Sim 33 47 (ma_i2 ma_fmul 47 48)) (mt_leaf (ms_ald (e := (.aload_n 0, 49, 0, 0, 0)) rfl (fun _ _ _ => rfl) : mo_Sim 33 48 (ma_lda 0 49)) (mt_leaf (ms_ald (e := (.aload_n 0, 50, 0, 0, 0)) rfl (fun _ _ _ => rfl) : mo_Sim 33 49 (ma_lda 0 50)) (mt_none)))
set_option maxRecDepth 100000 in
theorem smt33_23 (k : Nat) : ∀ f, mt33_23 k = some f → mo_Sim 33 k f := mt_leaf (ms_getf (e := (.getfield 15, 53, 3, 0, 345)) rfl (fun _ _ _ => rfl) : mo_Sim 33 50 (ma_getf 3 0 53)) (mt_leaf (ms_ild (e := (.iload_n 3, 54, 0, 0, 0)) rfl (fun _ _ _ => rfl) : mo_Sim 33 53 (ma_load 0 3 54)) (mt_leaf (ms_lald (e := (.laload, 55, 0, 0, 0)) rfl (fun _ _ _ => rfl) : mo_Sim 33 54 (ma_lald 55)) (mt_none)))
set_option maxRecDepth 100000 in
theorem smt33_21 (k : Nat) : ∀ f, mt33_21 k = some f → mo_Sim 33 k f := mt_node (smt33_22 k) (smt33_23 k)
set_option maxRecDepth 100000 in
theorem smt33_17 (k : Nat) : ∀ f, mt33_17 k = some f → mo_Sim 33 k f := mt_node (smt33_18 k) (smt33_21 k)
set_option maxRecDepth 100000 in
theorem smt33_26 (k : Nat) : ∀ f, mt33_26 k = some f → mo_Sim 33 k f := mt_leaf (ms_ild (e := (.iload_n 2, 56, 0, 0, 0)) rfl (fun _ _ _ => rfl) : mo_Sim 33 55 (ma_load 0 2 56)) (mt_leaf (ms_invV (p := 2) (e := (.invokevirtual 37, 59, 34, 0, 877)) rfl rfl (fun _ _ _ => rfl) rfl rfl rfl (by decide) : mo_Sim 33 56 (ma_inv 34 3 6 3 59)) (mt_leaf (ms_iadd (e := (.iadd, 60, 0, 0, 0)) rfl (fun _ _ _ => rfl) : mo_Sim 33 59 (ma_iadd 59 60)) (mt_none)))
set_option maxRecDepth 100000 in
theorem smt33_27 (k : Nat) : ∀ f, mt33_27 k = some f → mo_Sim 33 k f := mt_leaf (ms_ret (e := (.ireturn, 61, 0, 0, 0)) rfl (Or.inl ⟨rfl, rfl, (fun _ _ _ => rfl)⟩) : mo_Sim 33 60 (ma_ret 0)) (mt_leaf (ms_ild (e := (.iload_n 2, 62, 0, 0, 0)) rfl (fun _ _ _ => rfl) : mo_Sim 33 61 (ma_load 0 2 62)) (mt_leaf (ms_ild (e := (.iload 4, 64, 0, 0, 0)) rfl (fun _ _ _ => rfl) : mo_Sim 33 62 (ma_load 0 4 64)) (mt_none)))
set_option maxRecDepth 100000 in
theorem smt33_25 (k : Nat) : ∀ f, mt33_25 k = some f → mo_Sim 33 k f := mt_node (smt33_26 k) (smt33_27 k)
set_option maxRecDepth 100000 in
theorem smt33_29 (k : Nat) : ∀ f, mt33_29 k = some f → mo_Sim 33 k f := mt_leaf (ms_isub (e := (.isub, 65, 0, 0, 0)) rfl (fun _ _ _ => rfl) : mo_Sim 33 64 (ma_isub 64 65)) (mt_leaf (ms_ist (e := (.istore_n 2, 66, 0, 0, 0)) rfl (fun _ _ _ => rfl) : mo_Sim 33 65 (ma_stor 0 2 66)) (mt_leaf (ms_iinc (e := (.iinc 3 1, 69, 0, 0, 0)) rfl (fun _ _ _ => rfl) (by decide) : mo_Sim 33 66 (ma_iinc 3 (.ofNat 1) 66 69)) (mt_none)))
set_option maxRecDepth 100000 in
theorem smt33_30 (k : Nat) : ∀ f, mt33_30 k = some f → mo_Sim 33 k f := mt_leaf (ms_goto (e := (.goto (-51), 72, 18, 0, 0)) rfl (fun _ _ _ => rfl) : mo_Sim 33 69 (ma_goto 18)) (mt_leaf (ms_pushi (e := (.iconst (-1), 73, 0, 0, 0)) rfl (fun _ _ _ => rfl) (by decide) : mo_Sim 33 72 (ma_push (ma_ci (.negSucc 0)) 73)) (mt_leaf (ms_ret (e := (.ireturn, 74, 0, 0, 0)) rfl (Or.inl ⟨rfl, rfl, (fun _ _ _ => rfl)⟩) : mo_Sim 33 73 (ma_ret 0)) (mt_none)))
set_option maxRecDepth 100000 in
theorem smt33_28 (k : Nat) : ∀ f, mt33_28 k = some f → mo_Sim 33 k f := mt_node (smt33_29 k) (smt33_30 k)
set_option maxRecDepth 100000 in
theorem smt33_24 (k : Nat) : ∀ f, mt33_24 k = some f → mo_Sim 33 k f := mt_node (smt33_25 k) (smt33_28 k)
set_option maxRecDepth 100000 in
theorem smt33_16 (k : Nat) : ∀ f, mt33_16 k = some f → mo_Sim 33 k f := mt_node (smt33_17 k) (smt33_24 k)
set_option maxRecDepth 100000 in
theorem smt33_0 (k : Nat) : ∀ f, mt33_0 k = some f → mo_Sim 33 k f := mt_node (smt33_1 k) (smt33_16 k)
set_option maxRecDepth 100000 in
theorem smt34_3 (k : Nat) : ∀ f, mt34_3 k = some f → mo_Sim 34 k f := mt_leaf (ms_ild (e := (.iload_n 3, 1, 0, 0, 0)) rfl (fun _ _ _ => rfl) : mo_Sim 34 0 (ma_load 0 3 1)) (mt_leaf (ms_ist (e := (.istore 4, 3, 0, 0, 0)) rfl (fun _ _ _ => rfl) : mo_Sim 34 1 (ma_stor 0 4 3)) (mt_leaf (ms_pushi (e := (.iconst 0, 4, 0, 0, 0)) rfl (fun _ _ _ => rfl) (by decide) : mo_Sim 34 3 (ma_push (ma_ci (.ofNat 0)) 4)) (mt_none)))
set_option maxRecDepth 100000 in
theorem smt34_4 (k : Nat) : ∀ f, mt34_4 k = some f → mo_Sim 34 k f := mt_leaf (ms_ist (e := (.istore 5, 6, 0, 0, 0)) rfl (fun _ _ _ => rfl) : mo_Sim 34 4 (ma_stor 0 5 6)) (mt_leaf (ms_ild (e := (.iload 5, 8, 0, 0, 0)) rfl (fun _ _ _ => rfl) : mo_Sim 34 6 (ma_load 0 5 8)) (mt_leaf (ms_pushi (e := (.bipush 64, 10, 0, 0, 0)) rfl (fun _ _ _ => rfl) (by decide) : mo_Sim 34 8 (ma_push (ma_ci (.ofNat 64)) 10)) (mt_none)))
set_option maxRecDepth 100000 in
theorem smt34_2 (k : Nat) : ∀ f, mt34_2 k = some f → mo_Sim 34 k f := mt_node (smt34_3 k) (smt34_4 k)
set_option maxRecDepth 100000 in
theorem smt34_6 (k : Nat) : ∀ f, mt34_6 k = some f → mo_Sim 34 k f := mt_leaf (ms_if2 (e := (.if_icmp .ge 31, 13, 41, 0, 0)) rfl (fun _ _ _ => rfl) : mo_Sim 34 10 (ma_if2 .ge 41 10 13)) (mt_leaf (ms_lld (e := (.lload_n 1, 14, 0, 0, 0)) rfl (fun _ _ _ => rfl) : mo_Sim 34 13 (ma_load 2 1 14)) (mt_leaf (ms_ild (e := (.iload 5, 16, 0, 0, 0)) rfl (fun _ _ _ => rfl) : mo_Sim 34 14 (ma_load 0 5 16)) (mt_none)))
set_option maxRecDepth 100000 in
theorem smt34_7 (k : Nat) : ∀ f, mt34_7 k = some f → mo_Sim 34 k f := mt_leaf (ms_ls (e := (.lushr, 17, 0, 0, 0)) rfl (fun _ _ _ => rfl) hg_ushr : mo_Sim 34 16 (ma_ls ma_gushr 16 17)) (mt_leaf (ms_pushl (e := (.lconst 1, 18, 0, 0, 0)) rfl (fun _ _ _ => rfl) (by decide) : mo_Sim 34 17 (ma_push (ma_cl (.ofNat 1)) 18)) (mt_leaf (ms_l2 (e := (.land, 19, 0, 0, 0)) rfl (fun _ _ _ => rfl) hg_and : mo_Sim 34 18 (ma_l2 ma_gand 19)) (mt_none)))
set_option maxRecDepth 100000 in
theorem smt34_5 (k : Nat) : ∀ f, mt34_5 k = some f → mo_Sim 34 k f := mt_node (smt34_6 k) (smt34_7 k)
set_option maxRecDepth 100000 in
theorem smt34_1 (k : Nat) : ∀ f, mt34_1 k = some f → mo_Sim 34 k f := mt_node (smt34_2 k) (smt34_5 k)
set_option maxRecDepth 100000 in
theorem smt34_10 (k : Nat) : ∀ f, mt34_10 k = some f → mo_Sim 34 k f := mt_leaf (ms_pushl (e := (.lconst 0, 20, 0, 0, 0)) rfl (fun _ _ _ => rfl) (by decide) : mo_Sim 34 19 (ma_push (ma_cl (.ofNat 0)) 20)) (mt_leaf (ms_lcmp (e := (.lcmp, 21, 0, 0, 0)) rfl (fun _ _ _ => rfl) : mo_Sim 34 20 (ma_lcmp 21)) (mt_leaf (ms_if0 (e := (.ifCond .eq 14, 24, 35, 0, 0)) rfl (fun _ _ _ => rfl) : mo_Sim 34 21 (ma_if0 .eq 35 21 24)) (mt_none)))
set_option maxRecDepth 100000 in
theorem smt34_11 (k : Nat) : ∀ f, mt34_11 k = some f → mo_Sim 34 k f := mt_leaf (ms_ild (e := (.iload 4, 26, 0, 0, 0)) rfl (fun _ _ _ => rfl) : mo_Sim 34 24 (ma_load 0 4 26)) (mt_leaf (ms_if0 (e := (.ifCond .ne 6, 29, 32, 0, 0)) rfl (fun _ _ _ => rfl) : mo_Sim 34 26 (ma_if0 .ne 32 26 29)) (mt_leaf (ms_ild (e := (.iload 5, 31, 0, 0, 0)) rfl (fun _ _ _ => rfl) : mo_Sim 34 29 (ma_load 0 5 31)) (mt_none)))
set_option maxRecDepth 100000 in
theorem smt34_9 (k : Nat) : ∀ f, mt34_9 k = some f → mo_Sim 34 k f := mt_node (smt34_10 k) (smt34_11 k)
set_option maxRecDepth 100000 in
theorem smt34_13 (k : Nat) : ∀ f, mt34_13 k = some f → mo_Sim 34 k f := mt_leaf (ms_ret (e := (.ireturn, 32, 0, 0, 0)) rfl (Or.inl ⟨rfl, rfl, (fun _ _ _ => rfl)⟩) : mo_Sim 34 31 (ma_ret 0)) (mt_leaf (ms_iinc (e := (.iinc 4 (-1), 35, 0, 0, 0)) rfl (fun _ _ _ => rfl) (by decide) : mo_Sim 34 32 (ma_iinc 4 (.negSucc 0) 32 35)) (mt_leaf (ms_iinc (e := (.iinc 5 1, 38, 0, 0, 0)) rfl (fun _ _ _ => rfl) (by decide) : mo_Sim 34 35 (ma_iinc 5 (.ofNat 1) 35 38)) (mt_none)))
set_option maxRecDepth 100000 in
theorem smt34_14 (k : Nat) : ∀ f, mt34_14 k = some f → mo_Sim 34 k f := mt_leaf (ms_goto (e := (.goto (-32), 41, 6, 0, 0)) rfl (fun _ _ _ => rfl) : mo_Sim 34 38 (ma_goto 6)) (mt_leaf (ms_pushi (e := (.iconst (-1), 42, 0, 0, 0)) rfl (fun _ _ _ => rfl) (by decide) : mo_Sim 34 41 (ma_push (ma_ci (.negSucc 0)) 42)) (mt_leaf (ms_ret (e := (.ireturn, 43, 0, 0, 0)) rfl (Or.inl ⟨rfl, rfl, (fun _ _ _ => rfl)⟩) : mo_Sim 34 42 (ma_ret 0)) (mt_none)))
set_option maxRecDepth 100000 in
theorem smt34_12 (k : Nat) : ∀ f, mt34_12 k = some f → mo_Sim 34 k f := mt_node (smt34_13 k) (smt34_14 k)
set_option maxRecDepth 100000 in
theorem smt34_8 (k : Nat) : ∀ f, mt34_8 k = some f → mo_Sim 34 k f := mt_node (smt34_9 k) (smt34_12 k)
set_option maxRecDepth 100000 in
theorem smt34_0 (k : Nat) : ∀ f, mt34_0 k = some f → mo_Sim 34 k f := mt_node (smt34_1 k) (smt34_8 k)
set_option maxRecDepth 100000 in
theorem smt35_1 (k : Nat) : ∀ f, mt35_1 k = some f → mo_Sim 35 k f := mt_leaf (ms_ald (e := (.aload_n 0, 1, 0, 0, 0)) rfl (fun _ _ _ => rfl) : mo_Sim 35 0 (ma_lda 0 1)) (mt_leaf (ms_obj (e := (.invokespecial 3, 4, 0, 4, 357)) rfl (fun _ _ _ => rfl) : mo_Sim 35 1 (ma_obj 4)) (mt_leaf (ms_ald (e := (.aload_n 0, 5, 0, 0, 0)) rfl (fun _ _ _ => rfl) : mo_Sim 35 4 (ma_lda 0 5)) (mt_none)))
set_option maxRecDepth 100000 in
theorem smt35_2 (k : Nat) : ∀ f, mt35_2 k = some f → mo_Sim 35 k f := mt_leaf (ms_pushi (e := (.bipush 27, 7, 0, 0, 0)) rfl (fun _ _ _ => rfl) (by decide) : mo_Sim 35 5 (ma_push (ma_ci (.ofNat 27)) 7)) (mt_leaf (ms_newaI (e := (.newarray .int, 9, 0, 0, 0)) rfl rfl (fun _ _ _ => rfl) : mo_Sim 35 7 (ma_newa 13 (ma_ci (.ofNat 0)) 9)) (mt_leaf (ms_putf (e := (.putfield 9, 12, 4, 4, 368)) rfl rfl (fun _ _ _ => rfl) (Or.inr (Or.inr (Or.inl ⟨rfl, Or.inr ⟨_, rfl⟩⟩))) : mo_Sim 35 9 (ma_putf 4 4 2 12)) (mt_leaf (ms_retv (e := (.return_, 13, 0, 0, 0)) rfl rfl (fun _ _ _ => rfl) : mo_Sim 35 12 (ma_retv)) (mt_none))))
set_option maxRecDepth 100000 in
theorem smt35_0 (k : Nat) : ∀ f, mt35_0 k = some f → mo_Sim 35 k f := mt_node (smt35_1 k) (smt35_2 k)
set_option maxRecDepth 100000 in
theorem smt36_3 (k : Nat) : ∀ f, mt36_3 k = some f → mo_Sim 36 k f := mt_leaf (ms_ald (e := (.aload_n 0, 1, 0, 0, 0)) rfl (fun _ _ _ => rfl) : mo_Sim 36 0 (ma_lda 0 1)) (mt_leaf (ms_ild (e := (.iload_n 1, 2, 0, 0, 0)) rfl (fun _ _ _ => rfl) : mo_Sim 36 1 (ma_load 0 1 2)) (mt_leaf (ms_putf (e := (.putfield 15, 5, 4, 0, 358)) rfl rfl (fun _ _ _ => rfl) (Or.inl ⟨rfl, rfl⟩) : mo_Sim 36 2 (ma_putf 4 0 0 5)) (mt_leaf (ms_ald (e := (.aload_n 0, 6, 0, 0, 0)) rfl (fun _ _ _ => rfl) : mo_Sim 36 5 (ma_lda 0 6)) (mt_none))))
set_option maxRecDepth 100000 in
theorem smt36_5 (k : Nat) : ∀ f, mt36_5 k = some f → mo_Sim 36 k f := mt_leaf (ms_ild (e := (.iload_n 2, 7, 0, 0, 0)) rfl (fun _ _ _ => rfl) : mo_Sim 36 6 (ma_load 0 2 7)) (mt_leaf (ms_putf (e := (.putfield 19, 10, 4, 1, 360)) rfl rfl (fun _ _ _ => rfl) (Or.inl ⟨rfl, rfl⟩) : mo_Sim 36 7 (ma_putf 4 1 0 10)) (mt_none))
set_option maxRecDepth 100000 in
theorem smt36_6 (k : Nat) : ∀ f, mt36_6 k = some f → mo_Sim 36 k f := mt_leaf (ms_ald (e := (.aload_n 0, 11, 0, 0, 0)) rfl (fun _ _ _ => rfl) : mo_Sim 36 10 (ma_lda 0 11)) (mt_leaf (ms_pushi (e := (.iconst 0, 12, 0, 0, 0)) rfl (fun _ _ _ => rfl) (by decide) : mo_Sim 36 11 (ma_push (ma_ci (.ofNat 0)) 12)) (mt_leaf (ms_putf (e := (.putfield 22, 15, 4, 2, 362)) rfl rfl (fun _ _ _ => rfl) (Or.inl ⟨rfl, rfl⟩) : mo_Sim 36 12 (ma_putf 4 2 0 15)) (mt_none)))
set_option maxRecDepth 100000 in
theorem smt36_4 (k : Nat) : ∀ f, mt36_4 k = some f → mo_Sim 36 k f := mt_node (smt36_5 k) (smt36_6 k)
set_option maxRecDepth 100000 in
theorem smt36_2 (k : Nat) : ∀ f, mt36_2 k = some f → mo_Sim 36 k f := mt_node (smt36_3 k) (smt36_4 k)
set_option maxRecDepth 100000 in
theorem smt36_8 (k : Nat) : ∀ f, mt36_8 k = some f → mo_Sim 36 k f := mt_leaf (ms_ald (e := (.aload_n 0, 16, 0, 0, 0)) rfl (fun _ _ _ => rfl) : mo_Sim 36 15 (ma_lda 0 16)) (mt_leaf (ms_pushi (e := (.iconst 0, 17, 0, 0, 0)) rfl (fun _ _ _ => rfl) (by decide) : mo_Sim 36 16 (ma_push (ma_ci (.ofNat 0)) 17)) (mt_leaf (ms_putf (e := (.putfield 25, 20, 4, 3, 365)) rfl rfl (fun _ _ _ => rfl) (Or.inl ⟨rfl, rfl⟩) : mo_Sim 36 17 (ma_putf 4 3 0 20)) (mt_leaf (ms_ald (e := (.aload_n 3, 21, 0, 0, 0)) rfl (fun _ _ _ => rfl) : mo_Sim 36 20 (ma_lda 3 21)) (mt_none))))
set_option maxRecDepth 100000 in
theorem smt36_10 (k : Nat) : ∀ f, mt36_10 k = some f → mo_Sim 36 k f := mt_leaf (ms_ild (e := (.iload_n 1, 22, 0, 0, 0)) rfl (fun _ _ _ => rfl) : mo_Sim 36 21 (ma_load 0 1 22)) (mt_leaf (ms_invV (p := 1) (e := (.invokevirtual 28, 25, 12, 0, 596)) rfl rfl (fun _ _ _ => rfl) rfl rfl rfl (by decide) : mo_Sim 36 22 (ma_inv 12 2 4 1 25)) (mt_none))
set_option maxRecDepth 100000 in
theorem smt36_11 (k : Nat) : ∀ f, mt36_11 k = some f → mo_Sim 36 k f := mt_leaf (ms_ist (e := (.istore 4, 27, 0, 0, 0)) rfl (fun _ _ _ => rfl) : mo_Sim 36 25 (ma_stor 0 4 27)) (mt_leaf (ms_pushi (e := (.iconst 0, 28, 0, 0, 0)) rfl (fun _ _ _ => rfl) (by decide) : mo_Sim 36 27 (ma_push (ma_ci (.ofNat 0)) 28)) (mt_leaf (ms_ist (e := (.istore 5, 30, 0, 0, 0)) rfl (fun _ _ _ => rfl) : mo_Sim 36 28 (ma_stor 0 5 30)) (mt_none)))
set_option maxRecDepth 100000 in
theorem smt36_9 (k : Nat) : ∀ f, mt36_9 k = some f → mo_Sim 36 k f := mt_node (smt36_10 k) (smt36_11 k)
set_option maxRecDepth 100000 in
theorem smt36_7 (k : Nat) : ∀ f, mt36_7 k = some f → mo_Sim 36 k f := mt_node (smt36_8 k) (smt36_9 k)
set_option maxRecDepth 100000 in
theorem smt36_1 (k : Nat) : ∀ f, mt36_1 k = some f → mo_Sim 36 k f := mt_node (smt36_2 k) (smt36_7 k)
set_option maxRecDepth 100000 in
theorem smt36_14 (k : Nat) : ∀ f, mt36_14 k = some f → mo_Sim 36 k f := mt_leaf (ms_ild (e := (.iload 5, 32, 0, 0, 0)) rfl (fun _ _ _ => rfl) : mo_Sim 36 30 (ma_load 0 5 32)) (mt_leaf (ms_ild (e := (.iload 4, 34, 0, 0, 0)) rfl (fun _ _ _ => rfl) : mo_Sim 36 32 (ma_load 0 4 34)) (mt_leaf (ms_if2 (e := (.if_icmp .ge 29, 37, 63, 0, 0)) rfl (fun _ _ _ => rfl) : mo_Sim 36 34 (ma_if2 .ge 63 34 37)) (mt_leaf (ms_ild (e := (.iload_n 2, 38, 0, 0, 0)) rfl (fun _ _ _ => rfl) : mo_Sim 36 37 (ma_load 0 2 38)) (mt_none))))
set_option maxRecDepth 100000 in
theorem smt36_16 (k : Nat) : ∀ f, mt36_16 k = some f → mo_Sim 36 k f := mt_leaf (ms_ild (e := (.iload 5, 40, 0, 0, 0)) rfl (fun _ _ _ => rfl) : mo_Sim 36 38 (ma_load 0 5 40)) (mt_leaf (ms_i2 (e := (.ishr, 41, 0, 0, 0)) rfl (fun _ _ _ => rfl) hf_shr : mo_Sim 36 40 (ma_i2 ma_fshr 40 41)) (mt_none))
set_option maxRecDepth 100000 in
theorem smt36_17 (k : Nat) : ∀ f, mt36_17 k = some f → mo_Sim 36 k f := mt_leaf (ms_pushi (e := (.iconst 1, 42, 0, 0, 0)) rfl (fun _ _ _ => rfl) (by decide) : mo_Sim 36 41 (ma_push (ma_ci (.ofNat 1)) 42)) (mt_leaf (ms_iand (e := (.iand, 43, 0, 0, 0)) rfl (fun _ _ _ => rfl) : mo_Sim 36 42 (ma_iand 42 43)) (mt_leaf (ms_if0 (e := (.ifCond .eq 14, 46, 57, 0, 0)) rfl (fun _ _ _ => rfl) : mo_Sim 36 43 (ma_if0 .eq 57 43 46)) (mt_none)))
set_option maxRecDepth 100000 in
theorem smt36_15 (k : Nat) : ∀ f, mt36_15 k = some f → mo_Sim 36 k f := mt_node (smt36_16 k) (smt36_17 k)
set_option maxRecDepth 100000 in
theorem smt36_13 (k : Nat) : ∀ f, mt36_13 k = some f → mo_Sim 36 k f := mt_node (smt36_14 k) (smt36_15 k)
set_option maxRecDepth 100000 in
theorem smt36_19 (k : Nat) : ∀ f, mt36_19 k = some f → mo_Sim 36 k f := mt_leaf (ms_ald (e := (.aload_n 0, 47, 0, 0, 0)) rfl (fun _ _ _ => rfl) : mo_Sim 36 46 (ma_lda 0 47)) (mt_leaf (ms_ald (e := (.aload_n 3, 48, 0, 0, 0)) rfl (fun _ _ _ => rfl) : mo_Sim 36 47 (ma_lda 3 48)) (mt_leaf (ms_ild (e := (.iload 5, 50, 0, 0, 0)) rfl (fun _ _ _ => rfl) : mo_Sim 36 48 (ma_load 0 5 50)) (mt_leaf (ms_ild (e := (.iload_n 1, 51, 0, 0, 0)) rfl (fun _ _ _ => rfl) : mo_Sim 36 50 (ma_load 0 1 51)) (mt_none))))
set_option maxRecDepth 100000 in
theorem smt36_21 (k : Nat) : ∀ f, mt36_21 k = some f → mo_Sim 36 k f := mt_leaf (ms_invV (p := 2) (e := (.invokevirtual 34, 54, 17, 0, 597)) rfl rfl (fun _ _ _ => rfl) rfl rfl rfl (by decide) : mo_Sim 36 51 (ma_inv 17 3 5 1 54)) (mt_leaf (ms_invV (p := 1) (e := (.invokevirtual 38, 57, 42, 0, 601)) rfl rfl (fun _ _ _ => rfl) rfl rfl rfl (by decide) : mo_Sim 36 54 (ma_inv 42 2 2 4 57)) (mt_none))
set_option maxRecDepth 100000 in
theorem smt36_22 (k : Nat) : ∀ f, mt36_22 k = some f → mo_Sim 36 k f := mt_leaf (ms_iinc (e := (.iinc 5 1, 60, 0, 0, 0)) rfl (fun _ _ _ => rfl) (by decide) : mo_Sim 36 57 (ma_iinc 5 (.ofNat 1) 57 60)) (mt_leaf (ms_goto (e := (.goto (-30), 63, 30, 0, 0)) rfl (fun _ _ _ => rfl) : mo_Sim 36 60 (ma_goto 30)) (mt_leaf (ms_retv (e := (.return_, 64, 0, 0, 0)) rfl rfl (fun _ _ _ => rfl) : mo_Sim 36 63 (ma_retv)) (mt_none)))
set_option maxRecDepth 100000 in
theorem smt36_20 (k : Nat) : ∀ f, mt36_20 k = some f → mo_Sim 36 k f := mt_node (smt36_21 k) (smt36_22 k)
set_option maxRecDepth 100000 in
theorem smt36_18 (k : Nat) : ∀ f, mt36_18 k = some f → mo_Sim 36 k f := mt_node (smt36_19 k) (smt36_20 k)
set_option maxRecDepth 100000 in
theorem smt36_12 (k : Nat) : ∀ f, mt36_12 k = some f → mo_Sim 36 k f := mt_node (smt36_13 k) (smt36_18 k)
set_option maxRecDepth 100000 in
theorem smt36_0 (k : Nat) : ∀ f, mt36_0 k = some f → mo_Sim 36 k f := mt_node (smt36_1 k) (smt36_12 k)
set_option maxRecDepth 100000 in
theorem smt37_2 (k : Nat) : ∀ f, mt37_2 k = some f → mo_Sim 37 k f := mt_leaf (ms_ald (e := (.aload_n 0, 1, 0, 0, 0)) rfl (fun _ _ _ => rfl) : mo_Sim 37 0 (ma_lda 0 1)) (mt_leaf (ms_getf (e := (.getfield 25, 4, 4, 3, 365)) rfl (fun _ _ _ => rfl) : mo_Sim 37 1 (ma_getf 4 3 4)) (mt_none))
set_option maxRecDepth 100000 in
theorem smt37_3 (k : Nat) : ∀ f, mt37_3 k = some f → mo_Sim 37 k f := mt_leaf (ms_ald (e := (.aload_n 1, 5, 0, 0, 0)) rfl (fun _ _ _ => rfl) : mo_Sim 37 4 (ma_lda 1 5)) (mt_leaf (ms_ald (e := (.aload_n 0, 6, 0, 0, 0)) rfl (fun _ _ _ => rfl) : mo_Sim 37 5 (ma_lda 0 6)) (mt_leaf (ms_getf (e := (.getfield 15, 9, 4, 0, 358)) rfl (fun _ _ _ => rfl) : mo_Sim 37 6 (ma_getf 4 0 9)) (mt_none)))
set_option maxRecDepth 100000 in
theorem smt37_1 (k : Nat) : ∀ f, mt37_1 k = some f → mo_Sim 37 k f := mt_node (smt37_2 k) (smt37_3 k)
set_option maxRecDepth 100000 in
theorem smt37_5 (k : Nat) : ∀ f, mt37_5 k = some f → mo_Sim 37 k f := mt_leaf (ms_invV (p := 1) (e := (.invokevirtual 28, 12, 12, 0, 596)) rfl rfl (fun _ _ _ => rfl) rfl rfl rfl (by decide) : mo_Sim 37 9 (ma_inv 12 2 4 1 12)) (mt_leaf (ms_if2 (e := (.if_icmp .ne 7, 15, 19, 0, 0)) rfl (fun _ _ _ => rfl) : mo_Sim 37 12 (ma_if2 .ne 19 12 15)) (mt_leaf (ms_pushi (e := (.iconst 1, 16, 0, 0, 0)) rfl (fun _ _ _ => rfl) (by decide) : mo_Sim 37 15 (ma_push (ma_ci (.ofNat 1)) 16)) (mt_none)))
set_option maxRecDepth 100000 in
theorem smt37_6 (k : Nat) : ∀ f, mt37_6 k = some f → mo_Sim 37 k f := mt_leaf (ms_goto (e := (.goto 4, 19, 20, 0, 0)) rfl (fun _ _ _ => rfl) : mo_Sim 37 16 (ma_goto 20)) (mt_leaf (ms_pushi (e := (.iconst 0, 20, 0, 0, 0)) rfl (fun _ _ _ => rfl) (by decide) : mo_Sim 37 19 (ma_push (ma_ci (.ofNat 0)) 20)) (mt_leaf (ms_ret (e := (.ireturn, 21, 0, 0, 0)) rfl (Or.inr (Or.inl ⟨rfl, rfl, (fun _ _ _ => rfl)⟩)) : mo_Sim 37 20 (ma_ret 1)) (mt_none)))
set_option maxRecDepth 100000 in
theorem smt37_4 (k : Nat) : ∀ f, mt37_4 k = some f → mo_Sim 37 k f := mt_node (smt37_5 k) (smt37_6 k)
set_option maxRecDepth 100000 in
theorem smt37_0 (k : Nat) : ∀ f, mt37_0 k = some f → mo_Sim 37 k f := mt_node (smt37_1 k) (smt37_4 k)
set_option maxRecDepth 100000 in
theorem smt38_4 (k : Nat) : ∀ f, mt38_4 k = some f → mo_Sim 38 k f := mt_leaf (ms_ald (e := (.aload_n 0, 1, 0, 0, 0)) rfl (fun _ _ _ => rfl) : mo_Sim 38 0 (ma_lda 0 1)) (mt_leaf (ms_ald (e := (.aload_n 1, 2, 0, 0, 0)) rfl (fun _ _ _ => rfl) : mo_Sim 38 1 (ma_lda 1 2)) (mt_leaf (ms_getf (e := (.getfield 42, 5, 0, 0, 390)) rfl (fun _ _ _ => rfl) : mo_Sim 38 2 (ma_getf 0 0 5)) (mt_leaf (ms_pushi (e := (.iconst 3, 6, 0, 0, 0)) rfl (fun _ _ _ => rfl) (by decide) : mo_Sim 38 5 (ma_push (ma_ci (.ofNat 3)) 6)) (mt_none))))
set_option maxRecDepth 100000 in
theorem smt38_5 (k : Nat) : ∀ f, mt38_5 k = some f → mo_Sim 38 k f := mt_leaf (ms_invV (p := 2) (e := (.invokevirtual 45, 9, 41, 0, 630)) rfl rfl (fun _ _ _ => rfl) rfl rfl rfl (by decide) : mo_Sim 38 6 (ma_inv 41 3 3 4 9)) (mt_leaf (ms_ist (e := (.istore 4, 11, 0, 0, 0)) rfl (fun _ _ _ => rfl) : mo_Sim 38 9 (ma_stor 0 4 11)) (mt_leaf (ms_ald (e := (.aload_n 0, 12, 0, 0, 0)) rfl (fun _ _ _ => rfl) : mo_Sim 38 11 (ma_lda 0 12)) (mt_leaf (ms_ald (e := (.aload_n 1, 13, 0, 0, 0)) rfl (fun _ _ _ => rfl) : mo_Sim 38 12 (ma_lda 1 13)) (mt_none))))
set_option maxRecDepth 100000 in
theorem smt38_3 (k : Nat) : ∀ f, mt38_3 k = some f → mo_Sim 38 k f := mt_node (smt38_4 k) (smt38_5 k)
set_option maxRecDepth 100000 in
theorem smt38_7 (k : Nat) : ∀ f, mt38_7 k = some f → mo_Sim 38 k f := mt_leaf (ms_getf (e := (.getfield 42, 16, 0, 0, 390)) rfl (fun _ _ _ => rfl) : mo_Sim 38 13 (ma_getf 0 0 16)) (mt_leaf (ms_pushi (e := (.iconst 2, 17, 0, 0, 0)) rfl (fun _ _ _ => rfl) (by decide) : mo_Sim 38 16 (ma_push (ma_ci (.ofNat 2)) 17)) (mt_leaf (ms_invV (p := 2) (e := (.invokevirtual 45, 20, 41, 0, 630)) rfl rfl (fun _ _ _ => rfl) rfl rfl rfl (by decide) : mo_Sim 38 17 (ma_inv 41 3 3 4 20)) (mt_leaf (ms_ist (e := (.istore 5, 22, 0, 0, 0)) rfl (fun _ _ _ => rfl) : mo_Sim 38 20 (ma_stor 0 5 22)) (mt_none))))
set_option maxRecDepth 100000 in
theorem smt38_8 (k : Nat) : ∀ f, mt38_8 k = some f → mo_Sim 38 k f := mt_leaf (ms_pushi (e := (.iconst 0, 23, 0, 0, 0)) rfl (fun _ _ _ => rfl) (by decide) : mo_Sim 38 22 (ma_push (ma_ci (.ofNat 0)) 23)) (mt_leaf (ms_ist (e := (.istore 6, 25, 0, 0, 0)) rfl (fun _ _ _ => rfl) : mo_Sim 38 23 (ma_stor 0 6 25)) (mt_leaf (ms_ild (e := (.iload 6, 27, 0, 0, 0)) rfl (fun _ _ _ => rfl) : mo_Sim 38 25 (ma_load 0 6 27)) (mt_leaf (ms_ild (e := (.iload 4, 29, 0, 0, 0)) rfl (fun _ _ _ => rfl) : mo_Sim 38 27 (ma_load 0 4 29)) (mt_none))))
set_option maxRecDepth 100000 in
theorem smt38_6 (k : Nat) : ∀ f, mt38_6 k = some f → mo_Sim 38 k f := mt_node (smt38_7 k) (smt38_8 k)
set_option maxRecDepth 100000 in
theorem smt38_2 (k : Nat) : ∀ f, mt38_2 k = some f → mo_Sim 38 k f := mt_node (smt38_3 k) (smt38_6 k)
set_option maxRecDepth 100000 in
theorem smt38_11 (k : Nat) : ∀ f, mt38_11 k = some f → mo_Sim 38 k f := mt_leaf (ms_if2 (e := (.if_icmp .ge 90, 32, 119, 0, 0)) rfl (fun _ _ _ => rfl) : mo_Sim 38 29 (ma_if2 .ge 119 29 32)) (mt_leaf (ms_pushi (e := (.iconst 0, 33, 0, 0, 0)) rfl (fun _ _ _ => rfl) (by decide) : mo_Sim 38 32 (ma_push (ma_ci (.ofNat 0)) 33)) (mt_leaf (ms_ist (e := (.istore 7, 35, 0, 0, 0)) rfl (fun _ _ _ => rfl) : mo_Sim 38 33 (ma_stor 0 7 35)) (mt_leaf (ms_ild (e := (.iload 7, 37, 0, 0, 0)) rfl (fun _ _ _ => rfl) : mo_Sim 38 35 (ma_load 0 7 37)) (mt_none))))
set_option maxRecDepth 100000 in
theorem smt38_12 (k : Nat) : ∀ f, mt38_12 k = some f → mo_Sim 38 k f := mt_leaf (ms_ild (e := (.iload 5, 39, 0, 0, 0)) rfl (fun _ _ _ => rfl) : mo_Sim 38 37 (ma_load 0 5 39)) (mt_leaf (ms_if2 (e := (.if_icmp .ge 74, 42, 113, 0, 0)) rfl (fun _ _ _ => rfl) : mo_Sim 38 39 (ma_if2 .ge 113 39 42)) (mt_leaf (ms_ald (e := (.aload_n 3, 43, 0, 0, 0)) rfl (fun _ _ _ => rfl) : mo_Sim 38 42 (ma_lda 3 43)) (mt_leaf (ms_ald (e := (.aload_n 2, 44, 0, 0, 0)) rfl (fun _ _ _ => rfl) : mo_Sim 38 43 (ma_lda 2 44)) (mt_none))))
set_option maxRecDepth 100000 in
theorem smt38_10 (k : Nat) : ∀ f, mt38_10 k = some f → mo_Sim 38 k f := mt_node (smt38_11 k) (smt38_12 k)
set_option maxRecDepth 100000 in
theorem smt38_14 (k : Nat) : ∀ f, mt38_14 k = some f → mo_Sim 38 k f := mt_leaf (ms_ald (e := (.aload_n 1, 45, 0, 0, 0)) rfl (fun _ _ _ => rfl) : mo_Sim 38 44 (ma_lda 1 45)) (mt_leaf (ms_getf (e := (.getfield 48, 48, 0, 2, 396)) rfl (fun _ _ _ => rfl) : mo_Sim 38 45 (ma_getf 0 2 48)) (mt_leaf (ms_ald (e := (.aload_n 0, 49, 0, 0, 0)) rfl (fun _ _ _ => rfl) : mo_Sim 38 48 (ma_lda 0 49)) (mt_leaf (ms_getf (e := (.getfield 9, 52, 4, 4, 368)) rfl (fun _ _ _ => rfl) : mo_Sim 38 49 (ma_getf 4 4 52)) (mt_none))))
set_option maxRecDepth 100000 in
theorem smt38_15 (k : Nat) : ∀ f, mt38_15 k = some f → mo_Sim 38 k f := mt_leaf (ms_ild (e := (.iload 6, 54, 0, 0, 0)) rfl (fun _ _ _ => rfl) : mo_Sim 38 52 (ma_load 0 6 54)) (mt_leaf (ms_iald (e := (.iaload, 55, 0, 0, 0)) rfl (fun _ _ _ => rfl) : mo_Sim 38 54 (ma_iald 54 55)) (mt_leaf (ms_ald (e := (.aload_n 0, 56, 0, 0, 0)) rfl (fun _ _ _ => rfl) : mo_Sim 38 55 (ma_lda 0 56)) (mt_leaf (ms_getf (e := (.getfield 9, 59, 4, 4, 368)) rfl (fun _ _ _ => rfl) : mo_Sim 38 56 (ma_getf 4 4 59)) (mt_none))))
set_option maxRecDepth 100000 in
theorem smt38_13 (k : Nat) : ∀ f, mt38_13 k = some f → mo_Sim 38 k f := mt_node (smt38_14 k) (smt38_15 k)
set_option maxRecDepth 100000 in
theorem smt38_9 (k : Nat) : ∀ f, mt38_9 k = some f → mo_Sim 38 k f := mt_node (smt38_10 k) (smt38_13 k)
set_option maxRecDepth 100000 in
theorem smt38_1 (k : Nat) : ∀ f, mt38_1 k = some f → mo_Sim 38 k f := mt_node (smt38_2 k) (smt38_9 k)
set_option maxRecDepth 100000 in
theorem smt38_19 (k : Nat) : ∀ f, mt38_19 k = some f → mo_Sim 38 k f := mt_leaf (ms_ild (e := (.iload 7, 61, 0, 0, 0)) rfl (fun _ _ _ => rfl) : mo_Sim 38 59 (ma_load 0 7 61)) (mt_leaf (ms_iald (e := (.iaload, 62, 0, 0, 0)) rfl (fun _ _ _ => rfl) : mo_Sim 38 61 (ma_iald 61 62)) (mt_leaf (ms_invV (p := 4) (e := (.invokevirtual 51, 65, 45, 0, 637)) rfl rfl (fun _ _ _ => rfl) rfl rfl rfl (by decide) : mo_Sim 38 62 (ma_inv 45 5 15 5 65)) (mt_leaf (ms_pushi (e := (.iconst 0, 66, 0, 0, 0)) rfl (fun _ _ _ => rfl) (by decide) : mo_Sim 38 65 (ma_push (ma_ci (.ofNat 0)) 66)) (mt_none))))
set_option maxRecDepth 100000 in
theorem smt38_20 (k : Nat) : ∀ f, mt38_20 k = some f → mo_Sim 38 k f := mt_leaf (ms_ist (e := (.istore 8, 68, 0, 0, 0)) rfl (fun _ _ _ => rfl) : mo_Sim 38 66 (ma_stor 0 8 68)) (mt_leaf (ms_ild (e := (.iload 8, 70, 0, 0, 0)) rfl (fun _ _ _ => rfl) : mo_Sim 38 68 (ma_load 0 8 70)) (mt_leaf (ms_ald (e := (.aload_n 0, 71, 0, 0, 0)) rfl (fun _ _ _ => rfl) : mo_Sim 38 70 (ma_lda 0 71)) (mt_leaf (ms_getf (e := (.getfield 25, 74, 4, 3, 365)) rfl (fun _ _ _ => rfl) : mo_Sim 38 71 (ma_getf 4 3 74)) (mt_none))))
set_option maxRecDepth 100000 in
theorem smt38_18 (k : Nat) : ∀ f, mt38_18 k = some f → mo_Sim 38 k f := mt_node (smt38_19 k) (smt38_20 k)
set_option maxRecDepth 100000 in
theorem smt38_22 (k : Nat) : ∀ f, mt38_22 k = some f → mo_Sim 38 k f := mt_leaf (ms_if2 (e := (.if_icmp .ge 33, 77, 107, 0, 0)) rfl (fun _ _ _ => rfl) : mo_Sim 38 74 (ma_if2 .ge 107 74 77)) (mt_leaf (ms_ald (e := (.aload_n 0, 78, 0, 0, 0)) rfl (fun _ _ _ => rfl) : mo_Sim 38 77 (ma_lda 0 78)) (mt_leaf (ms_getf (e := (.getfield 22, 81, 4, 2, 362)) rfl (fun _ _ _ => rfl) : mo_Sim 38 78 (ma_getf 4 2 81)) (mt_leaf (ms_ald (e := (.aload_n 3, 82, 0, 0, 0)) rfl (fun _ _ _ => rfl) : mo_Sim 38 81 (ma_lda 3 82)) (mt_none))))
set_option maxRecDepth 100000 in
theorem smt38_23 (k : Nat) : ∀ f, mt38_23 k = some f → mo_Sim 38 k f := mt_leaf (ms_getf (e := (.getfield 57, 85, 5, 0, 190)) rfl (fun _ _ _ => rfl) : mo_Sim 38 82 (ma_getf 5 0 85)) (mt_leaf (ms_ald (e := (.aload_n 0, 86, 0, 0, 0)) rfl (fun _ _ _ => rfl) : mo_Sim 38 85 (ma_lda 0 86)) (mt_leaf (ms_getf (e := (.getfield 9, 89, 4, 4, 368)) rfl (fun _ _ _ => rfl) : mo_Sim 38 86 (ma_getf 4 4 89)) (mt_leaf (ms_ild (e := (.iload 8, 91, 0, 0, 0)) rfl (fun _ _ _ => rfl) : mo_Sim 38 89 (ma_load 0 8 91)) (mt_none))))
set_option maxRecDepth 100000 in
theorem smt38_21 (k : Nat) : ∀ f, mt38_21 k = some f → mo_Sim 38 k f := mt_node (smt38_22 k) (smt38_23 k)
set_option maxRecDepth 100000 in
theorem smt38_17 (k : Nat) : ∀ f, mt38_17 k = some f → mo_Sim 38 k f := mt_node (smt38_18 k) (smt38_21 k)
set_option maxRecDepth 100000 in
theorem smt38_26 (k : Nat) : ∀ f, mt38_26 k = some f → mo_Sim 38 k f := mt_leaf (ms_iald (e := (.iaload, 92, 0, 0, 0)) rfl (fun _ _ _ => rfl) : mo_Sim 38 91 (ma_iald 91 92)) (mt_leaf (ms_iald (e := (.iaload, 93, 0, 0, 0)) rfl (fun _ _ _ => rfl) : mo_Sim 38 92 (ma_iald 92 93)) (mt_leaf (ms_i2 (e := (.ishr, 94, 0, 0, 0)) rfl (fun _ _ _ => rfl) hf_shr : mo_Sim 38 93 (ma_i2 ma_fshr 93 94)) (mt_leaf (ms_pushi (e := (.iconst 1, 95, 0, 0, 0)) rfl (fun _ _ _ => rfl) (by decide) : mo_Sim 38 94 (ma_push (ma_ci (.ofNat 1)) 95)) (mt_none))))
set_option maxRecDepth 100000 in
theorem smt38_27 (k : Nat) : ∀ f, mt38_27 k = some f → mo_Sim 38 k f := mt_leaf (ms_iand (e := (.iand, 96, 0, 0, 0)) rfl (fun _ _ _ => rfl) : mo_Sim 38 95 (ma_iand 95 96)) (mt_leaf (ms_if0 (e := (.ifCond .ne 5, 99, 101, 0, 0)) rfl (fun _ _ _ => rfl) : mo_Sim 38 96 (ma_if0 .ne 101 96 99)) (mt_leaf (ms_pushi (e := (.iconst 0, 100, 0, 0, 0)) rfl (fun _ _ _ => rfl) (by decide) : mo_Sim 38 99 (ma_push (ma_ci (.ofNat 0)) 100)) (mt_leaf (ms_ret (e := (.ireturn, 101, 0, 0, 0)) rfl (Or.inr (Or.inl ⟨rfl, rfl, (fun _ _ _ => rfl)⟩)) : mo_Sim 38 100 (ma_ret 1)) (mt_none))))
set_option maxRecDepth 100000 in
theorem smt38_25 (k : Nat) : ∀ f, mt38_25 k = some f → mo_Sim 38 k f := mt_node (smt38_26 k) (smt38_27 k)
set_option maxRecDepth 100000 in
theorem smt38_29 (k : Nat) : ∀ f, mt38_29 k = some f → mo_Sim 38 k f := mt_leaf (ms_iinc (e := (.iinc 8 1, 104, 0, 0, 0)) rfl (fun _ _ _ => rfl) (by decide) : mo_Sim 38 101 (ma_iinc 8 (.ofNat 1) 101 104)) (mt_leaf (ms_goto (e := (.goto (-36), 107, 68, 0, 0)) rfl (fun _ _ _ => rfl) : mo_Sim 38 104 (ma_goto 68)) (mt_leaf (ms_iinc (e := (.iinc 7 1, 110, 0, 0, 0)) rfl (fun _ _ _ => rfl) (by decide) : mo_Sim 38 107 (ma_iinc 7 (.ofNat 1) 107 110)) (mt_leaf (ms_goto (e := (.goto (-75), 113, 35, 0, 0)) rfl (fun _ _ _ => rfl) : mo_Sim 38 110 (ma_goto 35)) (mt_none))))
set_option maxRecDepth 100000 in
theorem smt38_30 (k : Nat) : ∀ f, mt38_30 k = some f → mo_Sim 38 k f := mt_leaf (ms_iinc (e := (.iinc 6 1, 116, 0, 0, 0)) rfl (fun _ _ _ => rfl) (by decide) : mo_Sim 38 113 (ma_iinc 6 (.ofNat 1) 113 116)) (mt_leaf (ms_goto (e := (.goto (-91), 119, 25, 0, 0)) rfl (fun _ _ _ => rfl) : mo_Sim 38 116 (ma_goto 25)) (mt_leaf (ms_pushi (e := (.iconst 1, 120, 0, 0, 0)) rfl (fun _ _ _ => rfl) (by decide) : mo_Sim 38 119 (ma_push (ma_ci (.ofNat 1)) 120)) (mt_leaf (ms_ret (e := (.ireturn, 121, 0, 0, 0)) rfl (Or.inr (Or.inl ⟨rfl, rfl, (fun _ _ _ => rfl)⟩)) : mo_Sim 38 120 (ma_ret 1)) (mt_none))))
set_option maxRecDepth 100000 in
theorem smt38_28 (k : Nat) : ∀ f, mt38_28 k = some f → mo_Sim 38 k f := mt_node (smt38_29 k) (smt38_30 k)
set_option maxRecDepth 100000 in
theorem smt38_24 (k : Nat) : ∀ f, mt38_24 k = some f → mo_Sim 38 k f := mt_node (smt38_25 k) (smt38_28 k)
set_option maxRecDepth 100000 in
theorem smt38_16 (k : Nat) : ∀ f, mt38_16 k = some f → mo_Sim 38 k f := mt_node (smt38_17 k) (smt38_24 k)
set_option maxRecDepth 100000 in
theorem smt38_0 (k : Nat) : ∀ f, mt38_0 k = some f → mo_Sim 38 k f := mt_node (smt38_1 k) (smt38_16 k)
set_option maxRecDepth 100000 in
theorem smt39_4 (k : Nat) : ∀ f, mt39_4 k = some f → mo_Sim 39 k f := mt_leaf (ms_ald (e := (.aload_n 0, 1, 0, 0, 0)) rfl (fun _ _ _ => rfl) : mo_Sim 39 0 (ma_lda 0 1)) (mt_leaf (ms_getf (e := (.getfield 25, 4, 4, 3, 365)) rfl (fun _ _ _ => rfl) : mo_Sim 39 1 (ma_getf 4 3 4)) (mt_leaf (ms_ist (e := (.istore 4, 6, 0, 0, 0)) rfl (fun _ _ _ => rfl) : mo_Sim 39 4 (ma_stor 0 4 6)) (mt_leaf (ms_ald (e := (.aload_n 0, 7, 0, 0, 0)) rfl (fun _ _ _ => rfl) : mo_Sim 39 6 (ma_lda 0 7)) (mt_none))))
set_option maxRecDepth 100000 in
theorem smt39_5 (k : Nat) : ∀ f, mt39_5 k = some f → mo_Sim 39 k f := mt_leaf (ms_ald (e := (.aload_n 1, 8, 0, 0, 0)) rfl (fun _ _ _ => rfl) : mo_Sim 39 7 (ma_lda 1 8)) (mt_leaf (ms_getf (e := (.getfield 42, 11, 0, 0, 390)) rfl (fun _ _ _ => rfl) : mo_Sim 39 8 (ma_getf 0 0 11)) (mt_leaf (ms_pushi (e := (.iconst 3, 12, 0, 0, 0)) rfl (fun _ _ _ => rfl) (by decide) : mo_Sim 39 11 (ma_push (ma_ci (.ofNat 3)) 12)) (mt_leaf (ms_invV (p := 2) (e := (.invokevirtual 45, 15, 41, 0, 630)) rfl rfl (fun _ _ _ => rfl) rfl rfl rfl (by decide) : mo_Sim 39 12 (ma_inv 41 3 3 4 15)) (mt_none))))
set_option maxRecDepth 100000 in
theorem smt39_3 (k : Nat) : ∀ f, mt39_3 k = some f → mo_Sim 39 k f := mt_node (smt39_4 k) (smt39_5 k)
set_option maxRecDepth 100000 in
theorem smt39_7 (k : Nat) : ∀ f, mt39_7 k = some f → mo_Sim 39 k f := mt_leaf (ms_ist (e := (.istore 5, 17, 0, 0, 0)) rfl (fun _ _ _ => rfl) : mo_Sim 39 15 (ma_stor 0 5 17)) (mt_leaf (ms_ald (e := (.aload_n 0, 18, 0, 0, 0)) rfl (fun _ _ _ => rfl) : mo_Sim 39 17 (ma_lda 0 18)) (mt_leaf (ms_ald (e := (.aload_n 1, 19, 0, 0, 0)) rfl (fun _ _ _ => rfl) : mo_Sim 39 18 (ma_lda 1 19)) (mt_leaf (ms_getf (e := (.getfield 42, 22, 0, 0, 390)) rfl (fun _ _ _ => rfl) : mo_Sim 39 19 (ma_getf 0 0 22)) (mt_none))))
set_option maxRecDepth 100000 in
theorem smt39_8 (k : Nat) : ∀ f, mt39_8 k = some f → mo_Sim 39 k f := mt_leaf (ms_pushi (e := (.iconst 2, 23, 0, 0, 0)) rfl (fun _ _ _ => rfl) (by decide) : mo_Sim 39 22 (ma_push (ma_ci (.ofNat 2)) 23)) (mt_leaf (ms_invV (p := 2) (e := (.invokevirtual 45, 26, 41, 0, 630)) rfl rfl (fun _ _ _ => rfl) rfl rfl rfl (by decide) : mo_Sim 39 23 (ma_inv 41 3 3 4 26)) (mt_leaf (ms_ist (e := (.istore 6, 28, 0, 0, 0)) rfl (fun _ _ _ => rfl) : mo_Sim 39 26 (ma_stor 0 6 28)) (mt_leaf (ms_pushi (e := (.iconst 0, 29, 0, 0, 0)) rfl (fun _ _ _ => rfl) (by decide) : mo_Sim 39 28 (ma_push (ma_ci (.ofNat 0)) 29)) (mt_none))))
set_option maxRecDepth 100000 in
theorem smt39_6 (k : Nat) : ∀ f, mt39_6 k = some f → mo_Sim 39 k f := mt_node (smt39_7 k) (smt39_8 k)
set_option maxRecDepth 100000 in
theorem smt39_2 (k : Nat) : ∀ f, mt39_2 k = some f → mo_Sim 39 k f := mt_node (smt39_3 k) (smt39_6 k)
set_option maxRecDepth 100000 in
theorem smt39_11 (k : Nat) : ∀ f, mt39_11 k = some f → mo_Sim 39 k f := mt_leaf (ms_ist (e := (.istore 7, 31, 0, 0, 0)) rfl (fun _ _ _ => rfl) : mo_Sim 39 29 (ma_stor 0 7 31)) (mt_leaf (ms_ild (e := (.iload 7, 33, 0, 0, 0)) rfl (fun _ _ _ => rfl) : mo_Sim 39 31 (ma_load 0 7 33)) (mt_leaf (ms_ild (e := (.iload 5, 35, 0, 0, 0)) rfl (fun _ _ _ => rfl) : mo_Sim 39 33 (ma_load 0 5 35)) (mt_leaf (ms_if2 (e := (.if_icmp .ge 80, 38, 115, 0, 0)) rfl (fun _ _ _ => rfl) : mo_Sim 39 35 (ma_if2 .ge 115 35 38)) (mt_none))))
set_option maxRecDepth 100000 in
theorem smt39_12 (k : Nat) : ∀ f, mt39_12 k = some f → mo_Sim 39 k f := mt_leaf (ms_pushi (e := (.iconst 0, 39, 0, 0, 0)) rfl (fun _ _ _ => rfl) (by decide) : mo_Sim 39 38 (ma_push (ma_ci (.ofNat 0)) 39)) (mt_leaf (ms_ist (e := (.istore 8, 41, 0, 0, 0)) rfl (fun _ _ _ => rfl) : mo_Sim 39 39 (ma_stor 0 8 41)) (mt_leaf (ms_ild (e := (.iload 8, 43, 0, 0, 0)) rfl (fun _ _ _ => rfl) : mo_Sim 39 41 (ma_load 0 8 43)) (mt_leaf (ms_ild (e := (.iload 6, 45, 0, 0, 0)) rfl (fun _ _ _ => rfl) : mo_Sim 39 43 (ma_load 0 6 45)) (mt_none))))
set_option maxRecDepth 100000 in
theorem smt39_10 (k : Nat) : ∀ f, mt39_10 k = some f → mo_Sim 39 k f := mt_node (smt39_11 k) (smt39_12 k)
set_option maxRecDepth 100000 in
theorem smt39_14 (k : Nat) : ∀ f, mt39_14 k = some f → mo_Sim 39 k f := mt_leaf (ms_if2 (e := (.if_icmp .ge 64, 48, 109, 0, 0)) rfl (fun _ _ _ => rfl) : mo_Sim 39 45 (ma_if2 .ge 109 45 48)) (mt_leaf (ms_ald (e := (.aload_n 3, 49, 0, 0, 0)) rfl (fun _ _ _ => rfl) : mo_Sim 39 48 (ma_lda 3 49)) (mt_leaf (ms_ald (e := (.aload_n 2, 50, 0, 0, 0)) rfl (fun _ _ _ => rfl) : mo_Sim 39 49 (ma_lda 2 50)) (mt_leaf (ms_ald (e := (.aload_n 1, 51, 0, 0, 0)) rfl (fun _ _ _ => rfl) : mo_Sim 39 50 (ma_lda 1 51)) (mt_none))))
set_option maxRecDepth 100000 in
theorem smt39_16 (k : Nat) : ∀ f, mt39_16 k = some f → mo_Sim 39 k f := mt_leaf (ms_getf (e := (.getfield 48, 54, 0, 2, 396)) rfl (fun _ _ _ => rfl) : mo_Sim 39 51 (ma_getf 0 2 54)) (mt_leaf (ms_ald (e := (.aload_n 0, 55, 0, 0, 0)) rfl (fun _ _ _ => rfl) : mo_Sim 39 54 (ma_lda 0 55)) (mt_none))
set_option maxRecDepth 100000 in
theorem smt39_17 (k : Nat) : ∀ f, mt39_17 k = some f → mo_Sim 39 k f := mt_leaf (ms_getf (e := (.getfield 9, 58, 4, 4, 368)) rfl (fun _ _ _ => rfl) : mo_Sim 39 55 (ma_getf 4 4 58)) (mt_leaf (ms_ild (e := (.iload 7, 60, 0, 0, 0)) rfl (fun _ _ _ => rfl) : mo_Sim 39 58 (ma_load 0 7 60)) (mt_leaf (ms_iald (e := (.iaload, 61, 0, 0, 0)) rfl (fun _ _ _ => rfl) : mo_Sim 39 60 (ma_iald 60 61)) (mt_none)))
set_option maxRecDepth 100000 in
theorem smt39_15 (k : Nat) : ∀ f, mt39_15 k = some f → mo_Sim 39 k f := mt_node (smt39_16 k) (smt39_17 k)
set_option maxRecDepth 100000 in
theorem smt39_13 (k : Nat) : ∀ f, mt39_13 k = some f → mo_Sim 39 k f := mt_node (smt39_14 k) (smt39_15 k)
set_option maxRecDepth 100000 in
theorem smt39_9 (k : Nat) : ∀ f, mt39_9 k = some f → mo_Sim 39 k f := mt_node (smt39_10 k) (smt39_13 k)
set_option maxRecDepth 100000 in
theorem smt39_1 (k : Nat) : ∀ f, mt39_1 k = some f → mo_Sim 39 k f := mt_node (smt39_2 k) (smt39_9 k)
set_option maxRecDepth 100000 in
theorem smt39_21 (k : Nat) : ∀ f, mt39_21 k = some f → mo_Sim 39 k f := mt_leaf (ms_ald (e := (.aload_n 0, 62, 0, 0, 0)) rfl (fun _ _ _ => rfl) : mo_Sim 39 61 (ma_lda 0 62)) (mt_leaf (ms_getf (e := (.getfield 9, 65, 4, 4, 368)) rfl (fun _ _ _ => rfl) : mo_Sim 39 62 (ma_getf 4 4 65)) (mt_leaf (ms_ild (e := (.iload 8, 67, 0, 0, 0)) rfl (fun _ _ _ => rfl) : mo_Sim 39 65 (ma_load 0 8 67)) (mt_leaf (ms_iald (e := (.iaload, 68, 0, 0, 0)) rfl (fun _ _ _ => rfl) : mo_Sim 39 67 (ma_iald 67 68)) (mt_none))))
set_option maxRecDepth 100000 in
theorem smt39_22 (k : Nat) : ∀ f, mt39_22 k = some f → mo_Sim 39 k f := mt_leaf (ms_invV (p := 4) (e := (.invokevirtual 51, 71, 45, 0, 637)) rfl rfl (fun _ _ _ => rfl) rfl rfl rfl (by decide) : mo_Sim 39 68 (ma_inv 45 5 15 5 71)) (mt_leaf (ms_pushi (e := (.iconst 0, 72, 0, 0, 0)) rfl (fun _ _ _ => rfl) (by decide) : mo_Sim 39 71 (ma_push (ma_ci (.ofNat 0)) 72)) (mt_leaf (ms_ist (e := (.istore 9, 74, 0, 0, 0)) rfl (fun _ _ _ => rfl) : mo_Sim 39 72 (ma_stor 0 9 74)) (mt_leaf (ms_ild (e := (.iload 9, 76, 0, 0, 0)) rfl (fun _ _ _ => rfl) : mo_Sim 39 74 (ma_load 0 9 76)) (mt_none))))
set_option maxRecDepth 100000 in
theorem smt39_20 (k : Nat) : ∀ f, mt39_20 k = some f → mo_Sim 39 k f := mt_node (smt39_21 k) (smt39_22 k)
set_option maxRecDepth 100000 in
theorem smt39_24 (k : Nat) : ∀ f, mt39_24 k = some f → mo_Sim 39 k f := mt_leaf (ms_ild (e := (.iload 4, 78, 0, 0, 0)) rfl (fun _ _ _ => rfl) : mo_Sim 39 76 (ma_load 0 4 78)) (mt_leaf (ms_if2 (e := (.if_icmp .ge 25, 81, 103, 0, 0)) rfl (fun _ _ _ => rfl) : mo_Sim 39 78 (ma_if2 .ge 103 78 81)) (mt_leaf (ms_ald (e := (.aload_n 0, 82, 0, 0, 0)) rfl (fun _ _ _ => rfl) : mo_Sim 39 81 (ma_lda 0 82)) (mt_leaf (ms_ald (e := (.aload_n 3, 83, 0, 0, 0)) rfl (fun _ _ _ => rfl) : mo_Sim 39 82 (ma_lda 3 83)) (mt_none))))
set_option maxRecDepth 100000 in
theorem smt39_25 (k : Nat) : ∀ f, mt39_25 k = some f → mo_Sim 39 k f := mt_leaf (ms_getf (e := (.getfield 57, 86, 5, 0, 190)) rfl (fun _ _ _ => rfl) : mo_Sim 39 83 (ma_getf 5 0 86)) (mt_leaf (ms_ald (e := (.aload_n 0, 87, 0, 0, 0)) rfl (fun _ _ _ => rfl) : mo_Sim 39 86 (ma_lda 0 87)) (mt_leaf (ms_getf (e := (.getfield 9, 90, 4, 4, 368)) rfl (fun _ _ _ => rfl) : mo_Sim 39 87 (ma_getf 4 4 90)) (mt_leaf (ms_ild (e := (.iload 9, 92, 0, 0, 0)) rfl (fun _ _ _ => rfl) : mo_Sim 39 90 (ma_load 0 9 92)) (mt_none))))
set_option maxRecDepth 100000 in
theorem smt39_23 (k : Nat) : ∀ f, mt39_23 k = some f → mo_Sim 39 k f := mt_node (smt39_24 k) (smt39_25 k)
set_option maxRecDepth 100000 in
theorem smt39_19 (k : Nat) : ∀ f, mt39_19 k = some f → mo_Sim 39 k f := mt_node (smt39_20 k) (smt39_23 k)
set_option maxRecDepth 100000 in
theorem smt39_28 (k : Nat) : ∀ f, mt39_28 k = some f → mo_Sim 39 k f := mt_leaf (ms_iald (e := (.iaload, 93, 0, 0, 0)) rfl (fun _ _ _ => rfl) : mo_Sim 39 92 (ma_iald 92 93)) (mt_leaf (ms_iald (e := (.iaload, 94, 0, 0, 0)) rfl (fun _ _ _ => rfl) : mo_Sim 39 93 (ma_iald 93 94)) (mt_leaf (ms_invV (p := 1) (e := (.invokevirtual 38, 97, 42, 0, 601)) rfl rfl (fun _ _ _ => rfl) rfl rfl rfl (by decide) : mo_Sim 39 94 (ma_inv 42 2 2 4 97)) (mt_leaf (ms_iinc (e := (.iinc 9 1, 100, 0, 0, 0)) rfl (fun _ _ _ => rfl) (by decide) : mo_Sim 39 97 (ma_iinc 9 (.ofNat 1) 97 100)) (mt_none))))
set_option maxRecDepth 100000 in
theorem smt39_29 (k : Nat) : ∀ f, mt39_29 k = some f → mo_Sim 39 k f := mt_leaf (ms_goto (e := (.goto (-26), 103, 74, 0, 0)) rfl (fun _ _ _ => rfl) : mo_Sim 39 100 (ma_goto 74)) (mt_leaf (ms_iinc (e := (.iinc 8 1, 106, 0, 0, 0)) rfl (fun _ _ _ => rfl) (by decide) : mo_Sim 39 103 (ma_iinc 8 (.ofNat 1) 103 106)) (mt_leaf (ms_goto (e := (.goto (-65), 109, 41, 0, 0)) rfl (fun _ _ _ => rfl) : mo_Sim 39 106 (ma_goto 41)) (mt_leaf (ms_iinc (e := (.iinc 7 1, 112, 0, 0, 0)) rfl (fun _ _ _ => rfl) (by decide) : mo_Sim 39 109 (ma_iinc 7 (.ofNat 1) 109 112)) (mt_none))))
set_option maxRecDepth 100000 in
theorem smt39_27 (k : Nat) : ∀ f, mt39_27 k = some f → mo_Sim 39 k f := mt_node (smt39_28 k) (smt39_29 k)
set_option maxRecDepth 100000 in
theorem smt39_31 (k : Nat) : ∀ f, mt39_31 k = some f → mo_Sim 39 k f := mt_leaf (ms_goto (e := (.goto (-81), 115, 31, 0, 0)) rfl (fun _ _ _ => rfl) : mo_Sim 39 112 (ma_goto 31)) (mt_leaf (ms_ald (e := (.aload_n 0, 116, 0, 0, 0)) rfl (fun _ _ _ => rfl) : mo_Sim 39 115 (ma_lda 0 116)) (mt_leaf (ms_getf (e := (.getfield 25, 119, 4, 3, 365)) rfl (fun _ _ _ => rfl) : mo_Sim 39 116 (ma_getf 4 3 119)) (mt_leaf (ms_ild (e := (.iload 4, 121, 0, 0, 0)) rfl (fun _ _ _ => rfl) : mo_Sim 39 119 (ma_load 0 4 121)) (mt_none))))
set_option maxRecDepth 100000 in
theorem smt39_33 (k : Nat) : ∀ f, mt39_33 k = some f → mo_Sim 39 k f := mt_leaf (ms_if2 (e := (.if_icmp .le 7, 124, 128, 0, 0)) rfl (fun _ _ _ => rfl) : mo_Sim 39 121 (ma_if2 .le 128 121 124)) (mt_leaf (ms_pushi (e := (.iconst 1, 125, 0, 0, 0)) rfl (fun _ _ _ => rfl) (by decide) : mo_Sim 39 124 (ma_push (ma_ci (.ofNat 1)) 125)) (mt_none))
set_option maxRecDepth 100000 in
theorem smt39_34 (k : Nat) : ∀ f, mt39_34 k = some f → mo_Sim 39 k f := mt_leaf (ms_goto (e := (.goto 4, 128, 129, 0, 0)) rfl (fun _ _ _ => rfl) : mo_Sim 39 125 (ma_goto 129)) (mt_leaf (ms_pushi (e := (.iconst 0, 129, 0, 0, 0)) rfl (fun _ _ _ => rfl) (by decide) : mo_Sim 39 128 (ma_push (ma_ci (.ofNat 0)) 129)) (mt_leaf (ms_ret (e := (.ireturn, 130, 0, 0, 0)) rfl (Or.inr (Or.inl ⟨rfl, rfl, (fun _ _ _ => rfl)⟩)) : mo_Sim 39 129 (ma_ret 1)) (mt_none)))
set_option maxRecDepth 100000 in
theorem smt39_32 (k : Nat) : ∀ f, mt39_32 k = some f → mo_Sim 39 k f := mt_node (smt39_33 k) (smt39_34 k)
set_option maxRecDepth 100000 in
theorem smt39_30 (k : Nat) : ∀ f, mt39_30 k = some f → mo_Sim 39 k f := mt_node (smt39_31 k) (smt39_32 k)
set_option maxRecDepth 100000 in
theorem smt39_26 (k : Nat) : ∀ f, mt39_26 k = some f → mo_Sim 39 k f := mt_node (smt39_27 k) (smt39_30 k)
set_option maxRecDepth 100000 in
theorem smt39_18 (k : Nat) : ∀ f, mt39_18 k = some f → mo_Sim 39 k f := mt_node (smt39_19 k) (smt39_26 k)
set_option maxRecDepth 100000 in
theorem smt39_0 (k : Nat) : ∀ f, mt39_0 k = some f → mo_Sim 39 k f := mt_node (smt39_1 k) (smt39_18 k)
set_option maxRecDepth 100000 in
theorem smt40_3 (k : Nat) : ∀ f, mt40_3 k = some f → mo_Sim 40 k f := mt_leaf (ms_pushi (e := (.iconst 0, 1, 0, 0, 0)) rfl (fun _ _ _ => rfl) (by decide) : mo_Sim 40 0 (ma_push (ma_ci (.ofNat 0)) 1)) (mt_leaf (ms_ist (e := (.istore_n 2, 2, 0, 0, 0)) rfl (fun _ _ _ => rfl) : mo_Sim 40 1 (ma_stor 0 2 2)) (mt_leaf (ms_ald (e := (.aload_n 1, 3, 0, 0, 0)) rfl (fun _ _ _ => rfl) : mo_Sim 40 2 (ma_lda 1 3)) (mt_leaf (ms_ald (e := (.aload_n 0, 4, 0, 0, 0)) rfl (fun _ _ _ => rfl) : mo_Sim 40 3 (ma_lda 0 4)) (mt_none))))
set_option maxRecDepth 100000 in
theorem smt40_4 (k : Nat) : ∀ f, mt40_4 k = some f → mo_Sim 40 k f := mt_leaf (ms_getf (e := (.getfield 15, 7, 4, 0, 358)) rfl (fun _ _ _ => rfl) : mo_Sim 40 4 (ma_getf 4 0 7)) (mt_leaf (ms_invV (p := 1) (e := (.invokevirtual 28, 10, 12, 0, 596)) rfl rfl (fun _ _ _ => rfl) rfl rfl rfl (by decide) : mo_Sim 40 7 (ma_inv 12 2 4 1 10)) (mt_leaf (ms_ist (e := (.istore_n 3, 11, 0, 0, 0)) rfl (fun _ _ _ => rfl) : mo_Sim 40 10 (ma_stor 0 3 11)) (mt_leaf (ms_pushi (e := (.iconst 0, 12, 0, 0, 0)) rfl (fun _ _ _ => rfl) (by decide) : mo_Sim 40 11 (ma_push (ma_ci (.ofNat 0)) 12)) (mt_none))))
set_option maxRecDepth 100000 in
theorem smt40_2 (k : Nat) : ∀ f, mt40_2 k = some f → mo_Sim 40 k f := mt_node (smt40_3 k) (smt40_4 k)
set_option maxRecDepth 100000 in
theorem smt40_6 (k : Nat) : ∀ f, mt40_6 k = some f → mo_Sim 40 k f := mt_leaf (ms_ist (e := (.istore 4, 14, 0, 0, 0)) rfl (fun _ _ _ => rfl) : mo_Sim 40 12 (ma_stor 0 4 14)) (mt_leaf (ms_ild (e := (.iload 4, 16, 0, 0, 0)) rfl (fun _ _ _ => rfl) : mo_Sim 40 14 (ma_load 0 4 16)) (mt_leaf (ms_ild (e := (.iload_n 3, 17, 0, 0, 0)) rfl (fun _ _ _ => rfl) : mo_Sim 40 16 (ma_load 0 3 17)) (mt_leaf (ms_if2 (e := (.if_icmp .ge 36, 20, 53, 0, 0)) rfl (fun _ _ _ => rfl) : mo_Sim 40 17 (ma_if2 .ge 53 17 20)) (mt_none))))
set_option maxRecDepth 100000 in
theorem smt40_7 (k : Nat) : ∀ f, mt40_7 k = some f → mo_Sim 40 k f := mt_leaf (ms_ald (e := (.aload_n 0, 21, 0, 0, 0)) rfl (fun _ _ _ => rfl) : mo_Sim 40 20 (ma_lda 0 21)) (mt_leaf (ms_getf (e := (.getfield 22, 24, 4, 2, 362)) rfl (fun _ _ _ => rfl) : mo_Sim 40 21 (ma_getf 4 2 24)) (mt_leaf (ms_ald (e := (.aload_n 1, 25, 0, 0, 0)) rfl (fun _ _ _ => rfl) : mo_Sim 40 24 (ma_lda 1 25)) (mt_leaf (ms_ild (e := (.iload 4, 27, 0, 0, 0)) rfl (fun _ _ _ => rfl) : mo_Sim 40 25 (ma_load 0 4 27)) (mt_none))))
set_option maxRecDepth 100000 in
theorem smt40_5 (k : Nat) : ∀ f, mt40_5 k = some f → mo_Sim 40 k f := mt_node (smt40_6 k) (smt40_7 k)
set_option maxRecDepth 100000 in
theorem smt40_1 (k : Nat) : ∀ f, mt40_1 k = some f → mo_Sim 40 k f := mt_node (smt40_2 k) (smt40_5 k)
set_option maxRecDepth 100000 in
theorem smt40_10 (k : Nat) : ∀ f, mt40_10 k = some f → mo_Sim 40 k f := mt_leaf (ms_ald (e := (.aload_n 0, 28, 0, 0, 0)) rfl (fun _ _ _ => rfl) : mo_Sim 40 27 (ma_lda 0 28)) (mt_leaf (ms_getf (e := (.getfield 15, 31, 4, 0, 358)) rfl (fun _ _ _ => rfl) : mo_Sim 40 28 (ma_getf 4 0 31)) (mt_leaf (ms_invV (p := 2) (e := (.invokevirtual 34, 34, 17, 0, 597)) rfl rfl (fun _ _ _ => rfl) rfl rfl rfl (by decide) : mo_Sim 40 31 (ma_inv 17 3 5 1 34)) (mt_leaf (ms_i2 (e := (.ishr, 35, 0, 0, 0)) rfl (fun _ _ _ => rfl) hf_shr : mo_Sim 40 34 (ma_i2 ma_fshr 34 35)) (mt_none))))
set_option maxRecDepth 100000 in
theorem smt40_11 (k : Nat) : ∀ f, mt40_11 k = some f → mo_Sim 40 k f := mt_leaf (ms_pushi (e := (.iconst 1, 36, 0, 0, 0)) rfl (fun _ _ _ => rfl) (by decide) : mo_Sim 40 35 (ma_push (ma_ci (.ofNat 1)) 36)) (mt_leaf (ms_iand (e := (.iand, 37, 0, 0, 0)) rfl (fun _ _ _ => rfl) : mo_Sim 40 36 (ma_iand 36 37)) (mt_leaf (ms_if0 (e := (.ifCond .eq 10, 40, 47, 0, 0)) rfl (fun _ _ _ => rfl) : mo_Sim 40 37 (ma_if0 .eq 47 37 40)) (mt_leaf (ms_ild (e := (.iload_n 2, 41, 0, 0, 0)) rfl (fun _ _ _ => rfl) : mo_Sim 40 40 (ma_load 0 2 41)) (mt_none))))
set_option maxRecDepth 100000 in
theorem smt40_9 (k : Nat) : ∀ f, mt40_9 k = some f → mo_Sim 40 k f := mt_node (smt40_10 k) (smt40_11 k)
set_option maxRecDepth 100000 in
theorem smt40_13 (k : Nat) : ∀ f, mt40_13 k = some f → mo_Sim 40 k f := mt_leaf (ms_pushi (e := (.iconst 1, 42, 0, 0, 0)) rfl (fun _ _ _ => rfl) (by decide) : mo_Sim 40 41 (ma_push (ma_ci (.ofNat 1)) 42)) (mt_leaf (ms_ild (e := (.iload 4, 44, 0, 0, 0)) rfl (fun _ _ _ => rfl) : mo_Sim 40 42 (ma_load 0 4 44)) (mt_leaf (ms_i2 (e := (.ishl, 45, 0, 0, 0)) rfl (fun _ _ _ => rfl) hf_shl : mo_Sim 40 44 (ma_i2 ma_fshl 44 45)) (mt_leaf (ms_i2 (e := (.ior, 46, 0, 0, 0)) rfl (fun _ _ _ => rfl) hf_or : mo_Sim 40 45 (ma_i2 ma_for 45 46)) (mt_none))))
set_option maxRecDepth 100000 in
theorem smt40_15 (k : Nat) : ∀ f, mt40_15 k = some f → mo_Sim 40 k f := mt_leaf (ms_ist (e := (.istore_n 2, 47, 0, 0, 0)) rfl (fun _ _ _ => rfl) : mo_Sim 40 46 (ma_stor 0 2 47)) (mt_leaf (ms_iinc (e := (.iinc 4 1, 50, 0, 0, 0)) rfl (fun _ _ _ => rfl) (by decide) : mo_Sim 40 47 (ma_iinc 4 (.ofNat 1) 47 50)) (mt_none))
set_option maxRecDepth 100000 in
theorem smt40_16 (k : Nat) : ∀ f, mt40_16 k = some f → mo_Sim 40 k f := mt_leaf (ms_goto (e := (.goto (-36), 53, 14, 0, 0)) rfl (fun _ _ _ => rfl) : mo_Sim 40 50 (ma_goto 14)) (mt_leaf (ms_ild (e := (.iload_n 2, 54, 0, 0, 0)) rfl (fun _ _ _ => rfl) : mo_Sim 40 53 (ma_load 0 2 54)) (mt_leaf (ms_ret (e := (.ireturn, 55, 0, 0, 0)) rfl (Or.inl ⟨rfl, rfl, (fun _ _ _ => rfl)⟩) : mo_Sim 40 54 (ma_ret 0)) (mt_none)))
set_option maxRecDepth 100000 in
theorem smt40_14 (k : Nat) : ∀ f, mt40_14 k = some f → mo_Sim 40 k f := mt_node (smt40_15 k) (smt40_16 k)
set_option maxRecDepth 100000 in
theorem smt40_12 (k : Nat) : ∀ f, mt40_12 k = some f → mo_Sim 40 k f := mt_node (smt40_13 k) (smt40_14 k)
set_option maxRecDepth 100000 in
theorem smt40_8 (k : Nat) : ∀ f, mt40_8 k = some f → mo_Sim 40 k f := mt_node (smt40_9 k) (smt40_12 k)
set_option maxRecDepth 100000 in
theorem smt40_0 (k : Nat) : ∀ f, mt40_0 k = some f → mo_Sim 40 k f := mt_node (smt40_1 k) (smt40_8 k)
set_option maxRecDepth 100000 in
theorem smt41_2 (k : Nat) : ∀ f, mt41_2 k = some f → mo_Sim 41 k f := mt_leaf (ms_ild (e := (.iload_n 1, 1, 0, 0, 0)) rfl (fun _ _ _ => rfl) : mo_Sim 41 0 (ma_load 0 1 1)) (mt_leaf (ms_ild (e := (.iload_n 2, 2, 0, 0, 0)) rfl (fun _ _ _ => rfl) : mo_Sim 41 1 (ma_load 0 2 2)) (mt_none))
set_option maxRecDepth 100000 in
theorem smt41_3 (k : Nat) : ∀ f, mt41_3 k = some f → mo_Sim 41 k f := mt_leaf (ms_if2 (e := (.if_icmp .lt 10, 5, 12, 0, 0)) rfl (fun _ _ _ => rfl) : mo_Sim 41 2 (ma_if2 .lt 12 2 5)) (mt_leaf (ms_ald (e := (.aload_n 0, 6, 0, 0, 0)) rfl (fun _ _ _ => rfl) : mo_Sim 41 5 (ma_lda 0 6)) (mt_leaf (ms_getf (e := (.getfield 25, 9, 4, 3, 365)) rfl (fun _ _ _ => rfl) : mo_Sim 41 6 (ma_getf 4 3 9)) (mt_none)))
set_option maxRecDepth 100000 in
theorem smt41_1 (k : Nat) : ∀ f, mt41_1 k = some f → mo_Sim 41 k f := mt_node (smt41_2 k) (smt41_3 k)
set_option maxRecDepth 100000 in
theorem smt41_5 (k : Nat) : ∀ f, mt41_5 k = some f → mo_Sim 41 k f := mt_leaf (ms_goto (e := (.goto 11, 12, 20, 0, 0)) rfl (fun _ _ _ => rfl) : mo_Sim 41 9 (ma_goto 20)) (mt_leaf (ms_ald (e := (.aload_n 0, 13, 0, 0, 0)) rfl (fun _ _ _ => rfl) : mo_Sim 41 12 (ma_lda 0 13)) (mt_leaf (ms_getf (e := (.getfield 25, 16, 4, 3, 365)) rfl (fun _ _ _ => rfl) : mo_Sim 41 13 (ma_getf 4 3 16)) (mt_none)))
set_option maxRecDepth 100000 in
theorem smt41_6 (k : Nat) : ∀ f, mt41_6 k = some f → mo_Sim 41 k f := mt_leaf (ms_pushi (e := (.iconst 1, 17, 0, 0, 0)) rfl (fun _ _ _ => rfl) (by decide) : mo_Sim 41 16 (ma_push (ma_ci (.ofNat 1)) 17)) (mt_leaf (ms_invS (e := (.invokestatic 60, 20, 206, 1, 634)) rfl rfl (fun _ _ _ => rfl) rfl rfl : mo_Sim 41 17 (ma_inv 206 2 2 20 20)) (mt_leaf (ms_ret (e := (.ireturn, 21, 0, 0, 0)) rfl (Or.inl ⟨rfl, rfl, (fun _ _ _ => rfl)⟩) : mo_Sim 41 20 (ma_ret 0)) (mt_none)))
set_option maxRecDepth 100000 in
theorem smt41_4 (k : Nat) : ∀ f, mt41_4 k = some f → mo_Sim 41 k f := mt_node (smt41_5 k) (smt41_6 k)
set_option maxRecDepth 100000 in
theorem smt41_0 (k : Nat) : ∀ f, mt41_0 k = some f → mo_Sim 41 k f := mt_node (smt41_1 k) (smt41_4 k)
set_option maxRecDepth 100000 in
theorem smt42_3 (k : Nat) : ∀ f, mt42_3 k = some f → mo_Sim 42 k f := mt_leaf (ms_ald (e := (.aload_n 0, 1, 0, 0, 0)) rfl (fun _ _ _ => rfl) : mo_Sim 42 0 (ma_lda 0 1)) (mt_leaf (ms_getf (e := (.getfield 25, 4, 4, 3, 365)) rfl (fun _ _ _ => rfl) : mo_Sim 42 1 (ma_getf 4 3 4)) (mt_leaf (ms_pushi (e := (.bipush 27, 6, 0, 0, 0)) rfl (fun _ _ _ => rfl) (by decide) : mo_Sim 42 4 (ma_push (ma_ci (.ofNat 27)) 6)) (mt_leaf (ms_if2 (e := (.if_icmp .ge 46, 9, 52, 0, 0)) rfl (fun _ _ _ => rfl) : mo_Sim 42 6 (ma_if2 .ge 52 6 9)) (mt_none))))
set_option maxRecDepth 100000 in
theorem smt42_4 (k : Nat) : ∀ f, mt42_4 k = some f → mo_Sim 42 k f := mt_leaf (ms_ald (e := (.aload_n 0, 10, 0, 0, 0)) rfl (fun _ _ _ => rfl) : mo_Sim 42 9 (ma_lda 0 10)) (mt_leaf (ms_getf (e := (.getfield 22, 13, 4, 2, 362)) rfl (fun _ _ _ => rfl) : mo_Sim 42 10 (ma_getf 4 2 13)) (mt_leaf (ms_ild (e := (.iload_n 1, 14, 0, 0, 0)) rfl (fun _ _ _ => rfl) : mo_Sim 42 13 (ma_load 0 1 14)) (mt_leaf (ms_i2 (e := (.ishr, 15, 0, 0, 0)) rfl (fun _ _ _ => rfl) hf_shr : mo_Sim 42 14 (ma_i2 ma_fshr 14 15)) (mt_none))))
set_option maxRecDepth 100000 in
theorem smt42_2 (k : Nat) : ∀ f, mt42_2 k = some f → mo_Sim 42 k f := mt_node (smt42_3 k) (smt42_4 k)
set_option maxRecDepth 100000 in
theorem smt42_6 (k : Nat) : ∀ f, mt42_6 k = some f → mo_Sim 42 k f := mt_leaf (ms_pushi (e := (.iconst 1, 16, 0, 0, 0)) rfl (fun _ _ _ => rfl) (by decide) : mo_Sim 42 15 (ma_push (ma_ci (.ofNat 1)) 16)) (mt_leaf (ms_iand (e := (.iand, 17, 0, 0, 0)) rfl (fun _ _ _ => rfl) : mo_Sim 42 16 (ma_iand 16 17)) (mt_leaf (ms_if0 (e := (.ifCond .ne 35, 20, 52, 0, 0)) rfl (fun _ _ _ => rfl) : mo_Sim 42 17 (ma_if0 .ne 52 17 20)) (mt_leaf (ms_ald (e := (.aload_n 0, 21, 0, 0, 0)) rfl (fun _ _ _ => rfl) : mo_Sim 42 20 (ma_lda 0 21)) (mt_none))))
set_option maxRecDepth 100000 in
theorem smt42_7 (k : Nat) : ∀ f, mt42_7 k = some f → mo_Sim 42 k f := mt_leaf (ms_getf (e := (.getfield 9, 24, 4, 4, 368)) rfl (fun _ _ _ => rfl) : mo_Sim 42 21 (ma_getf 4 4 24)) (mt_leaf (ms_ald (e := (.aload_n 0, 25, 0, 0, 0)) rfl (fun _ _ _ => rfl) : mo_Sim 42 24 (ma_lda 0 25)) (mt_leaf (ms_getf (e := (.getfield 25, 28, 4, 3, 365)) rfl (fun _ _ _ => rfl) : mo_Sim 42 25 (ma_getf 4 3 28)) (mt_leaf (ms_ild (e := (.iload_n 1, 29, 0, 0, 0)) rfl (fun _ _ _ => rfl) : mo_Sim 42 28 (ma_load 0 1 29)) (mt_none))))
set_option maxRecDepth 100000 in
theorem smt42_5 (k : Nat) : ∀ f, mt42_5 k = some f → mo_Sim 42 k f := mt_node (smt42_6 k) (smt42_7 k)
set_option maxRecDepth 100000 in
theorem smt42_1 (k : Nat) : ∀ f, mt42_1 k = some f → mo_Sim 42 k f := mt_node (smt42_2 k) (smt42_5 k)
set_option maxRecDepth 100000 in
theorem smt42_10 (k : Nat) : ∀ f, mt42_10 k = some f → mo_Sim 42 k f := mt_leaf (ms_iast (e := (.iastore, 30, 0, 0, 0)) rfl rfl (fun _ _ _ => rfl) : mo_Sim 42 29 (ma_ast 13 0 29 30)) (mt_leaf (ms_ald (e := (.aload_n 0, 31, 0, 0, 0)) rfl (fun _ _ _ => rfl) : mo_Sim 42 30 (ma_lda 0 31)) (mt_leaf (ms_dup (e := (.dup, 32, 0, 0, 0)) rfl (fun _ _ _ => rfl) : mo_Sim 42 31 (ma_dup 32)) (mt_leaf (ms_getf (e := (.getfield 25, 35, 4, 3, 365)) rfl (fun _ _ _ => rfl) : mo_Sim 42 32 (ma_getf 4 3 35)) (mt_none))))
set_option maxRecDepth 100000 in
theorem smt42_11 (k : Nat) : ∀ f, mt42_11 k = some f → mo_Sim 42 k f := mt_leaf (ms_pushi (e := (.iconst 1, 36, 0, 0, 0)) rfl (fun _ _ _ => rfl) (by decide) : mo_Sim 42 35 (ma_push (ma_ci (.ofNat 1)) 36)) (mt_leaf (ms_iadd (e := (.iadd, 37, 0, 0, 0)) rfl (fun _ _ _ => rfl) : mo_Sim 42 36 (ma_iadd 36 37)) (mt_leaf (ms_putf (e := (.putfield 25, 40, 4, 3, 365)) rfl rfl (fun _ _ _ => rfl) (Or.inl ⟨rfl, rfl⟩) : mo_Sim 42 37 (ma_putf 4 3 0 40)) (mt_leaf (ms_ald (e := (.aload_n 0, 41, 0, 0, 0)) rfl (fun _ _ _ => rfl) : mo_Sim 42 40 (ma_lda 0 41)) (mt_none))))
set_option maxRecDepth 100000 in
theorem smt42_9 (k : Nat) : ∀ f, mt42_9 k = some f → mo_Sim 42 k f := mt_node (smt42_10 k) (smt42_11 k)
set_option maxRecDepth 100000 in
theorem smt42_13 (k : Nat) : ∀ f, mt42_13 k = some f → mo_Sim 42 k f := mt_leaf (ms_dup (e := (.dup, 42, 0, 0, 0)) rfl (fun _ _ _ => rfl) : mo_Sim 42 41 (ma_dup 42)) (mt_leaf (ms_getf (e := (.getfield 22, 45, 4, 2, 362)) rfl (fun _ _ _ => rfl) : mo_Sim 42 42 (ma_getf 4 2 45)) (mt_leaf (ms_pushi (e := (.iconst 1, 46, 0, 0, 0)) rfl (fun _ _ _ => rfl) (by decide) : mo_Sim 42 45 (ma_push (ma_ci (.ofNat 1)) 46)) (mt_leaf (ms_ild (e := (.iload_n 1, 47, 0, 0, 0)) rfl (fun _ _ _ => rfl) : mo_Sim 42 46 (ma_load 0 1 47)) (mt_none))))
set_option maxRecDepth 100000 in
theorem smt42_14 (k : Nat) : ∀ f, mt42_14 k = some f → mo_Sim 42 k f := mt_leaf (ms_i2 (e := (.ishl, 48, 0, 0, 0)) rfl (fun _ _ _ => rfl) hf_shl : mo_Sim 42 47 (ma_i2 ma_fshl 47 48)) (mt_leaf (ms_i2 (e := (.ior, 49, 0, 0, 0)) rfl (fun _ _ _ => rfl) hf_or : mo_Sim 42 48 (ma_i2 ma_for 48 49)) (mt_leaf (ms_putf (e := (.putfield 22, 52, 4, 2, 362)) rfl rfl (fun _ _ _ => rfl) (Or.inl ⟨rfl, rfl⟩) : mo_Sim 42 49 (ma_putf 4 2 0 52)) (mt_leaf (ms_retv (e := (.return_, 53, 0, 0, 0)) rfl rfl (fun _ _ _ => rfl) : mo_Sim 42 52 (ma_retv)) (mt_none))))
set_option maxRecDepth 100000 in
theorem smt42_12 (k : Nat) : ∀ f, mt42_12 k = some f → mo_Sim 42 k f := mt_node (smt42_13 k) (smt42_14 k)
set_option maxRecDepth 100000 in
theorem smt42_8 (k : Nat) : ∀ f, mt42_8 k = some f → mo_Sim 42 k f := mt_node (smt42_9 k) (smt42_12 k)
set_option maxRecDepth 100000 in
theorem smt42_0 (k : Nat) : ∀ f, mt42_0 k = some f → mo_Sim 42 k f := mt_node (smt42_1 k) (smt42_8 k)
set_option maxRecDepth 100000 in
theorem smt43_1 (k : Nat) : ∀ f, mt43_1 k = some f → mo_Sim 43 k f := mt_leaf (ms_ald (e := (.aload_n 0, 1, 0, 0, 0)) rfl (fun _ _ _ => rfl) : mo_Sim 43 0 (ma_lda 0 1)) (mt_leaf (ms_obj (e := (.invokespecial 3, 4, 0, 4, 188)) rfl (fun _ _ _ => rfl) : mo_Sim 43 1 (ma_obj 4)) (mt_leaf (ms_ald (e := (.aload_n 0, 5, 0, 0, 0)) rfl (fun _ _ _ => rfl) : mo_Sim 43 4 (ma_lda 0 5)) (mt_none)))
set_option maxRecDepth 100000 in
theorem smt43_2 (k : Nat) : ∀ f, mt43_2 k = some f → mo_Sim 43 k f := mt_leaf (ms_pushi (e := (.bipush 27, 7, 0, 0, 0)) rfl (fun _ _ _ => rfl) (by decide) : mo_Sim 43 5 (ma_push (ma_ci (.ofNat 27)) 7)) (mt_leaf (ms_newaI (e := (.newarray .int, 9, 0, 0, 0)) rfl rfl (fun _ _ _ => rfl) : mo_Sim 43 7 (ma_newa 13 (ma_ci (.ofNat 0)) 9)) (mt_leaf (ms_putf (e := (.putfield 9, 12, 5, 0, 189)) rfl rfl (fun _ _ _ => rfl) (Or.inr (Or.inr (Or.inl ⟨rfl, Or.inr ⟨_, rfl⟩⟩))) : mo_Sim 43 9 (ma_putf 5 0 2 12)) (mt_leaf (ms_retv (e := (.return_, 13, 0, 0, 0)) rfl rfl (fun _ _ _ => rfl) : mo_Sim 43 12 (ma_retv)) (mt_none))))
set_option maxRecDepth 100000 in
theorem smt43_0 (k : Nat) : ∀ f, mt43_0 k = some f → mo_Sim 43 k f := mt_node (smt43_1 k) (smt43_2 k)
set_option maxRecDepth 100000 in
theorem smt44_2 (k : Nat) : ∀ f, mt44_2 k = some f → mo_Sim 44 k f := mt_leaf (ms_ald (e := (.aload_n 0, 1, 0, 0, 0)) rfl (fun _ _ _ => rfl) : mo_Sim 44 0 (ma_lda 0 1)) (mt_leaf (ms_ild (e := (.iload_n 1, 2, 0, 0, 0)) rfl (fun _ _ _ => rfl) : mo_Sim 44 1 (ma_load 0 1 2)) (mt_leaf (ms_putf (e := (.putfield 15, 5, 5, 1, 192)) rfl rfl (fun _ _ _ => rfl) (Or.inl ⟨rfl, rfl⟩) : mo_Sim 44 2 (ma_putf 5 1 0 5)) (mt_none)))
set_option maxRecDepth 100000 in
theorem smt44_3 (k : Nat) : ∀ f, mt44_3 k = some f → mo_Sim 44 k f := mt_leaf (ms_ald (e := (.aload_n 0, 6, 0, 0, 0)) rfl (fun _ _ _ => rfl) : mo_Sim 44 5 (ma_lda 0 6)) (mt_leaf (ms_ild (e := (.iload_n 2, 7, 0, 0, 0)) rfl (fun _ _ _ => rfl) : mo_Sim 44 6 (ma_load 0 2 7)) (mt_leaf (ms_putf (e := (.putfield 19, 10, 5, 2, 193)) rfl rfl (fun _ _ _ => rfl) (Or.inl ⟨rfl, rfl⟩) : mo_Sim 44 7 (ma_putf 5 2 0 10)) (mt_leaf (ms_ald (e := (.aload_n 0, 11, 0, 0, 0)) rfl (fun _ _ _ => rfl) : mo_Sim 44 10 (ma_lda 0 11)) (mt_none))))
set_option maxRecDepth 100000 in
theorem smt44_1 (k : Nat) : ∀ f, mt44_1 k = some f → mo_Sim 44 k f := mt_node (smt44_2 k) (smt44_3 k)
set_option maxRecDepth 100000 in
theorem smt44_5 (k : Nat) : ∀ f, mt44_5 k = some f → mo_Sim 44 k f := mt_leaf (ms_ild (e := (.iload_n 3, 12, 0, 0, 0)) rfl (fun _ _ _ => rfl) : mo_Sim 44 11 (ma_load 0 3 12)) (mt_leaf (ms_putf (e := (.putfield 22, 15, 5, 3, 194)) rfl rfl (fun _ _ _ => rfl) (Or.inl ⟨rfl, rfl⟩) : mo_Sim 44 12 (ma_putf 5 3 0 15)) (mt_leaf (ms_ald (e := (.aload_n 0, 16, 0, 0, 0)) rfl (fun _ _ _ => rfl) : mo_Sim 44 15 (ma_lda 0 16)) (mt_none)))
set_option maxRecDepth 100000 in
theorem smt44_6 (k : Nat) : ∀ f, mt44_6 k = some f → mo_Sim 44 k f := mt_leaf (ms_getf (e := (.getfield 9, 19, 5, 0, 189)) rfl (fun _ _ _ => rfl) : mo_Sim 44 16 (ma_getf 5 0 19)) (mt_leaf (ms_pushi (e := (.iconst 0, 20, 0, 0, 0)) rfl (fun _ _ _ => rfl) (by decide) : mo_Sim 44 19 (ma_push (ma_ci (.ofNat 0)) 20)) (mt_leaf (ms_invS (e := (.invokestatic 25, 23, 208, 1, 451)) rfl rfl (fun _ _ _ => rfl) rfl rfl : mo_Sim 44 20 (ma_inv 208 2 4 20 23)) (mt_leaf (ms_retv (e := (.return_, 24, 0, 0, 0)) rfl rfl (fun _ _ _ => rfl) : mo_Sim 44 23 (ma_retv)) (mt_none))))
set_option maxRecDepth 100000 in
theorem smt44_4 (k : Nat) : ∀ f, mt44_4 k = some f → mo_Sim 44 k f := mt_node (smt44_5 k) (smt44_6 k)
set_option maxRecDepth 100000 in
theorem smt44_0 (k : Nat) : ∀ f, mt44_0 k = some f → mo_Sim 44 k f := mt_node (smt44_1 k) (smt44_4 k)
set_option maxRecDepth 100000 in
theorem smt45_5 (k : Nat) : ∀ f, mt45_5 k = some f → mo_Sim 45 k f := mt_leaf (ms_ald (e := (.aload_n 0, 1, 0, 0, 0)) rfl (fun _ _ _ => rfl) : mo_Sim 45 0 (ma_lda 0 1)) (mt_leaf (ms_getf (e := (.getfield 15, 4, 5, 1, 192)) rfl (fun _ _ _ => rfl) : mo_Sim 45 1 (ma_getf 5 1 4)) (mt_leaf (ms_if0 (e := (.ifCond .ne 4, 7, 8, 0, 0)) rfl (fun _ _ _ => rfl) : mo_Sim 45 4 (ma_if0 .ne 8 4 7)) (mt_none)))
set_option maxRecDepth 100000 in
theorem smt45_6 (k : Nat) : ∀ f, mt45_6 k = some f → mo_Sim 45 k f := mt_leaf (ms_retv (e := (.return_, 8, 0, 0, 0)) rfl rfl (fun _ _ _ => rfl) : mo_Sim 45 7 (ma_retv)) (mt_leaf (ms_ald (e := (.aload_n 1, 9, 0, 0, 0)) rfl (fun _ _ _ => rfl) : mo_Sim 45 8 (ma_lda 1 9)) (mt_leaf (ms_getf (e := (.getfield 31, 12, 1, 0, 110)) rfl (fun _ _ _ => rfl) : mo_Sim 45 9 (ma_getf 1 0 12)) (mt_none)))
set_option maxRecDepth 100000 in
theorem smt45_4 (k : Nat) : ∀ f, mt45_4 k = some f → mo_Sim 45 k f := mt_node (smt45_5 k) (smt45_6 k)
set_option maxRecDepth 100000 in
theorem smt45_8 (k : Nat) : ∀ f, mt45_8 k = some f → mo_Sim 45 k f := mt_leaf (ms_ist (e := (.istore 5, 14, 0, 0, 0)) rfl (fun _ _ _ => rfl) : mo_Sim 45 12 (ma_stor 0 5 14)) (mt_leaf (ms_ald (e := (.aload_n 1, 15, 0, 0, 0)) rfl (fun _ _ _ => rfl) : mo_Sim 45 14 (ma_lda 1 15)) (mt_leaf (ms_getf (e := (.getfield 36, 18, 1, 2, 118)) rfl (fun _ _ _ => rfl) : mo_Sim 45 15 (ma_getf 1 2 18)) (mt_none)))
set_option maxRecDepth 100000 in
theorem smt45_9 (k : Nat) : ∀ f, mt45_9 k = some f → mo_Sim 45 k f := mt_leaf (ms_ild (e := (.iload_n 3, 19, 0, 0, 0)) rfl (fun _ _ _ => rfl) : mo_Sim 45 18 (ma_load 0 3 19)) (mt_leaf (ms_iald (e := (.iaload, 20, 0, 0, 0)) rfl (fun _ _ _ => rfl) : mo_Sim 45 19 (ma_iald 19 20)) (mt_leaf (ms_ild (e := (.iload 5, 22, 0, 0, 0)) rfl (fun _ _ _ => rfl) : mo_Sim 45 20 (ma_load 0 5 22)) (mt_leaf (ms_i2 (e := (.imul, 23, 0, 0, 0)) rfl (fun _ _ _ => rfl) hf_mul : mo_Sim 45 22 (ma_i2 ma_fmul 22 23)) (mt_none))))
set_option maxRecDepth 100000 in
theorem smt45_7 (k : Nat) : ∀ f, mt45_7 k = some f → mo_Sim 45 k f := mt_node (smt45_8 k) (smt45_9 k)
set_option maxRecDepth 100000 in
theorem smt45_3 (k : Nat) : ∀ f, mt45_3 k = some f → mo_Sim 45 k f := mt_node (smt45_4 k) (smt45_7 k)
set_option maxRecDepth 100000 in
theorem smt45_12 (k : Nat) : ∀ f, mt45_12 k = some f → mo_Sim 45 k f := mt_leaf (ms_ald (e := (.aload_n 1, 24, 0, 0, 0)) rfl (fun _ _ _ => rfl) : mo_Sim 45 23 (ma_lda 1 24)) (mt_leaf (ms_getf (e := (.getfield 36, 27, 1, 2, 118)) rfl (fun _ _ _ => rfl) : mo_Sim 45 24 (ma_getf 1 2 27)) (mt_leaf (ms_ild (e := (.iload 4, 29, 0, 0, 0)) rfl (fun _ _ _ => rfl) : mo_Sim 45 27 (ma_load 0 4 29)) (mt_none)))
set_option maxRecDepth 100000 in
theorem smt45_13 (k : Nat) : ∀ f, mt45_13 k = some f → mo_Sim 45 k f := mt_leaf (ms_iald (e := (.iaload, 30, 0, 0, 0)) rfl (fun _ _ _ => rfl) : mo_Sim 45 29 (ma_iald 29 30)) (mt_leaf (ms_iadd (e := (.iadd, 31, 0, 0, 0)) rfl (fun _ _ _ => rfl) : mo_Sim 45 30 (ma_iadd 30 31)) (mt_leaf (ms_ild (e := (.iload 5, 33, 0, 0, 0)) rfl (fun _ _ _ => rfl) : mo_Sim 45 31 (ma_load 0 5 33)) (mt_leaf (ms_i2 (e := (.imul, 34, 0, 0, 0)) rfl (fun _ _ _ => rfl) hf_mul : mo_Sim 45 33 (ma_i2 ma_fmul 33 34)) (mt_none))))
set_option maxRecDepth 100000 in
theorem smt45_11 (k : Nat) : ∀ f, mt45_11 k = some f → mo_Sim 45 k f := mt_node (smt45_12 k) (smt45_13 k)
set_option maxRecDepth 100000 in
theorem smt45_15 (k : Nat) : ∀ f, mt45_15 k = some f → mo_Sim 45 k f := mt_leaf (ms_ist (e := (.istore 6, 36, 0, 0, 0)) rfl (fun _ _ _ => rfl) : mo_Sim 45 34 (ma_stor 0 6 36)) (mt_leaf (ms_ald (e := (.aload_n 1, 37, 0, 0, 0)) rfl (fun _ _ _ => rfl) : mo_Sim 45 36 (ma_lda 1 37)) (mt_leaf (ms_getf (e := (.getfield 39, 40, 1, 3, 125)) rfl (fun _ _ _ => rfl) : mo_Sim 45 37 (ma_getf 1 3 40)) (mt_none)))
set_option maxRecDepth 100000 in
theorem smt45_16 (k : Nat) : ∀ f, mt45_16 k = some f → mo_Sim 45 k f := mt_leaf (ms_ild (e := (.iload_n 3, 41, 0, 0, 0)) rfl (fun _ _ _ => rfl) : mo_Sim 45 40 (ma_load 0 3 41)) (mt_leaf (ms_iald (e := (.iaload, 42, 0, 0, 0)) rfl (fun _ _ _ => rfl) : mo_Sim 45 41 (ma_iald 41 42)) (mt_leaf (ms_ild (e := (.iload 5, 44, 0, 0, 0)) rfl (fun _ _ _ => rfl) : mo_Sim 45 42 (ma_load 0 5 44)) (mt_leaf (ms_i2 (e := (.imul, 45, 0, 0, 0)) rfl (fun _ _ _ => rfl) hf_mul : mo_Sim 45 44 (ma_i2 ma_fmul 44 45)) (mt_none))))
set_option maxRecDepth 100000 in
theorem smt45_14 (k : Nat) : ∀ f, mt45_14 k = some f → mo_Sim 45 k f := mt_node (smt45_15 k) (smt45_16 k)
set_option maxRecDepth 100000 in
theorem smt45_10 (k : Nat) : ∀ f, mt45_10 k = some f → mo_Sim 45 k f := mt_node (smt45_11 k) (smt45_14 k)
set_option maxRecDepth 100000 in
theorem smt45_2 (k : Nat) : ∀ f, mt45_2 k = some f → mo_Sim 45 k f := mt_node (smt45_3 k) (smt45_10 k)
set_option maxRecDepth 100000 in
theorem smt45_20 (k : Nat) : ∀ f, mt45_20 k = some f → mo_Sim 45 k f := mt_leaf (ms_ald (e := (.aload_n 1, 46, 0, 0, 0)) rfl (fun _ _ _ => rfl) : mo_Sim 45 45 (ma_lda 1 46)) (mt_leaf (ms_getf (e := (.getfield 39, 49, 1, 3, 125)) rfl (fun _ _ _ => rfl) : mo_Sim 45 46 (ma_getf 1 3 49)) (mt_leaf (ms_ild (e := (.iload 4, 51, 0, 0, 0)) rfl (fun _ _ _ => rfl) : mo_Sim 45 49 (ma_load 0 4 51)) (mt_none)))
set_option maxRecDepth 100000 in
theorem smt45_21 (k : Nat) : ∀ f, mt45_21 k = some f → mo_Sim 45 k f := mt_leaf (ms_iald (e := (.iaload, 52, 0, 0, 0)) rfl (fun _ _ _ => rfl) : mo_Sim 45 51 (ma_iald 51 52)) (mt_leaf (ms_iadd (e := (.iadd, 53, 0, 0, 0)) rfl (fun _ _ _ => rfl) : mo_Sim 45 52 (ma_iadd 52 53)) (mt_leaf (ms_ild (e := (.iload 5, 55, 0, 0, 0)) rfl (fun _ _ _ => rfl) : mo_Sim 45 53 (ma_load 0 5 55)) (mt_none)))
set_option maxRecDepth 100000 in
theorem smt45_19 (k : Nat) : ∀ f, mt45_19 k = some f → mo_Sim 45 k f := mt_node (smt45_20 k) (smt45_21 k)
set_option maxRecDepth 100000 in
theorem smt45_23 (k : Nat) : ∀ f, mt45_23 k = some f → mo_Sim 45 k f := mt_leaf (ms_i2 (e := (.imul, 56, 0, 0, 0)) rfl (fun _ _ _ => rfl) hf_mul : mo_Sim 45 55 (ma_i2 ma_fmul 55 56)) (mt_leaf (ms_ist (e := (.istore 7, 58, 0, 0, 0)) rfl (fun _ _ _ => rfl) : mo_Sim 45 56 (ma_stor 0 7 58)) (mt_leaf (ms_ald (e := (.aload_n 1, 59, 0, 0, 0)) rfl (fun _ _ _ => rfl) : mo_Sim 45 58 (ma_lda 1 59)) (mt_none)))
set_option maxRecDepth 100000 in
theorem smt45_24 (k : Nat) : ∀ f, mt45_24 k = some f → mo_Sim 45 k f := mt_leaf (ms_getf (e := (.getfield 42, 62, 1, 4, 132)) rfl (fun _ _ _ => rfl) : mo_Sim 45 59 (ma_getf 1 4 62)) (mt_leaf (ms_ild (e := (.iload_n 3, 63, 0, 0, 0)) rfl (fun _ _ _ => rfl) : mo_Sim 45 62 (ma_load 0 3 63)) (mt_leaf (ms_iald (e := (.iaload, 64, 0, 0, 0)) rfl (fun _ _ _ => rfl) : mo_Sim 45 63 (ma_iald 63 64)) (mt_leaf (ms_ild (e := (.iload 5, 66, 0, 0, 0)) rfl (fun _ _ _ => rfl) : mo_Sim 45 64 (ma_load 0 5 66)) (mt_none))))
set_option maxRecDepth 100000 in
theorem smt45_22 (k : Nat) : ∀ f, mt45_22 k = some f → mo_Sim 45 k f := mt_node (smt45_23 k) (smt45_24 k)
set_option maxRecDepth 100000 in
theorem smt45_18 (k : Nat) : ∀ f, mt45_18 k = some f → mo_Sim 45 k f := mt_node (smt45_19 k) (smt45_22 k)
set_option maxRecDepth 100000 in
theorem smt45_27 (k : Nat) : ∀ f, mt45_27 k = some f → mo_Sim 45 k f := mt_leaf (ms_i2 (e := (.imul, 67, 0, 0, 0)) rfl (fun _ _ _ => rfl) hf_mul : mo_Sim 45 66 (ma_i2 ma_fmul 66 67)) (mt_leaf (ms_ald (e := (.aload_n 1, 68, 0, 0, 0)) rfl (fun _ _ _ => rfl) : mo_Sim 45 67 (ma_lda 1 68)) (mt_leaf (ms_getf (e := (.getfield 42, 71, 1, 4, 132)) rfl (fun _ _ _ => rfl) : mo_Sim 45 68 (ma_getf 1 4 71)) (mt_none)))
set_option maxRecDepth 100000 in
theorem smt45_28 (k : Nat) : ∀ f, mt45_28 k = some f → mo_Sim 45 k f := mt_leaf (ms_ild (e := (.iload 4, 73, 0, 0, 0)) rfl (fun _ _ _ => rfl) : mo_Sim 45 71 (ma_load 0 4 73)) (mt_leaf (ms_iald (e := (.iaload, 74, 0, 0, 0)) rfl (fun _ _ _ => rfl) : mo_Sim 45 73 (ma_iald 73 74)) (mt_leaf (ms_iadd (e := (.iadd, 75, 0, 0, 0)) rfl (fun _ _ _ => rfl) : mo_Sim 45 74 (ma_iadd 74 75)) (mt_leaf (ms_ild (e := (.iload 5, 77, 0, 0, 0)) rfl (fun _ _ _ => rfl) : mo_Sim 45 75 (ma_load 0 5 77)) (mt_none))))
set_option maxRecDepth 100000 in
theorem smt45_26 (k : Nat) : ∀ f, mt45_26 k = some f → mo_Sim 45 k f := mt_node (smt45_27 k) (smt45_28 k)
set_option maxRecDepth 100000 in
theorem smt45_30 (k : Nat) : ∀ f, mt45_30 k = some f → mo_Sim 45 k f := mt_leaf (ms_i2 (e := (.imul, 78, 0, 0, 0)) rfl (fun _ _ _ => rfl) hf_mul : mo_Sim 45 77 (ma_i2 ma_fmul 77 78)) (mt_leaf (ms_ist (e := (.istore 8, 80, 0, 0, 0)) rfl (fun _ _ _ => rfl) : mo_Sim 45 78 (ma_stor 0 8 80)) (mt_leaf (ms_pushi (e := (.iconst 0, 81, 0, 0, 0)) rfl (fun _ _ _ => rfl) (by decide) : mo_Sim 45 80 (ma_push (ma_ci (.ofNat 0)) 81)) (mt_none)))
set_option maxRecDepth 100000 in
theorem smt45_31 (k : Nat) : ∀ f, mt45_31 k = some f → mo_Sim 45 k f := mt_leaf (ms_ist (e := (.istore 9, 83, 0, 0, 0)) rfl (fun _ _ _ => rfl) : mo_Sim 45 81 (ma_stor 0 9 83)) (mt_leaf (ms_pushi (e := (.iconst 0, 84, 0, 0, 0)) rfl (fun _ _ _ => rfl) (by decide) : mo_Sim 45 83 (ma_push (ma_ci (.ofNat 0)) 84)) (mt_leaf (ms_ist (e := (.istore 10, 86, 0, 0, 0)) rfl (fun _ _ _ => rfl) : mo_Sim 45 84 (ma_stor 0 10 86)) (mt_leaf (ms_ild (e := (.iload 10, 88, 0, 0, 0)) rfl (fun _ _ _ => rfl) : mo_Sim 45 86 (ma_load 0 10 88)) (mt_none))))
set_option maxRecDepth 100000 in
theorem smt45_29 (k : Nat) : ∀ f, mt45_29 k = some f → mo_Sim 45 k f := mt_node (smt45_30 k) (smt45_31 k)
set_option maxRecDepth 100000 in
theorem smt45_25 (k : Nat) : ∀ f, mt45_25 k = some f → mo_Sim 45 k f := mt_node (smt45_26 k) (smt45_29 k)
set_option maxRecDepth 100000 in
theorem smt45_17 (k : Nat) : ∀ f, mt45_17 k = some f → mo_Sim 45 k f := mt_node (smt45_18 k) (smt45_25 k)
set_option maxRecDepth 100000 in
theorem smt45_1 (k : Nat) : ∀ f, mt45_1 k = some f → mo_Sim 45 k f := mt_node (smt45_2 k) (smt45_17 k)
set_option maxRecDepth 100000 in
theorem smt45_36 (k : Nat) : ∀ f, mt45_36 k = some f → mo_Sim 45 k f := mt_leaf (ms_ild (e := (.iload 5, 90, 0, 0, 0)) rfl (fun _ _ _ => rfl) : mo_Sim 45 88 (ma_load 0 5 90)) (mt_leaf (ms_if2 (e := (.if_icmp .ge 97, 93, 187, 0, 0)) rfl (fun _ _ _ => rfl) : mo_Sim 45 90 (ma_if2 .ge 187 90 93)) (mt_leaf (ms_ald (e := (.aload_n 2, 94, 0, 0, 0)) rfl (fun _ _ _ => rfl) : mo_Sim 45 93 (ma_lda 2 94)) (mt_none)))
set_option maxRecDepth 100000 in
theorem smt45_37 (k : Nat) : ∀ f, mt45_37 k = some f → mo_Sim 45 k f := mt_leaf (ms_ild (e := (.iload 6, 96, 0, 0, 0)) rfl (fun _ _ _ => rfl) : mo_Sim 45 94 (ma_load 0 6 96)) (mt_leaf (ms_ild (e := (.iload 10, 98, 0, 0, 0)) rfl (fun _ _ _ => rfl) : mo_Sim 45 96 (ma_load 0 10 98)) (mt_leaf (ms_iadd (e := (.iadd, 99, 0, 0, 0)) rfl (fun _ _ _ => rfl) : mo_Sim 45 98 (ma_iadd 98 99)) (mt_none)))
set_option maxRecDepth 100000 in
theorem smt45_35 (k : Nat) : ∀ f, mt45_35 k = some f → mo_Sim 45 k f := mt_node (smt45_36 k) (smt45_37 k)
set_option maxRecDepth 100000 in
theorem smt45_39 (k : Nat) : ∀ f, mt45_39 k = some f → mo_Sim 45 k f := mt_leaf (ms_iald (e := (.iaload, 100, 0, 0, 0)) rfl (fun _ _ _ => rfl) : mo_Sim 45 99 (ma_iald 99 100)) (mt_leaf (ms_ald (e := (.aload_n 0, 101, 0, 0, 0)) rfl (fun _ _ _ => rfl) : mo_Sim 45 100 (ma_lda 0 101)) (mt_leaf (ms_getf (e := (.getfield 15, 104, 5, 1, 192)) rfl (fun _ _ _ => rfl) : mo_Sim 45 101 (ma_getf 5 1 104)) (mt_none)))
set_option maxRecDepth 100000 in
theorem smt45_40 (k : Nat) : ∀ f, mt45_40 k = some f → mo_Sim 45 k f := mt_leaf (ms_i2 (e := (.imul, 105, 0, 0, 0)) rfl (fun _ _ _ => rfl) hf_mul : mo_Sim 45 104 (ma_i2 ma_fmul 104 105)) (mt_leaf (ms_ist (e := (.istore 11, 107, 0, 0, 0)) rfl (fun _ _ _ => rfl) : mo_Sim 45 105 (ma_stor 0 11 107)) (mt_leaf (ms_pushi (e := (.iconst 0, 108, 0, 0, 0)) rfl (fun _ _ _ => rfl) (by decide) : mo_Sim 45 107 (ma_push (ma_ci (.ofNat 0)) 108)) (mt_leaf (ms_ist (e := (.istore 12, 110, 0, 0, 0)) rfl (fun _ _ _ => rfl) : mo_Sim 45 108 (ma_stor 0 12 110)) (mt_none))))
set_option maxRecDepth 100000 in
theorem smt45_38 (k : Nat) : ∀ f, mt45_38 k = some f → mo_Sim 45 k f := mt_node (smt45_39 k) (smt45_40 k)
set_option maxRecDepth 100000 in
theorem smt45_34 (k : Nat) : ∀ f, mt45_34 k = some f → mo_Sim 45 k f := mt_node (smt45_35 k) (smt45_38 k)
set_option maxRecDepth 100000 in
theorem smt45_43 (k : Nat) : ∀ f, mt45_43 k = some f → mo_Sim 45 k f := mt_leaf (ms_ild (e := (.iload 12, 112, 0, 0, 0)) rfl (fun _ _ _ => rfl) : mo_Sim 45 110 (ma_load 0 12 112)) (mt_leaf (ms_ild (e := (.iload 5, 114, 0, 0, 0)) rfl (fun _ _ _ => rfl) : mo_Sim 45 112 (ma_load 0 5 114)) (mt_leaf (ms_if2 (e := (.if_icmp .ge 67, 117, 181, 0, 0)) rfl (fun _ _ _ => rfl) : mo_Sim 45 114 (ma_if2 .ge 181 114 117)) (mt_none)))
set_option maxRecDepth 100000 in
theorem smt45_44 (k : Nat) : ∀ f, mt45_44 k = some f → mo_Sim 45 k f := mt_leaf (ms_ild (e := (.iload 11, 119, 0, 0, 0)) rfl (fun _ _ _ => rfl) : mo_Sim 45 117 (ma_load 0 11 119)) (mt_leaf (ms_ald (e := (.aload_n 2, 120, 0, 0, 0)) rfl (fun _ _ _ => rfl) : mo_Sim 45 119 (ma_lda 2 120)) (mt_leaf (ms_ild (e := (.iload 7, 122, 0, 0, 0)) rfl (fun _ _ _ => rfl) : mo_Sim 45 120 (ma_load 0 7 122)) (mt_leaf (ms_ild (e := (.iload 12, 124, 0, 0, 0)) rfl (fun _ _ _ => rfl) : mo_Sim 45 122 (ma_load 0 12 124)) (mt_none))))
set_option maxRecDepth 100000 in
theorem smt45_42 (k : Nat) : ∀ f, mt45_42 k = some f → mo_Sim 45 k f := mt_node (smt45_43 k) (smt45_44 k)
set_option maxRecDepth 100000 in
theorem smt45_46 (k : Nat) : ∀ f, mt45_46 k = some f → mo_Sim 45 k f := mt_leaf (ms_iadd (e := (.iadd, 125, 0, 0, 0)) rfl (fun _ _ _ => rfl) : mo_Sim 45 124 (ma_iadd 124 125)) (mt_leaf (ms_iald (e := (.iaload, 126, 0, 0, 0)) rfl (fun _ _ _ => rfl) : mo_Sim 45 125 (ma_iald 125 126)) (mt_leaf (ms_ald (e := (.aload_n 0, 127, 0, 0, 0)) rfl (fun _ _ _ => rfl) : mo_Sim 45 126 (ma_lda 0 127)) (mt_none)))
set_option maxRecDepth 100000 in
theorem smt45_47 (k : Nat) : ∀ f, mt45_47 k = some f → mo_Sim 45 k f := mt_leaf (ms_getf (e := (.getfield 19, 130, 5, 2, 193)) rfl (fun _ _ _ => rfl) : mo_Sim 45 127 (ma_getf 5 2 130)) (mt_leaf (ms_i2 (e := (.imul, 131, 0, 0, 0)) rfl (fun _ _ _ => rfl) hf_mul : mo_Sim 45 130 (ma_i2 ma_fmul 130 131)) (mt_leaf (ms_iadd (e := (.iadd, 132, 0, 0, 0)) rfl (fun _ _ _ => rfl) : mo_Sim 45 131 (ma_iadd 131 132)) (mt_leaf (ms_ist (e := (.istore 13, 134, 0, 0, 0)) rfl (fun _ _ _ => rfl) : mo_Sim 45 132 (ma_stor 0 13 134)) (mt_none))))
set_option maxRecDepth 100000 in
theorem smt45_45 (k : Nat) : ∀ f, mt45_45 k = some f → mo_Sim 45 k f := mt_node (smt45_46 k) (smt45_47 k)
set_option maxRecDepth 100000 in
theorem smt45_41 (k : Nat) : ∀ f, mt45_41 k = some f → mo_Sim 45 k f := mt_node (smt45_42 k) (smt45_45 k)
set_option maxRecDepth 100000 in
theorem smt45_33 (k : Nat) : ∀ f, mt45_33 k = some f → mo_Sim 45 k f := mt_node (smt45_34 k) (smt45_41 k)
set_option maxRecDepth 100000 in
theorem smt45_51 (k : Nat) : ∀ f, mt45_51 k = some f → mo_Sim 45 k f := mt_leaf (ms_pushi (e := (.iconst 0, 135, 0, 0, 0)) rfl (fun _ _ _ => rfl) (by decide) : mo_Sim 45 134 (ma_push (ma_ci (.ofNat 0)) 135)) (mt_leaf (ms_ist (e := (.istore 14, 137, 0, 0, 0)) rfl (fun _ _ _ => rfl) : mo_Sim 45 135 (ma_stor 0 14 137)) (mt_leaf (ms_ild (e := (.iload 14, 139, 0, 0, 0)) rfl (fun _ _ _ => rfl) : mo_Sim 45 137 (ma_load 0 14 139)) (mt_none)))
set_option maxRecDepth 100000 in
theorem smt45_52 (k : Nat) : ∀ f, mt45_52 k = some f → mo_Sim 45 k f := mt_leaf (ms_ild (e := (.iload 5, 141, 0, 0, 0)) rfl (fun _ _ _ => rfl) : mo_Sim 45 139 (ma_load 0 5 141)) (mt_leaf (ms_if2 (e := (.if_icmp .ge 34, 144, 175, 0, 0)) rfl (fun _ _ _ => rfl) : mo_Sim 45 141 (ma_if2 .ge 175 141 144)) (mt_leaf (ms_ald (e := (.aload_n 0, 145, 0, 0, 0)) rfl (fun _ _ _ => rfl) : mo_Sim 45 144 (ma_lda 0 145)) (mt_none)))
set_option maxRecDepth 100000 in
theorem smt45_50 (k : Nat) : ∀ f, mt45_50 k = some f → mo_Sim 45 k f := mt_node (smt45_51 k) (smt45_52 k)
set_option maxRecDepth 100000 in
theorem smt45_54 (k : Nat) : ∀ f, mt45_54 k = some f → mo_Sim 45 k f := mt_leaf (ms_getf (e := (.getfield 9, 148, 5, 0, 189)) rfl (fun _ _ _ => rfl) : mo_Sim 45 145 (ma_getf 5 0 148)) (mt_leaf (ms_ild (e := (.iload 9, 150, 0, 0, 0)) rfl (fun _ _ _ => rfl) : mo_Sim 45 148 (ma_load 0 9 150)) (mt_leaf (ms_ild (e := (.iload 13, 152, 0, 0, 0)) rfl (fun _ _ _ => rfl) : mo_Sim 45 150 (ma_load 0 13 152)) (mt_none)))
set_option maxRecDepth 100000 in
theorem smt45_55 (k : Nat) : ∀ f, mt45_55 k = some f → mo_Sim 45 k f := mt_leaf (ms_ald (e := (.aload_n 2, 153, 0, 0, 0)) rfl (fun _ _ _ => rfl) : mo_Sim 45 152 (ma_lda 2 153)) (mt_leaf (ms_ild (e := (.iload 8, 155, 0, 0, 0)) rfl (fun _ _ _ => rfl) : mo_Sim 45 153 (ma_load 0 8 155)) (mt_leaf (ms_ild (e := (.iload 14, 157, 0, 0, 0)) rfl (fun _ _ _ => rfl) : mo_Sim 45 155 (ma_load 0 14 157)) (mt_leaf (ms_iadd (e := (.iadd, 158, 0, 0, 0)) rfl (fun _ _ _ => rfl) : mo_Sim 45 157 (ma_iadd 157 158)) (mt_none))))
set_option maxRecDepth 100000 in
theorem smt45_53 (k : Nat) : ∀ f, mt45_53 k = some f → mo_Sim 45 k f := mt_node (smt45_54 k) (smt45_55 k)
set_option maxRecDepth 100000 in
theorem smt45_49 (k : Nat) : ∀ f, mt45_49 k = some f → mo_Sim 45 k f := mt_node (smt45_50 k) (smt45_53 k)
set_option maxRecDepth 100000 in
theorem smt45_58 (k : Nat) : ∀ f, mt45_58 k = some f → mo_Sim 45 k f := mt_leaf (ms_iald (e := (.iaload, 159, 0, 0, 0)) rfl (fun _ _ _ => rfl) : mo_Sim 45 158 (ma_iald 158 159)) (mt_leaf (ms_ald (e := (.aload_n 0, 160, 0, 0, 0)) rfl (fun _ _ _ => rfl) : mo_Sim 45 159 (ma_lda 0 160)) (mt_leaf (ms_getf (e := (.getfield 22, 163, 5, 3, 194)) rfl (fun _ _ _ => rfl) : mo_Sim 45 160 (ma_getf 5 3 163)) (mt_none)))
set_option maxRecDepth 100000 in
theorem smt45_59 (k : Nat) : ∀ f, mt45_59 k = some f → mo_Sim 45 k f := mt_leaf (ms_i2 (e := (.imul, 164, 0, 0, 0)) rfl (fun _ _ _ => rfl) hf_mul : mo_Sim 45 163 (ma_i2 ma_fmul 163 164)) (mt_leaf (ms_iadd (e := (.iadd, 165, 0, 0, 0)) rfl (fun _ _ _ => rfl) : mo_Sim 45 164 (ma_iadd 164 165)) (mt_leaf (ms_iast (e := (.iastore, 166, 0, 0, 0)) rfl rfl (fun _ _ _ => rfl) : mo_Sim 45 165 (ma_ast 13 0 165 166)) (mt_leaf (ms_iinc (e := (.iinc 9 1, 169, 0, 0, 0)) rfl (fun _ _ _ => rfl) (by decide) : mo_Sim 45 166 (ma_iinc 9 (.ofNat 1) 166 169)) (mt_none))))
set_option maxRecDepth 100000 in
theorem smt45_57 (k : Nat) : ∀ f, mt45_57 k = some f → mo_Sim 45 k f := mt_node (smt45_58 k) (smt45_59 k)
set_option maxRecDepth 100000 in
theorem smt45_61 (k : Nat) : ∀ f, mt45_61 k = some f → mo_Sim 45 k f := mt_leaf (ms_iinc (e := (.iinc 14 1, 172, 0, 0, 0)) rfl (fun _ _ _ => rfl) (by decide) : mo_Sim 45 169 (ma_iinc 14 (.ofNat 1) 169 172)) (mt_leaf (ms_goto (e := (.goto (-35), 175, 137, 0, 0)) rfl (fun _ _ _ => rfl) : mo_Sim 45 172 (ma_goto 137)) (mt_leaf (ms_iinc (e := (.iinc 12 1, 178, 0, 0, 0)) rfl (fun _ _ _ => rfl) (by decide) : mo_Sim 45 175 (ma_iinc 12 (.ofNat 1) 175 178)) (mt_none)))
set_option maxRecDepth 100000 in
theorem smt45_62 (k : Nat) : ∀ f, mt45_62 k = some f → mo_Sim 45 k f := mt_leaf (ms_goto (e := (.goto (-68), 181, 110, 0, 0)) rfl (fun _ _ _ => rfl) : mo_Sim 45 178 (ma_goto 110)) (mt_leaf (ms_iinc (e := (.iinc 10 1, 184, 0, 0, 0)) rfl (fun _ _ _ => rfl) (by decide) : mo_Sim 45 181 (ma_iinc 10 (.ofNat 1) 181 184)) (mt_leaf (ms_goto (e := (.goto (-98), 187, 86, 0, 0)) rfl (fun _ _ _ => rfl) : mo_Sim 45 184 (ma_goto 86)) (mt_leaf (ms_retv (e := (.return_, 188, 0, 0, 0)) rfl rfl (fun _ _ _ => rfl) : mo_Sim 45 187 (ma_retv)) (mt_none))))
set_option maxRecDepth 100000 in
theorem smt45_60 (k : Nat) : ∀ f, mt45_60 k = some f → mo_Sim 45 k f := mt_node (smt45_61 k) (smt45_62 k)
set_option maxRecDepth 100000 in
theorem smt45_56 (k : Nat) : ∀ f, mt45_56 k = some f → mo_Sim 45 k f := mt_node (smt45_57 k) (smt45_60 k)
set_option maxRecDepth 100000 in
theorem smt45_48 (k : Nat) : ∀ f, mt45_48 k = some f → mo_Sim 45 k f := mt_node (smt45_49 k) (smt45_56 k)
set_option maxRecDepth 100000 in
theorem smt45_32 (k : Nat) : ∀ f, mt45_32 k = some f → mo_Sim 45 k f := mt_node (smt45_33 k) (smt45_48 k)
set_option maxRecDepth 100000 in
theorem smt45_0 (k : Nat) : ∀ f, mt45_0 k = some f → mo_Sim 45 k f := mt_node (smt45_1 k) (smt45_32 k)
set_option maxRecDepth 100000 in
theorem smt46_2 (k : Nat) : ∀ f, mt46_2 k = some f → mo_Sim 46 k f := mt_leaf (ms_ald (e := (.aload_n 0, 1, 0, 0, 0)) rfl (fun _ _ _ => rfl) : mo_Sim 46 0 (ma_lda 0 1)) (mt_leaf (ms_obj (e := (.invokespecial 3, 4, 0, 4, 414)) rfl (fun _ _ _ => rfl) : mo_Sim 46 1 (ma_obj 4)) (mt_none))
set_option maxRecDepth 100000 in
theorem smt46_3 (k : Nat) : ∀ f, mt46_3 k = some f → mo_Sim 46 k f := mt_leaf (ms_ald (e := (.aload_n 0, 5, 0, 0, 0)) rfl (fun _ _ _ => rfl) : mo_Sim 46 4 (ma_lda 0 5)) (mt_leaf (ms_pushi (e := (.sipush 256, 8, 0, 0, 0)) rfl (fun _ _ _ => rfl) (by decide) : mo_Sim 46 5 (ma_push (ma_ci (.ofNat 256)) 8)) (mt_leaf (ms_newaI (e := (.newarray .int, 10, 0, 0, 0)) rfl rfl (fun _ _ _ => rfl) : mo_Sim 46 8 (ma_newa 13 (ma_ci (.ofNat 0)) 10)) (mt_none)))
set_option maxRecDepth 100000 in
theorem smt46_1 (k : Nat) : ∀ f, mt46_1 k = some f → mo_Sim 46 k f := mt_node (smt46_2 k) (smt46_3 k)
set_option maxRecDepth 100000 in
theorem smt46_5 (k : Nat) : ∀ f, mt46_5 k = some f → mo_Sim 46 k f := mt_leaf (ms_putf (e := (.putfield 11, 13, 6, 3, 422)) rfl rfl (fun _ _ _ => rfl) (Or.inr (Or.inr (Or.inl ⟨rfl, Or.inr ⟨_, rfl⟩⟩))) : mo_Sim 46 10 (ma_putf 6 3 2 13)) (mt_leaf (ms_ald (e := (.aload_n 0, 14, 0, 0, 0)) rfl (fun _ _ _ => rfl) : mo_Sim 46 13 (ma_lda 0 14)) (mt_leaf (ms_pushi (e := (.sipush 256, 17, 0, 0, 0)) rfl (fun _ _ _ => rfl) (by decide) : mo_Sim 46 14 (ma_push (ma_ci (.ofNat 256)) 17)) (mt_none)))
set_option maxRecDepth 100000 in
theorem smt46_6 (k : Nat) : ∀ f, mt46_6 k = some f → mo_Sim 46 k f := mt_leaf (ms_newaI (e := (.newarray .int, 19, 0, 0, 0)) rfl rfl (fun _ _ _ => rfl) : mo_Sim 46 17 (ma_newa 13 (ma_ci (.ofNat 0)) 19)) (mt_leaf (ms_putf (e := (.putfield 17, 22, 6, 4, 425)) rfl rfl (fun _ _ _ => rfl) (Or.inr (Or.inr (Or.inl ⟨rfl, Or.inr ⟨_, rfl⟩⟩))) : mo_Sim 46 19 (ma_putf 6 4 2 22)) (mt_leaf (ms_retv (e := (.return_, 23, 0, 0, 0)) rfl rfl (fun _ _ _ => rfl) : mo_Sim 46 22 (ma_retv)) (mt_none)))
set_option maxRecDepth 100000 in
theorem smt46_4 (k : Nat) : ∀ f, mt46_4 k = some f → mo_Sim 46 k f := mt_node (smt46_5 k) (smt46_6 k)
set_option maxRecDepth 100000 in
theorem smt46_0 (k : Nat) : ∀ f, mt46_0 k = some f → mo_Sim 46 k f := mt_node (smt46_1 k) (smt46_4 k)
set_option maxRecDepth 100000 in
theorem smt47_3 (k : Nat) : ∀ f, mt47_3 k = some f → mo_Sim 47 k f := mt_leaf (ms_pushi (e := (.iconst 0, 1, 0, 0, 0)) rfl (fun _ _ _ => rfl) (by decide) : mo_Sim 47 0 (ma_push (ma_ci (.ofNat 0)) 1)) (mt_leaf (ms_ist (e := (.istore_n 2, 2, 0, 0, 0)) rfl (fun _ _ _ => rfl) : mo_Sim 47 1 (ma_stor 0 2 2)) (mt_none))
set_option maxRecDepth 100000 in
theorem smt47_4 (k : Nat) : ∀ f, mt47_4 k = some f → mo_Sim 47 k f := mt_leaf (ms_ild (e := (.iload_n 2, 3, 0, 0, 0)) rfl (fun _ _ _ => rfl) : mo_Sim 47 2 (ma_load 0 2 3)) (mt_leaf (ms_ald (e := (.aload_n 0, 4, 0, 0, 0)) rfl (fun _ _ _ => rfl) : mo_Sim 47 3 (ma_lda 0 4)) (mt_leaf (ms_getf (e := (.getfield 20, 7, 6, 2, 419)) rfl (fun _ _ _ => rfl) : mo_Sim 47 4 (ma_getf 6 2 7)) (mt_none)))
set_option maxRecDepth 100000 in
theorem smt47_2 (k : Nat) : ∀ f, mt47_2 k = some f → mo_Sim 47 k f := mt_node (smt47_3 k) (smt47_4 k)
set_option maxRecDepth 100000 in
theorem smt47_6 (k : Nat) : ∀ f, mt47_6 k = some f → mo_Sim 47 k f := mt_leaf (ms_if2 (e := (.if_icmp .ge 26, 10, 33, 0, 0)) rfl (fun _ _ _ => rfl) : mo_Sim 47 7 (ma_if2 .ge 33 7 10)) (mt_leaf (ms_ald (e := (.aload_n 0, 11, 0, 0, 0)) rfl (fun _ _ _ => rfl) : mo_Sim 47 10 (ma_lda 0 11)) (mt_none))
set_option maxRecDepth 100000 in
theorem smt47_7 (k : Nat) : ∀ f, mt47_7 k = some f → mo_Sim 47 k f := mt_leaf (ms_getf (e := (.getfield 11, 14, 6, 3, 422)) rfl (fun _ _ _ => rfl) : mo_Sim 47 11 (ma_getf 6 3 14)) (mt_leaf (ms_ild (e := (.iload_n 2, 15, 0, 0, 0)) rfl (fun _ _ _ => rfl) : mo_Sim 47 14 (ma_load 0 2 15)) (mt_leaf (ms_iald (e := (.iaload, 16, 0, 0, 0)) rfl (fun _ _ _ => rfl) : mo_Sim 47 15 (ma_iald 15 16)) (mt_none)))
set_option maxRecDepth 100000 in
theorem smt47_5 (k : Nat) : ∀ f, mt47_5 k = some f → mo_Sim 47 k f := mt_node (smt47_6 k) (smt47_7 k)
set_option maxRecDepth 100000 in
theorem smt47_1 (k : Nat) : ∀ f, mt47_1 k = some f → mo_Sim 47 k f := mt_node (smt47_2 k) (smt47_5 k)
set_option maxRecDepth 100000 in
theorem smt47_10 (k : Nat) : ∀ f, mt47_10 k = some f → mo_Sim 47 k f := mt_leaf (ms_ild (e := (.iload_n 1, 17, 0, 0, 0)) rfl (fun _ _ _ => rfl) : mo_Sim 47 16 (ma_load 0 1 17)) (mt_leaf (ms_if2 (e := (.if_icmp .ne 10, 20, 27, 0, 0)) rfl (fun _ _ _ => rfl) : mo_Sim 47 17 (ma_if2 .ne 27 17 20)) (mt_none))
set_option maxRecDepth 100000 in
theorem smt47_11 (k : Nat) : ∀ f, mt47_11 k = some f → mo_Sim 47 k f := mt_leaf (ms_ald (e := (.aload_n 0, 21, 0, 0, 0)) rfl (fun _ _ _ => rfl) : mo_Sim 47 20 (ma_lda 0 21)) (mt_leaf (ms_getf (e := (.getfield 17, 24, 6, 4, 425)) rfl (fun _ _ _ => rfl) : mo_Sim 47 21 (ma_getf 6 4 24)) (mt_leaf (ms_ild (e := (.iload_n 2, 25, 0, 0, 0)) rfl (fun _ _ _ => rfl) : mo_Sim 47 24 (ma_load 0 2 25)) (mt_none)))
set_option maxRecDepth 100000 in
theorem smt47_9 (k : Nat) : ∀ f, mt47_9 k = some f → mo_Sim 47 k f := mt_node (smt47_10 k) (smt47_11 k)
set_option maxRecDepth 100000 in
theorem smt47_13 (k : Nat) : ∀ f, mt47_13 k = some f → mo_Sim 47 k f := mt_leaf (ms_iald (e := (.iaload, 26, 0, 0, 0)) rfl (fun _ _ _ => rfl) : mo_Sim 47 25 (ma_iald 25 26)) (mt_leaf (ms_ret (e := (.ireturn, 27, 0, 0, 0)) rfl (Or.inl ⟨rfl, rfl, (fun _ _ _ => rfl)⟩) : mo_Sim 47 26 (ma_ret 0)) (mt_leaf (ms_iinc (e := (.iinc 2 1, 30, 0, 0, 0)) rfl (fun _ _ _ => rfl) (by decide) : mo_Sim 47 27 (ma_iinc 2 (.ofNat 1) 27 30)) (mt_none)))
set_option maxRecDepth 100000 in
theorem smt47_14 (k : Nat) : ∀ f, mt47_14 k = some f → mo_Sim 47 k f := mt_leaf (ms_goto (e := (.goto (-28), 33, 2, 0, 0)) rfl (fun _ _ _ => rfl) : mo_Sim 47 30 (ma_goto 2)) (mt_leaf (ms_pushi (e := (.bipush (-7), 35, 0, 0, 0)) rfl (fun _ _ _ => rfl) (by decide) : mo_Sim 47 33 (ma_push (ma_ci (.negSucc 6)) 35)) (mt_leaf (ms_ret (e := (.ireturn, 36, 0, 0, 0)) rfl (Or.inl ⟨rfl, rfl, (fun _ _ _ => rfl)⟩) : mo_Sim 47 35 (ma_ret 0)) (mt_none)))
set_option maxRecDepth 100000 in
theorem smt47_12 (k : Nat) : ∀ f, mt47_12 k = some f → mo_Sim 47 k f := mt_node (smt47_13 k) (smt47_14 k)
set_option maxRecDepth 100000 in
theorem smt47_8 (k : Nat) : ∀ f, mt47_8 k = some f → mo_Sim 47 k f := mt_node (smt47_9 k) (smt47_12 k)
set_option maxRecDepth 100000 in
theorem smt47_0 (k : Nat) : ∀ f, mt47_0 k = some f → mo_Sim 47 k f := mt_node (smt47_1 k) (smt47_8 k)
set_option maxRecDepth 100000 in
theorem smt48_4 (k : Nat) : ∀ f, mt48_4 k = some f → mo_Sim 48 k f := mt_leaf (ms_ald (e := (.aload_n 0, 1, 0, 0, 0)) rfl (fun _ _ _ => rfl) : mo_Sim 48 0 (ma_lda 0 1)) (mt_leaf (ms_obj (e := (.invokespecial 5, 4, 0, 4, 180)) rfl (fun _ _ _ => rfl) : mo_Sim 48 1 (ma_obj 4)) (mt_none))
set_option maxRecDepth 100000 in
theorem smt48_5 (k : Nat) : ∀ f, mt48_5 k = some f → mo_Sim 48 k f := mt_leaf (ms_ald (e := (.aload_n 0, 5, 0, 0, 0)) rfl (fun _ _ _ => rfl) : mo_Sim 48 4 (ma_lda 0 5)) (mt_leaf (ms_newo (e := (.new 11, 8, 1, 0, 181)) rfl rfl (fun _ _ _ => rfl) rfl mo_bl_1 : mo_Sim 48 5 (ma_new (1, .inl [ma_ci (.ofNat 0), ma_ci (.ofNat 0), ma_null, ma_null, ma_null]) 8)) (mt_leaf (ms_dup (e := (.dup, 9, 0, 0, 0)) rfl (fun _ _ _ => rfl) : mo_Sim 48 8 (ma_dup 9)) (mt_none)))
set_option maxRecDepth 100000 in
theorem smt48_3 (k : Nat) : ∀ f, mt48_3 k = some f → mo_Sim 48 k f := mt_node (smt48_4 k) (smt48_5 k)
set_option maxRecDepth 100000 in
theorem smt48_7 (k : Nat) : ∀ f, mt48_7 k = some f → mo_Sim 48 k f := mt_leaf (ms_invI (p := 0) (e := (.invokespecial 13, 12, 10, 3, 182)) rfl rfl (fun _ _ _ => rfl) rfl rfl : mo_Sim 48 9 (ma_inv 10 1 1 21 12)) (mt_leaf (ms_putf (e := (.putfield 14, 15, 7, 0, 204)) rfl rfl (fun _ _ _ => rfl) (Or.inr (Or.inr (Or.inl ⟨rfl, Or.inl ⟨_, rfl⟩⟩))) : mo_Sim 48 12 (ma_putf 7 0 2 15)) (mt_leaf (ms_ald (e := (.aload_n 0, 16, 0, 0, 0)) rfl (fun _ _ _ => rfl) : mo_Sim 48 15 (ma_lda 0 16)) (mt_none)))
set_option maxRecDepth 100000 in
theorem smt48_8 (k : Nat) : ∀ f, mt48_8 k = some f → mo_Sim 48 k f := mt_leaf (ms_pushi (e := (.sipush 257, 19, 0, 0, 0)) rfl (fun _ _ _ => rfl) (by decide) : mo_Sim 48 16 (ma_push (ma_ci (.ofNat 257)) 19)) (mt_leaf (ms_newaI (e := (.newarray .int, 21, 0, 0, 0)) rfl rfl (fun _ _ _ => rfl) : mo_Sim 48 19 (ma_newa 13 (ma_ci (.ofNat 0)) 21)) (mt_leaf (ms_putf (e := (.putfield 18, 24, 7, 1, 205)) rfl rfl (fun _ _ _ => rfl) (Or.inr (Or.inr (Or.inl ⟨rfl, Or.inr ⟨_, rfl⟩⟩))) : mo_Sim 48 21 (ma_putf 7 1 2 24)) (mt_none)))
set_option maxRecDepth 100000 in
theorem smt48_6 (k : Nat) : ∀ f, mt48_6 k = some f → mo_Sim 48 k f := mt_node (smt48_7 k) (smt48_8 k)
set_option maxRecDepth 100000 in
theorem smt48_2 (k : Nat) : ∀ f, mt48_2 k = some f → mo_Sim 48 k f := mt_node (smt48_3 k) (smt48_6 k)
set_option maxRecDepth 100000 in
theorem smt48_11 (k : Nat) : ∀ f, mt48_11 k = some f → mo_Sim 48 k f := mt_leaf (ms_ald (e := (.aload_n 0, 25, 0, 0, 0)) rfl (fun _ _ _ => rfl) : mo_Sim 48 24 (ma_lda 0 25)) (mt_leaf (ms_pushi (e := (.sipush 257, 28, 0, 0, 0)) rfl (fun _ _ _ => rfl) (by decide) : mo_Sim 48 25 (ma_push (ma_ci (.ofNat 257)) 28)) (mt_leaf (ms_newaI (e := (.newarray .int, 30, 0, 0, 0)) rfl rfl (fun _ _ _ => rfl) : mo_Sim 48 28 (ma_newa 13 (ma_ci (.ofNat 0)) 30)) (mt_none)))
set_option maxRecDepth 100000 in
theorem smt48_12 (k : Nat) : ∀ f, mt48_12 k = some f → mo_Sim 48 k f := mt_leaf (ms_putf (e := (.putfield 22, 33, 7, 2, 206)) rfl rfl (fun _ _ _ => rfl) (Or.inr (Or.inr (Or.inl ⟨rfl, Or.inr ⟨_, rfl⟩⟩))) : mo_Sim 48 30 (ma_putf 7 2 2 33)) (mt_leaf (ms_ald (e := (.aload_n 0, 34, 0, 0, 0)) rfl (fun _ _ _ => rfl) : mo_Sim 48 33 (ma_lda 0 34)) (mt_leaf (ms_pushi (e := (.sipush 257, 37, 0, 0, 0)) rfl (fun _ _ _ => rfl) (by decide) : mo_Sim 48 34 (ma_push (ma_ci (.ofNat 257)) 37)) (mt_none)))
set_option maxRecDepth 100000 in
theorem smt48_10 (k : Nat) : ∀ f, mt48_10 k = some f → mo_Sim 48 k f := mt_node (smt48_11 k) (smt48_12 k)
set_option maxRecDepth 100000 in
theorem smt48_14 (k : Nat) : ∀ f, mt48_14 k = some f → mo_Sim 48 k f := mt_leaf (ms_newaI (e := (.newarray .int, 39, 0, 0, 0)) rfl rfl (fun _ _ _ => rfl) : mo_Sim 48 37 (ma_newa 13 (ma_ci (.ofNat 0)) 39)) (mt_leaf (ms_putf (e := (.putfield 25, 42, 7, 3, 207)) rfl rfl (fun _ _ _ => rfl) (Or.inr (Or.inr (Or.inl ⟨rfl, Or.inr ⟨_, rfl⟩⟩))) : mo_Sim 48 39 (ma_putf 7 3 2 42)) (mt_leaf (ms_ald (e := (.aload_n 0, 43, 0, 0, 0)) rfl (fun _ _ _ => rfl) : mo_Sim 48 42 (ma_lda 0 43)) (mt_none)))
set_option maxRecDepth 100000 in
theorem smt48_15 (k : Nat) : ∀ f, mt48_15 k = some f → mo_Sim 48 k f := mt_leaf (ms_pushi (e := (.sipush 257, 46, 0, 0, 0)) rfl (fun _ _ _ => rfl) (by decide) : mo_Sim 48 43 (ma_push (ma_ci (.ofNat 257)) 46)) (mt_leaf (ms_newaI (e := (.newarray .int, 48, 0, 0, 0)) rfl rfl (fun _ _ _ => rfl) : mo_Sim 48 46 (ma_newa 13 (ma_ci (.ofNat 0)) 48)) (mt_leaf (ms_putf (e := (.putfield 28, 51, 7, 4, 208)) rfl rfl (fun _ _ _ => rfl) (Or.inr (Or.inr (Or.inl ⟨rfl, Or.inr ⟨_, rfl⟩⟩))) : mo_Sim 48 48 (ma_putf 7 4 2 51)) (mt_none)))
set_option maxRecDepth 100000 in
theorem smt48_13 (k : Nat) : ∀ f, mt48_13 k = some f → mo_Sim 48 k f := mt_node (smt48_14 k) (smt48_15 k)
set_option maxRecDepth 100000 in
theorem smt48_9 (k : Nat) : ∀ f, mt48_9 k = some f → mo_Sim 48 k f := mt_node (smt48_10 k) (smt48_13 k)
set_option maxRecDepth 100000 in
theorem smt48_1 (k : Nat) : ∀ f, mt48_1 k = some f → mo_Sim 48 k f := mt_node (smt48_2 k) (smt48_9 k)
set_option maxRecDepth 100000 in
theorem smt48_19 (k : Nat) : ∀ f, mt48_19 k = some f → mo_Sim 48 k f := mt_leaf (ms_ald (e := (.aload_n 0, 52, 0, 0, 0)) rfl (fun _ _ _ => rfl) : mo_Sim 48 51 (ma_lda 0 52)) (mt_leaf (ms_pushi (e := (.sipush 257, 55, 0, 0, 0)) rfl (fun _ _ _ => rfl) (by decide) : mo_Sim 48 52 (ma_push (ma_ci (.ofNat 257)) 55)) (mt_leaf (ms_newaI (e := (.newarray .int, 57, 0, 0, 0)) rfl rfl (fun _ _ _ => rfl) : mo_Sim 48 55 (ma_newa 13 (ma_ci (.ofNat 0)) 57)) (mt_none)))
set_option maxRecDepth 100000 in
theorem smt48_20 (k : Nat) : ∀ f, mt48_20 k = some f → mo_Sim 48 k f := mt_leaf (ms_putf (e := (.putfield 31, 60, 7, 5, 209)) rfl rfl (fun _ _ _ => rfl) (Or.inr (Or.inr (Or.inl ⟨rfl, Or.inr ⟨_, rfl⟩⟩))) : mo_Sim 48 57 (ma_putf 7 5 2 60)) (mt_leaf (ms_ald (e := (.aload_n 0, 61, 0, 0, 0)) rfl (fun _ _ _ => rfl) : mo_Sim 48 60 (ma_lda 0 61)) (mt_leaf (ms_newo (e := (.new 34, 64, 5, 0, 183)) rfl rfl (fun _ _ _ => rfl) rfl mo_bl_5 : mo_Sim 48 61 (ma_new (5, .inl [ma_null, ma_ci (.ofNat 0), ma_ci (.ofNat 0), ma_ci (.ofNat 0)]) 64)) (mt_none)))
set_option maxRecDepth 100000 in
theorem smt48_18 (k : Nat) : ∀ f, mt48_18 k = some f → mo_Sim 48 k f := mt_node (smt48_19 k) (smt48_20 k)
set_option maxRecDepth 100000 in
theorem smt48_22 (k : Nat) : ∀ f, mt48_22 k = some f → mo_Sim 48 k f := mt_leaf (ms_dup (e := (.dup, 65, 0, 0, 0)) rfl (fun _ _ _ => rfl) : mo_Sim 48 64 (ma_dup 65)) (mt_leaf (ms_invI (p := 0) (e := (.invokespecial 36, 68, 43, 3, 185)) rfl rfl (fun _ _ _ => rfl) rfl rfl : mo_Sim 48 65 (ma_inv 43 1 1 21 68)) (mt_leaf (ms_putf (e := (.putfield 37, 71, 7, 6, 210)) rfl rfl (fun _ _ _ => rfl) (Or.inr (Or.inr (Or.inl ⟨rfl, Or.inl ⟨_, rfl⟩⟩))) : mo_Sim 48 68 (ma_putf 7 6 2 71)) (mt_none)))
set_option maxRecDepth 100000 in
theorem smt48_23 (k : Nat) : ∀ f, mt48_23 k = some f → mo_Sim 48 k f := mt_leaf (ms_ald (e := (.aload_n 0, 72, 0, 0, 0)) rfl (fun _ _ _ => rfl) : mo_Sim 48 71 (ma_lda 0 72)) (mt_leaf (ms_newo (e := (.new 34, 75, 5, 0, 183)) rfl rfl (fun _ _ _ => rfl) rfl mo_bl_5 : mo_Sim 48 72 (ma_new (5, .inl [ma_null, ma_ci (.ofNat 0), ma_ci (.ofNat 0), ma_ci (.ofNat 0)]) 75)) (mt_leaf (ms_dup (e := (.dup, 76, 0, 0, 0)) rfl (fun _ _ _ => rfl) : mo_Sim 48 75 (ma_dup 76)) (mt_none)))
set_option maxRecDepth 100000 in
theorem smt48_21 (k : Nat) : ∀ f, mt48_21 k = some f → mo_Sim 48 k f := mt_node (smt48_22 k) (smt48_23 k)
set_option maxRecDepth 100000 in
theorem smt48_17 (k : Nat) : ∀ f, mt48_17 k = some f → mo_Sim 48 k f := mt_node (smt48_18 k) (smt48_21 k)
set_option maxRecDepth 100000 in
theorem smt48_26 (k : Nat) : ∀ f, mt48_26 k = some f → mo_Sim 48 k f := mt_leaf (ms_invI (p := 0) (e := (.invokespecial 36, 79, 43, 3, 185)) rfl rfl (fun _ _ _ => rfl) rfl rfl : mo_Sim 48 76 (ma_inv 43 1 1 21 79)) (mt_leaf (ms_putf (e := (.putfield 41, 82, 7, 7, 211)) rfl rfl (fun _ _ _ => rfl) (Or.inr (Or.inr (Or.inl ⟨rfl, Or.inl ⟨_, rfl⟩⟩))) : mo_Sim 48 79 (ma_putf 7 7 2 82)) (mt_leaf (ms_ald (e := (.aload_n 0, 83, 0, 0, 0)) rfl (fun _ _ _ => rfl) : mo_Sim 48 82 (ma_lda 0 83)) (mt_none)))
set_option maxRecDepth 100000 in
theorem smt48_27 (k : Nat) : ∀ f, mt48_27 k = some f → mo_Sim 48 k f := mt_leaf (ms_newo (e := (.new 34, 86, 5, 0, 183)) rfl rfl (fun _ _ _ => rfl) rfl mo_bl_5 : mo_Sim 48 83 (ma_new (5, .inl [ma_null, ma_ci (.ofNat 0), ma_ci (.ofNat 0), ma_ci (.ofNat 0)]) 86)) (mt_leaf (ms_dup (e := (.dup, 87, 0, 0, 0)) rfl (fun _ _ _ => rfl) : mo_Sim 48 86 (ma_dup 87)) (mt_leaf (ms_invI (p := 0) (e := (.invokespecial 36, 90, 43, 3, 185)) rfl rfl (fun _ _ _ => rfl) rfl rfl : mo_Sim 48 87 (ma_inv 43 1 1 21 90)) (mt_none)))
set_option maxRecDepth 100000 in
theorem smt48_25 (k : Nat) : ∀ f, mt48_25 k = some f → mo_Sim 48 k f := mt_node (smt48_26 k) (smt48_27 k)
set_option maxRecDepth 100000 in
theorem smt48_29 (k : Nat) : ∀ f, mt48_29 k = some f → mo_Sim 48 k f := mt_leaf (ms_putf (e := (.putfield 44, 93, 7, 8, 212)) rfl rfl (fun _ _ _ => rfl) (Or.inr (Or.inr (Or.inl ⟨rfl, Or.inl ⟨_, rfl⟩⟩))) : mo_Sim 48 90 (ma_putf 7 8 2 93)) (mt_leaf (ms_ald (e := (.aload_n 0, 94, 0, 0, 0)) rfl (fun _ _ _ => rfl) : mo_Sim 48 93 (ma_lda 0 94)) (mt_leaf (ms_pushi (e := (.sipush 256, 97, 0, 0, 0)) rfl (fun _ _ _ => rfl) (by decide) : mo_Sim 48 94 (ma_push (ma_ci (.ofNat 256)) 97)) (mt_none)))
set_option maxRecDepth 100000 in
theorem smt48_30 (k : Nat) : ∀ f, mt48_30 k = some f → mo_Sim 48 k f := mt_leaf (ms_newaI (e := (.newarray .int, 99, 0, 0, 0)) rfl rfl (fun _ _ _ => rfl) : mo_Sim 48 97 (ma_newa 13 (ma_ci (.ofNat 0)) 99)) (mt_leaf (ms_putf (e := (.putfield 47, 102, 7, 9, 213)) rfl rfl (fun _ _ _ => rfl) (Or.inr (Or.inr (Or.inl ⟨rfl, Or.inr ⟨_, rfl⟩⟩))) : mo_Sim 48 99 (ma_putf 7 9 2 102)) (mt_leaf (ms_retv (e := (.return_, 103, 0, 0, 0)) rfl rfl (fun _ _ _ => rfl) : mo_Sim 48 102 (ma_retv)) (mt_none)))
set_option maxRecDepth 100000 in
theorem smt48_28 (k : Nat) : ∀ f, mt48_28 k = some f → mo_Sim 48 k f := mt_node (smt48_29 k) (smt48_30 k)
set_option maxRecDepth 100000 in
theorem smt48_24 (k : Nat) : ∀ f, mt48_24 k = some f → mo_Sim 48 k f := mt_node (smt48_25 k) (smt48_28 k)
set_option maxRecDepth 100000 in
theorem smt48_16 (k : Nat) : ∀ f, mt48_16 k = some f → mo_Sim 48 k f := mt_node (smt48_17 k) (smt48_24 k)
set_option maxRecDepth 100000 in
theorem smt48_0 (k : Nat) : ∀ f, mt48_0 k = some f → mo_Sim 48 k f := mt_node (smt48_1 k) (smt48_16 k)
set_option maxRecDepth 100000 in
theorem smt49_4 (k : Nat) : ∀ f, mt49_4 k = some f → mo_Sim 49 k f := mt_leaf (ms_ald (e := (.aload_n 0, 1, 0, 0, 0)) rfl (fun _ _ _ => rfl) : mo_Sim 49 0 (ma_lda 0 1)) (mt_leaf (ms_ald (e := (.aload_n 2, 2, 0, 0, 0)) rfl (fun _ _ _ => rfl) : mo_Sim 49 1 (ma_lda 2 2)) (mt_leaf (ms_putf (e := (.putfield 14, 5, 7, 0, 204)) rfl rfl (fun _ _ _ => rfl) (Or.inr (Or.inr (Or.inl ⟨rfl, Or.inl ⟨_, rfl⟩⟩))) : mo_Sim 49 2 (ma_putf 7 0 2 5)) (mt_none)))
set_option maxRecDepth 100000 in
theorem smt49_5 (k : Nat) : ∀ f, mt49_5 k = some f → mo_Sim 49 k f := mt_leaf (ms_ald (e := (.aload_n 0, 6, 0, 0, 0)) rfl (fun _ _ _ => rfl) : mo_Sim 49 5 (ma_lda 0 6)) (mt_leaf (ms_ild (e := (.iload_n 1, 7, 0, 0, 0)) rfl (fun _ _ _ => rfl) : mo_Sim 49 6 (ma_load 0 1 7)) (mt_leaf (ms_invV (p := 1) (e := (.invokevirtual 50, 10, 50, 0, 708)) rfl rfl (fun _ _ _ => rfl) rfl rfl rfl (by decide) : mo_Sim 49 7 (ma_inv 50 2 3 7 10)) (mt_leaf (ms_pushi (e := (.iconst 0, 11, 0, 0, 0)) rfl (fun _ _ _ => rfl) (by decide) : mo_Sim 49 10 (ma_push (ma_ci (.ofNat 0)) 11)) (mt_none))))
set_option maxRecDepth 100000 in
theorem smt49_3 (k : Nat) : ∀ f, mt49_3 k = some f → mo_Sim 49 k f := mt_node (smt49_4 k) (smt49_5 k)
set_option maxRecDepth 100000 in
theorem smt49_7 (k : Nat) : ∀ f, mt49_7 k = some f → mo_Sim 49 k f := mt_leaf (ms_ist (e := (.istore 7, 13, 0, 0, 0)) rfl (fun _ _ _ => rfl) : mo_Sim 49 11 (ma_stor 0 7 13)) (mt_leaf (ms_ild (e := (.iload 7, 15, 0, 0, 0)) rfl (fun _ _ _ => rfl) : mo_Sim 49 13 (ma_load 0 7 15)) (mt_leaf (ms_ald (e := (.aload_n 0, 16, 0, 0, 0)) rfl (fun _ _ _ => rfl) : mo_Sim 49 15 (ma_lda 0 16)) (mt_none)))
set_option maxRecDepth 100000 in
theorem smt49_8 (k : Nat) : ∀ f, mt49_8 k = some f → mo_Sim 49 k f := mt_leaf (ms_getf (e := (.getfield 54, 19, 7, 10, 214)) rfl (fun _ _ _ => rfl) : mo_Sim 49 16 (ma_getf 7 10 19)) (mt_leaf (ms_if2 (e := (.if_icmp .ge 91, 22, 110, 0, 0)) rfl (fun _ _ _ => rfl) : mo_Sim 49 19 (ma_if2 .ge 110 19 22)) (mt_leaf (ms_ald (e := (.aload_n 0, 23, 0, 0, 0)) rfl (fun _ _ _ => rfl) : mo_Sim 49 22 (ma_lda 0 23)) (mt_leaf (ms_getf (e := (.getfield 54, 26, 7, 10, 214)) rfl (fun _ _ _ => rfl) : mo_Sim 49 23 (ma_getf 7 10 26)) (mt_none))))
set_option maxRecDepth 100000 in
theorem smt49_6 (k : Nat) : ∀ f, mt49_6 k = some f → mo_Sim 49 k f := mt_node (smt49_7 k) (smt49_8 k)
set_option maxRecDepth 100000 in
theorem smt49_2 (k : Nat) : ∀ f, mt49_2 k = some f → mo_Sim 49 k f := mt_node (smt49_3 k) (smt49_6 k)
set_option maxRecDepth 100000 in
theorem smt49_11 (k : Nat) : ∀ f, mt49_11 k = some f → mo_Sim 49 k f := mt_leaf (ms_pushi (e := (.sipush 256, 29, 0, 0, 0)) rfl (fun _ _ _ => rfl) (by decide) : mo_Sim 49 26 (ma_push (ma_ci (.ofNat 256)) 29)) (mt_leaf (ms_if2 (e := (.if_icmp .gt 81, 32, 110, 0, 0)) rfl (fun _ _ _ => rfl) : mo_Sim 49 29 (ma_if2 .gt 110 29 32)) (mt_leaf (ms_ald (e := (.aload_n 0, 33, 0, 0, 0)) rfl (fun _ _ _ => rfl) : mo_Sim 49 32 (ma_lda 0 33)) (mt_none)))
set_option maxRecDepth 100000 in
theorem smt49_12 (k : Nat) : ∀ f, mt49_12 k = some f → mo_Sim 49 k f := mt_leaf (ms_ild (e := (.iload 7, 35, 0, 0, 0)) rfl (fun _ _ _ => rfl) : mo_Sim 49 33 (ma_load 0 7 35)) (mt_leaf (ms_invV (p := 1) (e := (.invokevirtual 58, 38, 57, 0, 739)) rfl rfl (fun _ _ _ => rfl) rfl rfl rfl (by decide) : mo_Sim 49 35 (ma_inv 57 2 4 7 38)) (mt_leaf (ms_ald (e := (.aload_n 0, 39, 0, 0, 0)) rfl (fun _ _ _ => rfl) : mo_Sim 49 38 (ma_lda 0 39)) (mt_leaf (ms_ald (e := (.aload_n 0, 40, 0, 0, 0)) rfl (fun _ _ _ => rfl) : mo_Sim 49 39 (ma_lda 0 40)) (mt_none))))
set_option maxRecDepth 100000 in
theorem smt49_10 (k : Nat) : ∀ f, mt49_10 k = some f → mo_Sim 49 k f := mt_node (smt49_11 k) (smt49_12 k)
set_option maxRecDepth 100000 in
theorem smt49_14 (k : Nat) : ∀ f, mt49_14 k = some f → mo_Sim 49 k f := mt_leaf (ms_getf (e := (.getfield 54, 43, 7, 10, 214)) rfl (fun _ _ _ => rfl) : mo_Sim 49 40 (ma_getf 7 10 43)) (mt_leaf (ms_ild (e := (.iload 5, 45, 0, 0, 0)) rfl (fun _ _ _ => rfl) : mo_Sim 49 43 (ma_load 0 5 45)) (mt_leaf (ms_if2 (e := (.if_icmp .ne 12, 48, 57, 0, 0)) rfl (fun _ _ _ => rfl) : mo_Sim 49 45 (ma_if2 .ne 57 45 48)) (mt_leaf (ms_ald (e := (.aload_n 0, 49, 0, 0, 0)) rfl (fun _ _ _ => rfl) : mo_Sim 49 48 (ma_lda 0 49)) (mt_none))))
set_option maxRecDepth 100000 in
theorem smt49_15 (k : Nat) : ∀ f, mt49_15 k = some f → mo_Sim 49 k f := mt_leaf (ms_ild (e := (.iload 7, 51, 0, 0, 0)) rfl (fun _ _ _ => rfl) : mo_Sim 49 49 (ma_load 0 7 51)) (mt_leaf (ms_invV (p := 1) (e := (.invokevirtual 61, 54, 59, 0, 755)) rfl rfl (fun _ _ _ => rfl) rfl rfl rfl (by decide) : mo_Sim 49 51 (ma_inv 59 2 4 7 54)) (mt_leaf (ms_goto (e := (.goto 5, 57, 59, 0, 0)) rfl (fun _ _ _ => rfl) : mo_Sim 49 54 (ma_goto 59)) (mt_leaf (ms_pushi (e := (.ldc 65, 59, 3000002, 0, 760)) rfl (fun _ _ _ => rfl) (by decide) : mo_Sim 49 57 (ma_push (ma_ci (.ofNat 3000002)) 59)) (mt_none))))
set_option maxRecDepth 100000 in
theorem smt49_13 (k : Nat) : ∀ f, mt49_13 k = some f → mo_Sim 49 k f := mt_node (smt49_14 k) (smt49_15 k)
set_option maxRecDepth 100000 in
theorem smt49_9 (k : Nat) : ∀ f, mt49_9 k = some f → mo_Sim 49 k f := mt_node (smt49_10 k) (smt49_13 k)
set_option maxRecDepth 100000 in
theorem smt49_1 (k : Nat) : ∀ f, mt49_1 k = some f → mo_Sim 49 k f := mt_node (smt49_2 k) (smt49_9 k)
set_option maxRecDepth 100000 in
theorem smt49_19 (k : Nat) : ∀ f, mt49_19 k = some f → mo_Sim 49 k f := mt_leaf (ms_putf (e := (.putfield 66, 62, 7, 11, 215)) rfl rfl (fun _ _ _ => rfl) (Or.inl ⟨rfl, rfl⟩) : mo_Sim 49 59 (ma_putf 7 11 0 62)) (mt_leaf (ms_pushi (e := (.iconst 0, 63, 0, 0, 0)) rfl (fun _ _ _ => rfl) (by decide) : mo_Sim 49 62 (ma_push (ma_ci (.ofNat 0)) 63)) (mt_leaf (ms_ist (e := (.istore 8, 65, 0, 0, 0)) rfl (fun _ _ _ => rfl) : mo_Sim 49 63 (ma_stor 0 8 65)) (mt_none)))
set_option maxRecDepth 100000 in
theorem smt49_20 (k : Nat) : ∀ f, mt49_20 k = some f → mo_Sim 49 k f := mt_leaf (ms_ild (e := (.iload 8, 67, 0, 0, 0)) rfl (fun _ _ _ => rfl) : mo_Sim 49 65 (ma_load 0 8 67)) (mt_leaf (ms_ild (e := (.iload 4, 69, 0, 0, 0)) rfl (fun _ _ _ => rfl) : mo_Sim 49 67 (ma_load 0 4 69)) (mt_leaf (ms_if2 (e := (.if_icmp .ge 35, 72, 104, 0, 0)) rfl (fun _ _ _ => rfl) : mo_Sim 49 69 (ma_if2 .ge 104 69 72)) (mt_leaf (ms_ald (e := (.aload_n 0, 73, 0, 0, 0)) rfl (fun _ _ _ => rfl) : mo_Sim 49 72 (ma_lda 0 73)) (mt_none))))
set_option maxRecDepth 100000 in
theorem smt49_18 (k : Nat) : ∀ f, mt49_18 k = some f → mo_Sim 49 k f := mt_node (smt49_19 k) (smt49_20 k)
set_option maxRecDepth 100000 in
theorem smt49_22 (k : Nat) : ∀ f, mt49_22 k = some f → mo_Sim 49 k f := mt_leaf (ms_getf (e := (.getfield 22, 76, 7, 2, 206)) rfl (fun _ _ _ => rfl) : mo_Sim 49 73 (ma_getf 7 2 76)) (mt_leaf (ms_ild (e := (.iload 7, 78, 0, 0, 0)) rfl (fun _ _ _ => rfl) : mo_Sim 49 76 (ma_load 0 7 78)) (mt_leaf (ms_iald (e := (.iaload, 79, 0, 0, 0)) rfl (fun _ _ _ => rfl) : mo_Sim 49 78 (ma_iald 78 79)) (mt_none)))
set_option maxRecDepth 100000 in
theorem smt49_23 (k : Nat) : ∀ f, mt49_23 k = some f → mo_Sim 49 k f := mt_leaf (ms_pushi (e := (.iconst 1, 80, 0, 0, 0)) rfl (fun _ _ _ => rfl) (by decide) : mo_Sim 49 79 (ma_push (ma_ci (.ofNat 1)) 80)) (mt_leaf (ms_iadd (e := (.iadd, 81, 0, 0, 0)) rfl (fun _ _ _ => rfl) : mo_Sim 49 80 (ma_iadd 80 81)) (mt_leaf (ms_ald (e := (.aload_n 0, 82, 0, 0, 0)) rfl (fun _ _ _ => rfl) : mo_Sim 49 81 (ma_lda 0 82)) (mt_leaf (ms_getf (e := (.getfield 66, 85, 7, 11, 215)) rfl (fun _ _ _ => rfl) : mo_Sim 49 82 (ma_getf 7 11 85)) (mt_none))))
set_option maxRecDepth 100000 in
theorem smt49_21 (k : Nat) : ∀ f, mt49_21 k = some f → mo_Sim 49 k f := mt_node (smt49_22 k) (smt49_23 k)
set_option maxRecDepth 100000 in
theorem smt49_17 (k : Nat) : ∀ f, mt49_17 k = some f → mo_Sim 49 k f := mt_node (smt49_18 k) (smt49_21 k)
set_option maxRecDepth 100000 in
theorem smt49_26 (k : Nat) : ∀ f, mt49_26 k = some f → mo_Sim 49 k f := mt_leaf (ms_if2 (e := (.if_icmp .ge 19, 88, 104, 0, 0)) rfl (fun _ _ _ => rfl) : mo_Sim 49 85 (ma_if2 .ge 104 85 88)) (mt_leaf (ms_ald (e := (.aload_n 0, 89, 0, 0, 0)) rfl (fun _ _ _ => rfl) : mo_Sim 49 88 (ma_lda 0 89)) (mt_leaf (ms_ald (e := (.aload_n 3, 90, 0, 0, 0)) rfl (fun _ _ _ => rfl) : mo_Sim 49 89 (ma_lda 3 90)) (mt_none)))
set_option maxRecDepth 100000 in
theorem smt49_27 (k : Nat) : ∀ f, mt49_27 k = some f → mo_Sim 49 k f := mt_leaf (ms_ild (e := (.iload 8, 92, 0, 0, 0)) rfl (fun _ _ _ => rfl) : mo_Sim 49 90 (ma_load 0 8 92)) (mt_leaf (ms_aald (e := (.aaload, 93, 0, 0, 0)) rfl (fun _ _ _ => rfl) : mo_Sim 49 92 (ma_aald 92 93)) (mt_leaf (ms_ild (e := (.iload 7, 95, 0, 0, 0)) rfl (fun _ _ _ => rfl) : mo_Sim 49 93 (ma_load 0 7 95)) (mt_leaf (ms_invV (p := 2) (e := (.invokevirtual 69, 98, 54, 0, 761)) rfl rfl (fun _ _ _ => rfl) rfl rfl rfl (by decide) : mo_Sim 49 95 (ma_inv 54 3 5 7 98)) (mt_none))))
set_option maxRecDepth 100000 in
theorem smt49_25 (k : Nat) : ∀ f, mt49_25 k = some f → mo_Sim 49 k f := mt_node (smt49_26 k) (smt49_27 k)
set_option maxRecDepth 100000 in
theorem smt49_29 (k : Nat) : ∀ f, mt49_29 k = some f → mo_Sim 49 k f := mt_leaf (ms_iinc (e := (.iinc 8 1, 101, 0, 0, 0)) rfl (fun _ _ _ => rfl) (by decide) : mo_Sim 49 98 (ma_iinc 8 (.ofNat 1) 98 101)) (mt_leaf (ms_goto (e := (.goto (-36), 104, 65, 0, 0)) rfl (fun _ _ _ => rfl) : mo_Sim 49 101 (ma_goto 65)) (mt_leaf (ms_iinc (e := (.iinc 7 1, 107, 0, 0, 0)) rfl (fun _ _ _ => rfl) (by decide) : mo_Sim 49 104 (ma_iinc 7 (.ofNat 1) 104 107)) (mt_leaf (ms_goto (e := (.goto (-94), 110, 13, 0, 0)) rfl (fun _ _ _ => rfl) : mo_Sim 49 107 (ma_goto 13)) (mt_none))))
set_option maxRecDepth 100000 in
theorem smt49_30 (k : Nat) : ∀ f, mt49_30 k = some f → mo_Sim 49 k f := mt_leaf (ms_ald (e := (.aload_n 0, 111, 0, 0, 0)) rfl (fun _ _ _ => rfl) : mo_Sim 49 110 (ma_lda 0 111)) (mt_leaf (ms_ald (e := (.aload 6, 113, 0, 0, 0)) rfl (fun _ _ _ => rfl) : mo_Sim 49 111 (ma_lda 6 113)) (mt_leaf (ms_invV (p := 1) (e := (.invokevirtual 73, 116, 62, 0, 772)) rfl rfl (fun _ _ _ => rfl) rfl rfl rfl (by decide) : mo_Sim 49 113 (ma_inv 62 2 3 7 116)) (mt_leaf (ms_retv (e := (.return_, 117, 0, 0, 0)) rfl rfl (fun _ _ _ => rfl) : mo_Sim 49 116 (ma_retv)) (mt_none))))
set_option maxRecDepth 100000 in
theorem smt49_28 (k : Nat) : ∀ f, mt49_28 k = some f → mo_Sim 49 k f := mt_node (smt49_29 k) (smt49_30 k)
set_option maxRecDepth 100000 in
theorem smt49_24 (k : Nat) : ∀ f, mt49_24 k = some f → mo_Sim 49 k f := mt_node (smt49_25 k) (smt49_28 k)
set_option maxRecDepth 100000 in
theorem smt49_16 (k : Nat) : ∀ f, mt49_16 k = some f → mo_Sim 49 k f := mt_node (smt49_17 k) (smt49_24 k)
set_option maxRecDepth 100000 in
theorem smt49_0 (k : Nat) : ∀ f, mt49_0 k = some f → mo_Sim 49 k f := mt_node (smt49_1 k) (smt49_16 k)
