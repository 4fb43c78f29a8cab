set_option maxRecDepth 100000 in
theorem smt76_3 (k : Nat) : ∀ f, mt76_3 k = some f → mo_Sim 76 k f := mt_leaf (ms_ald (e := (.aload_n 0, 1, 0, 0, 0)) rfl (fun _ _ _ => rfl) : mo_Sim 76 0 (ma_lda 0 1)) (mt_leaf (ms_getf (e := (.getfield 13, 4, 9, 2, 251)) rfl (fun _ _ _ => rfl) : mo_Sim 76 1 (ma_getf 9 2 4)) (mt_leaf (ms_ald (e := (.aload_n 0, 5, 0, 0, 0)) rfl (fun _ _ _ => rfl) : mo_Sim 76 4 (ma_lda 0 5)) (mt_leaf (ms_getf (e := (.getfield 29, 8, 9, 1, 249)) rfl (fun _ _ _ => rfl) : mo_Sim 76 5 (ma_getf 9 1 8)) (mt_none))))
set_option maxRecDepth 100000 in
theorem smt76_4 (k : Nat) : ∀ f, mt76_4 k = some f → mo_Sim 76 k f := mt_leaf (ms_ild (e := (.iload_n 1, 9, 0, 0, 0)) rfl (fun _ _ _ => rfl) : mo_Sim 76 8 (ma_load 0 1 9)) (mt_leaf (ms_iast (e := (.iastore, 10, 0, 0, 0)) rfl rfl (fun _ _ _ => rfl) : mo_Sim 76 9 (ma_ast 13 0 9 10)) (mt_leaf (ms_ald (e := (.aload_n 0, 11, 0, 0, 0)) rfl (fun _ _ _ => rfl) : mo_Sim 76 10 (ma_lda 0 11)) (mt_leaf (ms_getf (e := (.getfield 17, 14, 9, 3, 253)) rfl (fun _ _ _ => rfl) : mo_Sim 76 11 (ma_getf 9 3 14)) (mt_none))))
set_option maxRecDepth 100000 in
theorem smt76_2 (k : Nat) : ∀ f, mt76_2 k = some f → mo_Sim 76 k f := mt_node (smt76_3 k) (smt76_4 k)
set_option maxRecDepth 100000 in
theorem smt76_6 (k : Nat) : ∀ f, mt76_6 k = some f → mo_Sim 76 k f := mt_leaf (ms_ald (e := (.aload_n 0, 15, 0, 0, 0)) rfl (fun _ _ _ => rfl) : mo_Sim 76 14 (ma_lda 0 15)) (mt_leaf (ms_getf (e := (.getfield 29, 18, 9, 1, 249)) rfl (fun _ _ _ => rfl) : mo_Sim 76 15 (ma_getf 9 1 18)) (mt_leaf (ms_ild (e := (.iload_n 2, 19, 0, 0, 0)) rfl (fun _ _ _ => rfl) : mo_Sim 76 18 (ma_load 0 2 19)) (mt_leaf (ms_iast (e := (.iastore, 20, 0, 0, 0)) rfl rfl (fun _ _ _ => rfl) : mo_Sim 76 19 (ma_ast 13 0 19 20)) (mt_none))))
set_option maxRecDepth 100000 in
theorem smt76_7 (k : Nat) : ∀ f, mt76_7 k = some f → mo_Sim 76 k f := mt_leaf (ms_ald (e := (.aload_n 0, 21, 0, 0, 0)) rfl (fun _ _ _ => rfl) : mo_Sim 76 20 (ma_lda 0 21)) (mt_leaf (ms_getf (e := (.getfield 20, 24, 9, 4, 255)) rfl (fun _ _ _ => rfl) : mo_Sim 76 21 (ma_getf 9 4 24)) (mt_leaf (ms_ald (e := (.aload_n 0, 25, 0, 0, 0)) rfl (fun _ _ _ => rfl) : mo_Sim 76 24 (ma_lda 0 25)) (mt_leaf (ms_getf (e := (.getfield 29, 28, 9, 1, 249)) rfl (fun _ _ _ => rfl) : mo_Sim 76 25 (ma_getf 9 1 28)) (mt_none))))
set_option maxRecDepth 100000 in
theorem smt76_5 (k : Nat) : ∀ f, mt76_5 k = some f → mo_Sim 76 k f := mt_node (smt76_6 k) (smt76_7 k)
set_option maxRecDepth 100000 in
theorem smt76_1 (k : Nat) : ∀ f, mt76_1 k = some f → mo_Sim 76 k f := mt_node (smt76_2 k) (smt76_5 k)
set_option maxRecDepth 100000 in
theorem smt76_10 (k : Nat) : ∀ f, mt76_10 k = some f → mo_Sim 76 k f := mt_leaf (ms_ild (e := (.iload_n 3, 29, 0, 0, 0)) rfl (fun _ _ _ => rfl) : mo_Sim 76 28 (ma_load 0 3 29)) (mt_leaf (ms_iast (e := (.iastore, 30, 0, 0, 0)) rfl rfl (fun _ _ _ => rfl) : mo_Sim 76 29 (ma_ast 13 0 29 30)) (mt_leaf (ms_ald (e := (.aload_n 0, 31, 0, 0, 0)) rfl (fun _ _ _ => rfl) : mo_Sim 76 30 (ma_lda 0 31)) (mt_leaf (ms_getf (e := (.getfield 23, 34, 9, 5, 257)) rfl (fun _ _ _ => rfl) : mo_Sim 76 31 (ma_getf 9 5 34)) (mt_none))))
set_option maxRecDepth 100000 in
theorem smt76_11 (k : Nat) : ∀ f, mt76_11 k = some f → mo_Sim 76 k f := mt_leaf (ms_ald (e := (.aload_n 0, 35, 0, 0, 0)) rfl (fun _ _ _ => rfl) : mo_Sim 76 34 (ma_lda 0 35)) (mt_leaf (ms_getf (e := (.getfield 29, 38, 9, 1, 249)) rfl (fun _ _ _ => rfl) : mo_Sim 76 35 (ma_getf 9 1 38)) (mt_leaf (ms_ild (e := (.iload 4, 40, 0, 0, 0)) rfl (fun _ _ _ => rfl) : mo_Sim 76 38 (ma_load 0 4 40)) (mt_leaf (ms_iast (e := (.iastore, 41, 0, 0, 0)) rfl rfl (fun _ _ _ => rfl) : mo_Sim 76 40 (ma_ast 13 0 40 41)) (mt_none))))
set_option maxRecDepth 100000 in
theorem smt76_9 (k : Nat) : ∀ f, mt76_9 k = some f → mo_Sim 76 k f := mt_node (smt76_10 k) (smt76_11 k)
set_option maxRecDepth 100000 in
theorem smt76_13 (k : Nat) : ∀ f, mt76_13 k = some f → mo_Sim 76 k f := mt_leaf (ms_ald (e := (.aload_n 0, 42, 0, 0, 0)) rfl (fun _ _ _ => rfl) : mo_Sim 76 41 (ma_lda 0 42)) (mt_leaf (ms_dup (e := (.dup, 43, 0, 0, 0)) rfl (fun _ _ _ => rfl) : mo_Sim 76 42 (ma_dup 43)) (mt_leaf (ms_getf (e := (.getfield 29, 46, 9, 1, 249)) rfl (fun _ _ _ => rfl) : mo_Sim 76 43 (ma_getf 9 1 46)) (mt_leaf (ms_dx1 (e := (.dup_x1, 47, 0, 0, 0)) rfl (fun _ _ _ => rfl) : mo_Sim 76 46 (ma_dx1 47)) (mt_none))))
set_option maxRecDepth 100000 in
theorem smt76_14 (k : Nat) : ∀ f, mt76_14 k = some f → mo_Sim 76 k f := mt_leaf (ms_pushi (e := (.iconst 1, 48, 0, 0, 0)) rfl (fun _ _ _ => rfl) (by decide) : mo_Sim 76 47 (ma_push (ma_ci (.ofNat 1)) 48)) (mt_leaf (ms_iadd (e := (.iadd, 49, 0, 0, 0)) rfl (fun _ _ _ => rfl) : mo_Sim 76 48 (ma_iadd 48 49)) (mt_leaf (ms_putf (e := (.putfield 29, 52, 9, 1, 249)) rfl rfl (fun _ _ _ => rfl) (Or.inl ⟨rfl, rfl⟩) : mo_Sim 76 49 (ma_putf 9 1 0 52)) (mt_leaf (ms_ret (e := (.ireturn, 53, 0, 0, 0)) rfl (Or.inl ⟨rfl, rfl, (fun _ _ _ => rfl)⟩) : mo_Sim 76 52 (ma_ret 0)) (mt_none))))
set_option maxRecDepth 100000 in
theorem smt76_12 (k : Nat) : ∀ f, mt76_12 k = some f → mo_Sim 76 k f := mt_node (smt76_13 k) (smt76_14 k)
set_option maxRecDepth 100000 in
theorem smt76_8 (k : Nat) : ∀ f, mt76_8 k = some f → mo_Sim 76 k f := mt_node (smt76_9 k) (smt76_12 k)
set_option maxRecDepth 100000 in
theorem smt76_0 (k : Nat) : ∀ f, mt76_0 k = some f → mo_Sim 76 k f := mt_node (smt76_1 k) (smt76_8 k)
set_option maxRecDepth 100000 in
theorem smt77_3 (k : Nat) : ∀ f, mt77_3 k = some f → mo_Sim 77 k f := mt_leaf (ms_pushi (e := (.iconst 0, 1, 0, 0, 0)) rfl (fun _ _ _ => rfl) (by decide) : mo_Sim 77 0 (ma_push (ma_ci (.ofNat 0)) 1)) (mt_leaf (ms_ist (e := (.istore_n 1, 2, 0, 0, 0)) rfl (fun _ _ _ => rfl) : mo_Sim 77 1 (ma_stor 0 1 2)) (mt_none))
set_option maxRecDepth 100000 in
theorem smt77_4 (k : Nat) : ∀ f, mt77_4 k = some f → mo_Sim 77 k f := mt_leaf (ms_pushi (e := (.iconst 0, 3, 0, 0, 0)) rfl (fun _ _ _ => rfl) (by decide) : mo_Sim 77 2 (ma_push (ma_ci (.ofNat 0)) 3)) (mt_leaf (ms_ist (e := (.istore_n 2, 4, 0, 0, 0)) rfl (fun _ _ _ => rfl) : mo_Sim 77 3 (ma_stor 0 2 4)) (mt_leaf (ms_ild (e := (.iload_n 2, 5, 0, 0, 0)) rfl (fun _ _ _ => rfl) : mo_Sim 77 4 (ma_load 0 2 5)) (mt_none)))
set_option maxRecDepth 100000 in
theorem smt77_2 (k : Nat) : ∀ f, mt77_2 k = some f → mo_Sim 77 k f := mt_node (smt77_3 k) (smt77_4 k)
set_option maxRecDepth 100000 in
theorem smt77_6 (k : Nat) : ∀ f, mt77_6 k = some f → mo_Sim 77 k f := mt_leaf (ms_ald (e := (.aload_n 0, 6, 0, 0, 0)) rfl (fun _ _ _ => rfl) : mo_Sim 77 5 (ma_lda 0 6)) (mt_leaf (ms_getf (e := (.getfield 29, 9, 9, 1, 249)) rfl (fun _ _ _ => rfl) : mo_Sim 77 6 (ma_getf 9 1 9)) (mt_none))
set_option maxRecDepth 100000 in
theorem smt77_7 (k : Nat) : ∀ f, mt77_7 k = some f → mo_Sim 77 k f := mt_leaf (ms_if2 (e := (.if_icmp .ge 20, 12, 29, 0, 0)) rfl (fun _ _ _ => rfl) : mo_Sim 77 9 (ma_if2 .ge 29 9 12)) (mt_leaf (ms_ild (e := (.iload_n 1, 13, 0, 0, 0)) rfl (fun _ _ _ => rfl) : mo_Sim 77 12 (ma_load 0 1 13)) (mt_leaf (ms_pushi (e := (.iconst 1, 14, 0, 0, 0)) rfl (fun _ _ _ => rfl) (by decide) : mo_Sim 77 13 (ma_push (ma_ci (.ofNat 1)) 14)) (mt_none)))
set_option maxRecDepth 100000 in
theorem smt77_5 (k : Nat) : ∀ f, mt77_5 k = some f → mo_Sim 77 k f := mt_node (smt77_6 k) (smt77_7 k)
set_option maxRecDepth 100000 in
theorem smt77_1 (k : Nat) : ∀ f, mt77_1 k = some f → mo_Sim 77 k f := mt_node (smt77_2 k) (smt77_5 k)
set_option maxRecDepth 100000 in
theorem smt77_10 (k : Nat) : ∀ f, mt77_10 k = some f → mo_Sim 77 k f := mt_leaf (ms_ald (e := (.aload_n 0, 15, 0, 0, 0)) rfl (fun _ _ _ => rfl) : mo_Sim 77 14 (ma_lda 0 15)) (mt_leaf (ms_getf (e := (.getfield 13, 18, 9, 2, 251)) rfl (fun _ _ _ => rfl) : mo_Sim 77 15 (ma_getf 9 2 18)) (mt_none))
set_option maxRecDepth 100000 in
theorem smt77_11 (k : Nat) : ∀ f, mt77_11 k = some f → mo_Sim 77 k f := mt_leaf (ms_ild (e := (.iload_n 2, 19, 0, 0, 0)) rfl (fun _ _ _ => rfl) : mo_Sim 77 18 (ma_load 0 2 19)) (mt_leaf (ms_iald (e := (.iaload, 20, 0, 0, 0)) rfl (fun _ _ _ => rfl) : mo_Sim 77 19 (ma_iald 19 20)) (mt_leaf (ms_i2 (e := (.ishl, 21, 0, 0, 0)) rfl (fun _ _ _ => rfl) hf_shl : mo_Sim 77 20 (ma_i2 ma_fshl 20 21)) (mt_none)))
set_option maxRecDepth 100000 in
theorem smt77_9 (k : Nat) : ∀ f, mt77_9 k = some f → mo_Sim 77 k f := mt_node (smt77_10 k) (smt77_11 k)
set_option maxRecDepth 100000 in
theorem smt77_13 (k : Nat) : ∀ f, mt77_13 k = some f → mo_Sim 77 k f := mt_leaf (ms_i2 (e := (.ior, 22, 0, 0, 0)) rfl (fun _ _ _ => rfl) hf_or : mo_Sim 77 21 (ma_i2 ma_for 21 22)) (mt_leaf (ms_ist (e := (.istore_n 1, 23, 0, 0, 0)) rfl (fun _ _ _ => rfl) : mo_Sim 77 22 (ma_stor 0 1 23)) (mt_leaf (ms_iinc (e := (.iinc 2 1, 26, 0, 0, 0)) rfl (fun _ _ _ => rfl) (by decide) : mo_Sim 77 23 (ma_iinc 2 (.ofNat 1) 23 26)) (mt_none)))
set_option maxRecDepth 100000 in
theorem smt77_14 (k : Nat) : ∀ f, mt77_14 k = some f → mo_Sim 77 k f := mt_leaf (ms_goto (e := (.goto (-22), 29, 4, 0, 0)) rfl (fun _ _ _ => rfl) : mo_Sim 77 26 (ma_goto 4)) (mt_leaf (ms_ild (e := (.iload_n 1, 30, 0, 0, 0)) rfl (fun _ _ _ => rfl) : mo_Sim 77 29 (ma_load 0 1 30)) (mt_leaf (ms_ret (e := (.ireturn, 31, 0, 0, 0)) rfl (Or.inl ⟨rfl, rfl, (fun _ _ _ => rfl)⟩) : mo_Sim 77 30 (ma_ret 0)) (mt_none)))
set_option maxRecDepth 100000 in
theorem smt77_12 (k : Nat) : ∀ f, mt77_12 k = some f → mo_Sim 77 k f := mt_node (smt77_13 k) (smt77_14 k)
set_option maxRecDepth 100000 in
theorem smt77_8 (k : Nat) : ∀ f, mt77_8 k = some f → mo_Sim 77 k f := mt_node (smt77_9 k) (smt77_12 k)
set_option maxRecDepth 100000 in
theorem smt77_0 (k : Nat) : ∀ f, mt77_0 k = some f → mo_Sim 77 k f := mt_node (smt77_1 k) (smt77_8 k)
set_option maxRecDepth 100000 in
theorem smt78_4 (k : Nat) : ∀ f, mt78_4 k = some f → mo_Sim 78 k f := mt_leaf (ms_ald (e := (.aload_n 0, 1, 0, 0, 0)) rfl (fun _ _ _ => rfl) : mo_Sim 78 0 (ma_lda 0 1)) (mt_leaf (ms_getf (e := (.getfield 26, 4, 9, 6, 259)) rfl (fun _ _ _ => rfl) : mo_Sim 78 1 (ma_getf 9 6 4)) (mt_none))
set_option maxRecDepth 100000 in
theorem smt78_5 (k : Nat) : ∀ f, mt78_5 k = some f → mo_Sim 78 k f := mt_leaf (ms_ald (e := (.aload_n 2, 5, 0, 0, 0)) rfl (fun _ _ _ => rfl) : mo_Sim 78 4 (ma_lda 2 5)) (mt_leaf (ms_invV (p := 0) (e := (.invokevirtual 32, 8, 15, 0, 964)) rfl rfl (fun _ _ _ => rfl) rfl rfl rfl (by decide) : mo_Sim 78 5 (ma_inv 15 1 1 1 8)) (mt_leaf (ms_invS (e := (.invokestatic 38, 11, 208, 1, 965)) rfl rfl (fun _ _ _ => rfl) rfl rfl : mo_Sim 78 8 (ma_inv 208 2 4 20 11)) (mt_none)))
set_option maxRecDepth 100000 in
theorem smt78_3 (k : Nat) : ∀ f, mt78_3 k = some f → mo_Sim 78 k f := mt_node (smt78_4 k) (smt78_5 k)
set_option maxRecDepth 100000 in
theorem smt78_7 (k : Nat) : ∀ f, mt78_7 k = some f → mo_Sim 78 k f := mt_leaf (ms_pushi (e := (.iconst 1, 12, 0, 0, 0)) rfl (fun _ _ _ => rfl) (by decide) : mo_Sim 78 11 (ma_push (ma_ci (.ofNat 1)) 12)) (mt_leaf (ms_ist (e := (.istore_n 3, 13, 0, 0, 0)) rfl (fun _ _ _ => rfl) : mo_Sim 78 12 (ma_stor 0 3 13)) (mt_none))
set_option maxRecDepth 100000 in
theorem smt78_8 (k : Nat) : ∀ f, mt78_8 k = some f → mo_Sim 78 k f := mt_leaf (ms_pushi (e := (.iconst 0, 14, 0, 0, 0)) rfl (fun _ _ _ => rfl) (by decide) : mo_Sim 78 13 (ma_push (ma_ci (.ofNat 0)) 14)) (mt_leaf (ms_ist (e := (.istore 4, 16, 0, 0, 0)) rfl (fun _ _ _ => rfl) : mo_Sim 78 14 (ma_stor 0 4 16)) (mt_leaf (ms_ild (e := (.iload 4, 18, 0, 0, 0)) rfl (fun _ _ _ => rfl) : mo_Sim 78 16 (ma_load 0 4 18)) (mt_none)))
set_option maxRecDepth 100000 in
theorem smt78_6 (k : Nat) : ∀ f, mt78_6 k = some f → mo_Sim 78 k f := mt_node (smt78_7 k) (smt78_8 k)
set_option maxRecDepth 100000 in
theorem smt78_2 (k : Nat) : ∀ f, mt78_2 k = some f → mo_Sim 78 k f := mt_node (smt78_3 k) (smt78_6 k)
set_option maxRecDepth 100000 in
theorem smt78_11 (k : Nat) : ∀ f, mt78_11 k = some f → mo_Sim 78 k f := mt_leaf (ms_pushi (e := (.bipush 25, 20, 0, 0, 0)) rfl (fun _ _ _ => rfl) (by decide) : mo_Sim 78 18 (ma_push (ma_ci (.ofNat 25)) 20)) (mt_leaf (ms_if2 (e := (.if_icmp .ge 52, 23, 72, 0, 0)) rfl (fun _ _ _ => rfl) : mo_Sim 78 20 (ma_if2 .ge 72 20 23)) (mt_none))
set_option maxRecDepth 100000 in
theorem smt78_12 (k : Nat) : ∀ f, mt78_12 k = some f → mo_Sim 78 k f := mt_leaf (ms_ild (e := (.iload_n 3, 24, 0, 0, 0)) rfl (fun _ _ _ => rfl) : mo_Sim 78 23 (ma_load 0 3 24)) (mt_leaf (ms_if0 (e := (.ifCond .eq 48, 27, 72, 0, 0)) rfl (fun _ _ _ => rfl) : mo_Sim 78 24 (ma_if0 .eq 72 24 27)) (mt_leaf (ms_pushi (e := (.iconst 0, 28, 0, 0, 0)) rfl (fun _ _ _ => rfl) (by decide) : mo_Sim 78 27 (ma_push (ma_ci (.ofNat 0)) 28)) (mt_none)))
set_option maxRecDepth 100000 in
theorem smt78_10 (k : Nat) : ∀ f, mt78_10 k = some f → mo_Sim 78 k f := mt_node (smt78_11 k) (smt78_12 k)
set_option maxRecDepth 100000 in
theorem smt78_14 (k : Nat) : ∀ f, mt78_14 k = some f → mo_Sim 78 k f := mt_leaf (ms_ist (e := (.istore_n 3, 29, 0, 0, 0)) rfl (fun _ _ _ => rfl) : mo_Sim 78 28 (ma_stor 0 3 29)) (mt_leaf (ms_pushi (e := (.iconst 0, 30, 0, 0, 0)) rfl (fun _ _ _ => rfl) (by decide) : mo_Sim 78 29 (ma_push (ma_ci (.ofNat 0)) 30)) (mt_none))
set_option maxRecDepth 100000 in
theorem smt78_15 (k : Nat) : ∀ f, mt78_15 k = some f → mo_Sim 78 k f := mt_leaf (ms_ist (e := (.istore 5, 32, 0, 0, 0)) rfl (fun _ _ _ => rfl) : mo_Sim 78 30 (ma_stor 0 5 32)) (mt_leaf (ms_ild (e := (.iload 5, 34, 0, 0, 0)) rfl (fun _ _ _ => rfl) : mo_Sim 78 32 (ma_load 0 5 34)) (mt_leaf (ms_ald (e := (.aload_n 0, 35, 0, 0, 0)) rfl (fun _ _ _ => rfl) : mo_Sim 78 34 (ma_lda 0 35)) (mt_none)))
set_option maxRecDepth 100000 in
theorem smt78_13 (k : Nat) : ∀ f, mt78_13 k = some f → mo_Sim 78 k f := mt_node (smt78_14 k) (smt78_15 k)
set_option maxRecDepth 100000 in
theorem smt78_9 (k : Nat) : ∀ f, mt78_9 k = some f → mo_Sim 78 k f := mt_node (smt78_10 k) (smt78_13 k)
set_option maxRecDepth 100000 in
theorem smt78_1 (k : Nat) : ∀ f, mt78_1 k = some f → mo_Sim 78 k f := mt_node (smt78_2 k) (smt78_9 k)
set_option maxRecDepth 100000 in
theorem smt78_19 (k : Nat) : ∀ f, mt78_19 k = some f → mo_Sim 78 k f := mt_leaf (ms_getf (e := (.getfield 29, 38, 9, 1, 249)) rfl (fun _ _ _ => rfl) : mo_Sim 78 35 (ma_getf 9 1 38)) (mt_leaf (ms_if2 (e := (.if_icmp .ge 28, 41, 66, 0, 0)) rfl (fun _ _ _ => rfl) : mo_Sim 78 38 (ma_if2 .ge 66 38 41)) (mt_none))
set_option maxRecDepth 100000 in
theorem smt78_20 (k : Nat) : ∀ f, mt78_20 k = some f → mo_Sim 78 k f := mt_leaf (ms_ild (e := (.iload_n 3, 42, 0, 0, 0)) rfl (fun _ _ _ => rfl) : mo_Sim 78 41 (ma_load 0 3 42)) (mt_leaf (ms_ald (e := (.aload_n 0, 43, 0, 0, 0)) rfl (fun _ _ _ => rfl) : mo_Sim 78 42 (ma_lda 0 43)) (mt_leaf (ms_ild (e := (.iload 5, 45, 0, 0, 0)) rfl (fun _ _ _ => rfl) : mo_Sim 78 43 (ma_load 0 5 45)) (mt_none)))
set_option maxRecDepth 100000 in
theorem smt78_18 (k : Nat) : ∀ f, mt78_18 k = some f → mo_Sim 78 k f := mt_node (smt78_19 k) (smt78_20 k)
set_option maxRecDepth 100000 in
theorem smt78_22 (k : Nat) : ∀ f, mt78_22 k = some f → mo_Sim 78 k f := mt_leaf (ms_ald (e := (.aload_n 1, 46, 0, 0, 0)) rfl (fun _ _ _ => rfl) : mo_Sim 78 45 (ma_lda 1 46)) (mt_leaf (ms_ald (e := (.aload_n 0, 47, 0, 0, 0)) rfl (fun _ _ _ => rfl) : mo_Sim 78 46 (ma_lda 0 47)) (mt_none))
set_option maxRecDepth 100000 in
theorem smt78_23 (k : Nat) : ∀ f, mt78_23 k = some f → mo_Sim 78 k f := mt_leaf (ms_getf (e := (.getfield 13, 50, 9, 2, 251)) rfl (fun _ _ _ => rfl) : mo_Sim 78 47 (ma_getf 9 2 50)) (mt_leaf (ms_ild (e := (.iload 5, 52, 0, 0, 0)) rfl (fun _ _ _ => rfl) : mo_Sim 78 50 (ma_load 0 5 52)) (mt_leaf (ms_iald (e := (.iaload, 53, 0, 0, 0)) rfl (fun _ _ _ => rfl) : mo_Sim 78 52 (ma_iald 52 53)) (mt_none)))
set_option maxRecDepth 100000 in
theorem smt78_21 (k : Nat) : ∀ f, mt78_21 k = some f → mo_Sim 78 k f := mt_node (smt78_22 k) (smt78_23 k)
set_option maxRecDepth 100000 in
theorem smt78_17 (k : Nat) : ∀ f, mt78_17 k = some f → mo_Sim 78 k f := mt_node (smt78_18 k) (smt78_21 k)
set_option maxRecDepth 100000 in
theorem smt78_26 (k : Nat) : ∀ f, mt78_26 k = some f → mo_Sim 78 k f := mt_leaf (ms_aald (e := (.aaload, 54, 0, 0, 0)) rfl (fun _ _ _ => rfl) : mo_Sim 78 53 (ma_aald 53 54)) (mt_leaf (ms_ald (e := (.aload_n 2, 55, 0, 0, 0)) rfl (fun _ _ _ => rfl) : mo_Sim 78 54 (ma_lda 2 55)) (mt_none))
set_option maxRecDepth 100000 in
theorem smt78_27 (k : Nat) : ∀ f, mt78_27 k = some f → mo_Sim 78 k f := mt_leaf (ms_invV (p := 3) (e := (.invokevirtual 44, 58, 79, 0, 966)) rfl rfl (fun _ _ _ => rfl) rfl rfl rfl (by decide) : mo_Sim 78 55 (ma_inv 79 4 11 9 58)) (mt_leaf (ms_i2 (e := (.ior, 59, 0, 0, 0)) rfl (fun _ _ _ => rfl) hf_or : mo_Sim 78 58 (ma_i2 ma_for 58 59)) (mt_leaf (ms_ist (e := (.istore_n 3, 60, 0, 0, 0)) rfl (fun _ _ _ => rfl) : mo_Sim 78 59 (ma_stor 0 3 60)) (mt_none)))
set_option maxRecDepth 100000 in
theorem smt78_25 (k : Nat) : ∀ f, mt78_25 k = some f → mo_Sim 78 k f := mt_node (smt78_26 k) (smt78_27 k)
set_option maxRecDepth 100000 in
theorem smt78_29 (k : Nat) : ∀ f, mt78_29 k = some f → mo_Sim 78 k f := mt_leaf (ms_iinc (e := (.iinc 5 1, 63, 0, 0, 0)) rfl (fun _ _ _ => rfl) (by decide) : mo_Sim 78 60 (ma_iinc 5 (.ofNat 1) 60 63)) (mt_leaf (ms_goto (e := (.goto (-31), 66, 32, 0, 0)) rfl (fun _ _ _ => rfl) : mo_Sim 78 63 (ma_goto 32)) (mt_none))
set_option maxRecDepth 100000 in
theorem smt78_30 (k : Nat) : ∀ f, mt78_30 k = some f → mo_Sim 78 k f := mt_leaf (ms_iinc (e := (.iinc 4 1, 69, 0, 0, 0)) rfl (fun _ _ _ => rfl) (by decide) : mo_Sim 78 66 (ma_iinc 4 (.ofNat 1) 66 69)) (mt_leaf (ms_goto (e := (.goto (-53), 72, 16, 0, 0)) rfl (fun _ _ _ => rfl) : mo_Sim 78 69 (ma_goto 16)) (mt_leaf (ms_retv (e := (.return_, 73, 0, 0, 0)) rfl rfl (fun _ _ _ => rfl) : mo_Sim 78 72 (ma_retv)) (mt_none)))
set_option maxRecDepth 100000 in
theorem smt78_28 (k : Nat) : ∀ f, mt78_28 k = some f → mo_Sim 78 k f := mt_node (smt78_29 k) (smt78_30 k)
set_option maxRecDepth 100000 in
theorem smt78_24 (k : Nat) : ∀ f, mt78_24 k = some f → mo_Sim 78 k f := mt_node (smt78_25 k) (smt78_28 k)
set_option maxRecDepth 100000 in
theorem smt78_16 (k : Nat) : ∀ f, mt78_16 k = some f → mo_Sim 78 k f := mt_node (smt78_17 k) (smt78_24 k)
set_option maxRecDepth 100000 in
theorem smt78_0 (k : Nat) : ∀ f, mt78_0 k = some f → mo_Sim 78 k f := mt_node (smt78_1 k) (smt78_16 k)
set_option maxRecDepth 100000 in
theorem smt79_5 (k : Nat) : ∀ f, mt79_5 k = some f → mo_Sim 79 k f := mt_leaf (ms_pushi (e := (.iconst 0, 1, 0, 0, 0)) rfl (fun _ _ _ => rfl) (by decide) : mo_Sim 79 0 (ma_push (ma_ci (.ofNat 0)) 1)) (mt_leaf (ms_ist (e := (.istore 4, 3, 0, 0, 0)) rfl (fun _ _ _ => rfl) : mo_Sim 79 1 (ma_stor 0 4 3)) (mt_none))
set_option maxRecDepth 100000 in
theorem smt79_6 (k : Nat) : ∀ f, mt79_6 k = some f → mo_Sim 79 k f := mt_leaf (ms_pushi (e := (.iconst 0, 4, 0, 0, 0)) rfl (fun _ _ _ => rfl) (by decide) : mo_Sim 79 3 (ma_push (ma_ci (.ofNat 0)) 4)) (mt_leaf (ms_ist (e := (.istore 5, 6, 0, 0, 0)) rfl (fun _ _ _ => rfl) : mo_Sim 79 4 (ma_stor 0 5 6)) (mt_leaf (ms_pushi (e := (.iconst 0, 7, 0, 0, 0)) rfl (fun _ _ _ => rfl) (by decide) : mo_Sim 79 6 (ma_push (ma_ci (.ofNat 0)) 7)) (mt_none)))
set_option maxRecDepth 100000 in
theorem smt79_4 (k : Nat) : ∀ f, mt79_4 k = some f → mo_Sim 79 k f := mt_node (smt79_5 k) (smt79_6 k)
set_option maxRecDepth 100000 in
theorem smt79_8 (k : Nat) : ∀ f, mt79_8 k = some f → mo_Sim 79 k f := mt_leaf (ms_ist (e := (.istore 6, 9, 0, 0, 0)) rfl (fun _ _ _ => rfl) : mo_Sim 79 7 (ma_stor 0 6 9)) (mt_leaf (ms_pushi (e := (.iconst 0, 10, 0, 0, 0)) rfl (fun _ _ _ => rfl) (by decide) : mo_Sim 79 9 (ma_push (ma_ci (.ofNat 0)) 10)) (mt_leaf (ms_ist (e := (.istore 7, 12, 0, 0, 0)) rfl (fun _ _ _ => rfl) : mo_Sim 79 10 (ma_stor 0 7 12)) (mt_none)))
set_option maxRecDepth 100000 in
theorem smt79_9 (k : Nat) : ∀ f, mt79_9 k = some f → mo_Sim 79 k f := mt_leaf (ms_ild (e := (.iload 7, 14, 0, 0, 0)) rfl (fun _ _ _ => rfl) : mo_Sim 79 12 (ma_load 0 7 14)) (mt_leaf (ms_ald (e := (.aload_n 2, 15, 0, 0, 0)) rfl (fun _ _ _ => rfl) : mo_Sim 79 14 (ma_lda 2 15)) (mt_leaf (ms_getf (e := (.getfield 48, 18, 4, 3, 367)) rfl (fun _ _ _ => rfl) : mo_Sim 79 15 (ma_getf 4 3 18)) (mt_none)))
set_option maxRecDepth 100000 in
theorem smt79_7 (k : Nat) : ∀ f, mt79_7 k = some f → mo_Sim 79 k f := mt_node (smt79_8 k) (smt79_9 k)
set_option maxRecDepth 100000 in
theorem smt79_3 (k : Nat) : ∀ f, mt79_3 k = some f → mo_Sim 79 k f := mt_node (smt79_4 k) (smt79_7 k)
set_option maxRecDepth 100000 in
theorem smt79_12 (k : Nat) : ∀ f, mt79_12 k = some f → mo_Sim 79 k f := mt_leaf (ms_if2 (e := (.if_icmp .ge 92, 21, 110, 0, 0)) rfl (fun _ _ _ => rfl) : mo_Sim 79 18 (ma_if2 .ge 110 18 21)) (mt_leaf (ms_ald (e := (.aload_n 3, 22, 0, 0, 0)) rfl (fun _ _ _ => rfl) : mo_Sim 79 21 (ma_lda 3 22)) (mt_leaf (ms_getf (e := (.getfield 51, 25, 1, 2, 122)) rfl (fun _ _ _ => rfl) : mo_Sim 79 22 (ma_getf 1 2 25)) (mt_none)))
set_option maxRecDepth 100000 in
theorem smt79_13 (k : Nat) : ∀ f, mt79_13 k = some f → mo_Sim 79 k f := mt_leaf (ms_ald (e := (.aload_n 2, 26, 0, 0, 0)) rfl (fun _ _ _ => rfl) : mo_Sim 79 25 (ma_lda 2 26)) (mt_leaf (ms_getf (e := (.getfield 52, 29, 4, 4, 370)) rfl (fun _ _ _ => rfl) : mo_Sim 79 26 (ma_getf 4 4 29)) (mt_leaf (ms_ild (e := (.iload 7, 31, 0, 0, 0)) rfl (fun _ _ _ => rfl) : mo_Sim 79 29 (ma_load 0 7 31)) (mt_none)))
set_option maxRecDepth 100000 in
theorem smt79_11 (k : Nat) : ∀ f, mt79_11 k = some f → mo_Sim 79 k f := mt_node (smt79_12 k) (smt79_13 k)
set_option maxRecDepth 100000 in
theorem smt79_15 (k : Nat) : ∀ f, mt79_15 k = some f → mo_Sim 79 k f := mt_leaf (ms_iald (e := (.iaload, 32, 0, 0, 0)) rfl (fun _ _ _ => rfl) : mo_Sim 79 31 (ma_iald 31 32)) (mt_leaf (ms_iald (e := (.iaload, 33, 0, 0, 0)) rfl (fun _ _ _ => rfl) : mo_Sim 79 32 (ma_iald 32 33)) (mt_leaf (ms_ist (e := (.istore 8, 35, 0, 0, 0)) rfl (fun _ _ _ => rfl) : mo_Sim 79 33 (ma_stor 0 8 35)) (mt_none)))
set_option maxRecDepth 100000 in
theorem smt79_16 (k : Nat) : ∀ f, mt79_16 k = some f → mo_Sim 79 k f := mt_leaf (ms_ald (e := (.aload_n 3, 36, 0, 0, 0)) rfl (fun _ _ _ => rfl) : mo_Sim 79 35 (ma_lda 3 36)) (mt_leaf (ms_getf (e := (.getfield 55, 39, 1, 3, 129)) rfl (fun _ _ _ => rfl) : mo_Sim 79 36 (ma_getf 1 3 39)) (mt_leaf (ms_ald (e := (.aload_n 2, 40, 0, 0, 0)) rfl (fun _ _ _ => rfl) : mo_Sim 79 39 (ma_lda 2 40)) (mt_none)))
set_option maxRecDepth 100000 in
theorem smt79_14 (k : Nat) : ∀ f, mt79_14 k = some f → mo_Sim 79 k f := mt_node (smt79_15 k) (smt79_16 k)
set_option maxRecDepth 100000 in
theorem smt79_10 (k : Nat) : ∀ f, mt79_10 k = some f → mo_Sim 79 k f := mt_node (smt79_11 k) (smt79_14 k)
set_option maxRecDepth 100000 in
theorem smt79_2 (k : Nat) : ∀ f, mt79_2 k = some f → mo_Sim 79 k f := mt_node (smt79_3 k) (smt79_10 k)
set_option maxRecDepth 100000 in
theorem smt79_20 (k : Nat) : ∀ f, mt79_20 k = some f → mo_Sim 79 k f := mt_leaf (ms_getf (e := (.getfield 52, 43, 4, 4, 370)) rfl (fun _ _ _ => rfl) : mo_Sim 79 40 (ma_getf 4 4 43)) (mt_leaf (ms_ild (e := (.iload 7, 45, 0, 0, 0)) rfl (fun _ _ _ => rfl) : mo_Sim 79 43 (ma_load 0 7 45)) (mt_none))
set_option maxRecDepth 100000 in
theorem smt79_21 (k : Nat) : ∀ f, mt79_21 k = some f → mo_Sim 79 k f := mt_leaf (ms_iald (e := (.iaload, 46, 0, 0, 0)) rfl (fun _ _ _ => rfl) : mo_Sim 79 45 (ma_iald 45 46)) (mt_leaf (ms_iald (e := (.iaload, 47, 0, 0, 0)) rfl (fun _ _ _ => rfl) : mo_Sim 79 46 (ma_iald 46 47)) (mt_leaf (ms_ist (e := (.istore 9, 49, 0, 0, 0)) rfl (fun _ _ _ => rfl) : mo_Sim 79 47 (ma_stor 0 9 49)) (mt_none)))
set_option maxRecDepth 100000 in
theorem smt79_19 (k : Nat) : ∀ f, mt79_19 k = some f → mo_Sim 79 k f := mt_node (smt79_20 k) (smt79_21 k)
set_option maxRecDepth 100000 in
theorem smt79_23 (k : Nat) : ∀ f, mt79_23 k = some f → mo_Sim 79 k f := mt_leaf (ms_ald (e := (.aload_n 3, 50, 0, 0, 0)) rfl (fun _ _ _ => rfl) : mo_Sim 79 49 (ma_lda 3 50)) (mt_leaf (ms_getf (e := (.getfield 56, 53, 1, 4, 136)) rfl (fun _ _ _ => rfl) : mo_Sim 79 50 (ma_getf 1 4 53)) (mt_leaf (ms_ald (e := (.aload_n 2, 54, 0, 0, 0)) rfl (fun _ _ _ => rfl) : mo_Sim 79 53 (ma_lda 2 54)) (mt_none)))
set_option maxRecDepth 100000 in
theorem smt79_24 (k : Nat) : ∀ f, mt79_24 k = some f → mo_Sim 79 k f := mt_leaf (ms_getf (e := (.getfield 52, 57, 4, 4, 370)) rfl (fun _ _ _ => rfl) : mo_Sim 79 54 (ma_getf 4 4 57)) (mt_leaf (ms_ild (e := (.iload 7, 59, 0, 0, 0)) rfl (fun _ _ _ => rfl) : mo_Sim 79 57 (ma_load 0 7 59)) (mt_leaf (ms_iald (e := (.iaload, 60, 0, 0, 0)) rfl (fun _ _ _ => rfl) : mo_Sim 79 59 (ma_iald 59 60)) (mt_none)))
set_option maxRecDepth 100000 in
theorem smt79_22 (k : Nat) : ∀ f, mt79_22 k = some f → mo_Sim 79 k f := mt_node (smt79_23 k) (smt79_24 k)
set_option maxRecDepth 100000 in
theorem smt79_18 (k : Nat) : ∀ f, mt79_18 k = some f → mo_Sim 79 k f := mt_node (smt79_19 k) (smt79_22 k)
set_option maxRecDepth 100000 in
theorem smt79_27 (k : Nat) : ∀ f, mt79_27 k = some f → mo_Sim 79 k f := mt_leaf (ms_iald (e := (.iaload, 61, 0, 0, 0)) rfl (fun _ _ _ => rfl) : mo_Sim 79 60 (ma_iald 60 61)) (mt_leaf (ms_ist (e := (.istore 10, 63, 0, 0, 0)) rfl (fun _ _ _ => rfl) : mo_Sim 79 61 (ma_stor 0 10 63)) (mt_leaf (ms_ald (e := (.aload_n 0, 64, 0, 0, 0)) rfl (fun _ _ _ => rfl) : mo_Sim 79 63 (ma_lda 0 64)) (mt_none)))
set_option maxRecDepth 100000 in
theorem smt79_28 (k : Nat) : ∀ f, mt79_28 k = some f → mo_Sim 79 k f := mt_leaf (ms_ild (e := (.iload_n 1, 65, 0, 0, 0)) rfl (fun _ _ _ => rfl) : mo_Sim 79 64 (ma_load 0 1 65)) (mt_leaf (ms_ild (e := (.iload 8, 67, 0, 0, 0)) rfl (fun _ _ _ => rfl) : mo_Sim 79 65 (ma_load 0 8 67)) (mt_leaf (ms_ild (e := (.iload 9, 69, 0, 0, 0)) rfl (fun _ _ _ => rfl) : mo_Sim 79 67 (ma_load 0 9 69)) (mt_none)))
set_option maxRecDepth 100000 in
theorem smt79_26 (k : Nat) : ∀ f, mt79_26 k = some f → mo_Sim 79 k f := mt_node (smt79_27 k) (smt79_28 k)
set_option maxRecDepth 100000 in
theorem smt79_30 (k : Nat) : ∀ f, mt79_30 k = some f → mo_Sim 79 k f := mt_leaf (ms_ild (e := (.iload 10, 71, 0, 0, 0)) rfl (fun _ _ _ => rfl) : mo_Sim 79 69 (ma_load 0 10 71)) (mt_leaf (ms_invV (p := 4) (e := (.invokevirtual 57, 74, 80, 0, 970)) rfl rfl (fun _ _ _ => rfl) rfl rfl rfl (by decide) : mo_Sim 79 71 (ma_inv 80 5 5 9 74)) (mt_leaf (ms_if0 (e := (.ifCond .eq 30, 77, 104, 0, 0)) rfl (fun _ _ _ => rfl) : mo_Sim 79 74 (ma_if0 .eq 104 74 77)) (mt_none)))
set_option maxRecDepth 100000 in
theorem smt79_31 (k : Nat) : ∀ f, mt79_31 k = some f → mo_Sim 79 k f := mt_leaf (ms_ild (e := (.iload 4, 79, 0, 0, 0)) rfl (fun _ _ _ => rfl) : mo_Sim 79 77 (ma_load 0 4 79)) (mt_leaf (ms_pushi (e := (.iconst 1, 80, 0, 0, 0)) rfl (fun _ _ _ => rfl) (by decide) : mo_Sim 79 79 (ma_push (ma_ci (.ofNat 1)) 80)) (mt_leaf (ms_ild (e := (.iload 8, 82, 0, 0, 0)) rfl (fun _ _ _ => rfl) : mo_Sim 79 80 (ma_load 0 8 82)) (mt_none)))
set_option maxRecDepth 100000 in
theorem smt79_29 (k : Nat) : ∀ f, mt79_29 k = some f → mo_Sim 79 k f := mt_node (smt79_30 k) (smt79_31 k)
set_option maxRecDepth 100000 in
theorem smt79_25 (k : Nat) : ∀ f, mt79_25 k = some f → mo_Sim 79 k f := mt_node (smt79_26 k) (smt79_29 k)
set_option maxRecDepth 100000 in
theorem smt79_17 (k : Nat) : ∀ f, mt79_17 k = some f → mo_Sim 79 k f := mt_node (smt79_18 k) (smt79_25 k)
set_option maxRecDepth 100000 in
theorem smt79_1 (k : Nat) : ∀ f, mt79_1 k = some f → mo_Sim 79 k f := mt_node (smt79_2 k) (smt79_17 k)
set_option maxRecDepth 100000 in
theorem smt79_36 (k : Nat) : ∀ f, mt79_36 k = some f → mo_Sim 79 k f := mt_leaf (ms_i2 (e := (.ishl, 83, 0, 0, 0)) rfl (fun _ _ _ => rfl) hf_shl : mo_Sim 79 82 (ma_i2 ma_fshl 82 83)) (mt_leaf (ms_i2 (e := (.ior, 84, 0, 0, 0)) rfl (fun _ _ _ => rfl) hf_or : mo_Sim 79 83 (ma_i2 ma_for 83 84)) (mt_none))
set_option maxRecDepth 100000 in
theorem smt79_37 (k : Nat) : ∀ f, mt79_37 k = some f → mo_Sim 79 k f := mt_leaf (ms_ist (e := (.istore 4, 86, 0, 0, 0)) rfl (fun _ _ _ => rfl) : mo_Sim 79 84 (ma_stor 0 4 86)) (mt_leaf (ms_ild (e := (.iload 5, 88, 0, 0, 0)) rfl (fun _ _ _ => rfl) : mo_Sim 79 86 (ma_load 0 5 88)) (mt_leaf (ms_pushi (e := (.iconst 1, 89, 0, 0, 0)) rfl (fun _ _ _ => rfl) (by decide) : mo_Sim 79 88 (ma_push (ma_ci (.ofNat 1)) 89)) (mt_none)))
set_option maxRecDepth 100000 in
theorem smt79_35 (k : Nat) : ∀ f, mt79_35 k = some f → mo_Sim 79 k f := mt_node (smt79_36 k) (smt79_37 k)
set_option maxRecDepth 100000 in
theorem smt79_39 (k : Nat) : ∀ f, mt79_39 k = some f → mo_Sim 79 k f := mt_leaf (ms_ild (e := (.iload 9, 91, 0, 0, 0)) rfl (fun _ _ _ => rfl) : mo_Sim 79 89 (ma_load 0 9 91)) (mt_leaf (ms_i2 (e := (.ishl, 92, 0, 0, 0)) rfl (fun _ _ _ => rfl) hf_shl : mo_Sim 79 91 (ma_i2 ma_fshl 91 92)) (mt_leaf (ms_i2 (e := (.ior, 93, 0, 0, 0)) rfl (fun _ _ _ => rfl) hf_or : mo_Sim 79 92 (ma_i2 ma_for 92 93)) (mt_none)))
set_option maxRecDepth 100000 in
theorem smt79_40 (k : Nat) : ∀ f, mt79_40 k = some f → mo_Sim 79 k f := mt_leaf (ms_ist (e := (.istore 5, 95, 0, 0, 0)) rfl (fun _ _ _ => rfl) : mo_Sim 79 93 (ma_stor 0 5 95)) (mt_leaf (ms_ild (e := (.iload 6, 97, 0, 0, 0)) rfl (fun _ _ _ => rfl) : mo_Sim 79 95 (ma_load 0 6 97)) (mt_leaf (ms_pushi (e := (.iconst 1, 98, 0, 0, 0)) rfl (fun _ _ _ => rfl) (by decide) : mo_Sim 79 97 (ma_push (ma_ci (.ofNat 1)) 98)) (mt_none)))
set_option maxRecDepth 100000 in
theorem smt79_38 (k : Nat) : ∀ f, mt79_38 k = some f → mo_Sim 79 k f := mt_node (smt79_39 k) (smt79_40 k)
set_option maxRecDepth 100000 in
theorem smt79_34 (k : Nat) : ∀ f, mt79_34 k = some f → mo_Sim 79 k f := mt_node (smt79_35 k) (smt79_38 k)
set_option maxRecDepth 100000 in
theorem smt79_43 (k : Nat) : ∀ f, mt79_43 k = some f → mo_Sim 79 k f := mt_leaf (ms_ild (e := (.iload 10, 100, 0, 0, 0)) rfl (fun _ _ _ => rfl) : mo_Sim 79 98 (ma_load 0 10 100)) (mt_leaf (ms_i2 (e := (.ishl, 101, 0, 0, 0)) rfl (fun _ _ _ => rfl) hf_shl : mo_Sim 79 100 (ma_i2 ma_fshl 100 101)) (mt_leaf (ms_i2 (e := (.ior, 102, 0, 0, 0)) rfl (fun _ _ _ => rfl) hf_or : mo_Sim 79 101 (ma_i2 ma_for 101 102)) (mt_none)))
set_option maxRecDepth 100000 in
theorem smt79_44 (k : Nat) : ∀ f, mt79_44 k = some f → mo_Sim 79 k f := mt_leaf (ms_ist (e := (.istore 6, 104, 0, 0, 0)) rfl (fun _ _ _ => rfl) : mo_Sim 79 102 (ma_stor 0 6 104)) (mt_leaf (ms_iinc (e := (.iinc 7 1, 107, 0, 0, 0)) rfl (fun _ _ _ => rfl) (by decide) : mo_Sim 79 104 (ma_iinc 7 (.ofNat 1) 104 107)) (mt_leaf (ms_goto (e := (.goto (-95), 110, 12, 0, 0)) rfl (fun _ _ _ => rfl) : mo_Sim 79 107 (ma_goto 12)) (mt_none)))
set_option maxRecDepth 100000 in
theorem smt79_42 (k : Nat) : ∀ f, mt79_42 k = some f → mo_Sim 79 k f := mt_node (smt79_43 k) (smt79_44 k)
set_option maxRecDepth 100000 in
theorem smt79_46 (k : Nat) : ∀ f, mt79_46 k = some f → mo_Sim 79 k f := mt_leaf (ms_ald (e := (.aload_n 0, 111, 0, 0, 0)) rfl (fun _ _ _ => rfl) : mo_Sim 79 110 (ma_lda 0 111)) (mt_leaf (ms_ald (e := (.aload_n 0, 112, 0, 0, 0)) rfl (fun _ _ _ => rfl) : mo_Sim 79 111 (ma_lda 0 112)) (mt_leaf (ms_getf (e := (.getfield 17, 115, 9, 3, 253)) rfl (fun _ _ _ => rfl) : mo_Sim 79 112 (ma_getf 9 3 115)) (mt_none)))
set_option maxRecDepth 100000 in
theorem smt79_47 (k : Nat) : ∀ f, mt79_47 k = some f → mo_Sim 79 k f := mt_leaf (ms_ild (e := (.iload_n 1, 116, 0, 0, 0)) rfl (fun _ _ _ => rfl) : mo_Sim 79 115 (ma_load 0 1 116)) (mt_leaf (ms_iald (e := (.iaload, 117, 0, 0, 0)) rfl (fun _ _ _ => rfl) : mo_Sim 79 116 (ma_iald 116 117)) (mt_leaf (ms_ild (e := (.iload 4, 119, 0, 0, 0)) rfl (fun _ _ _ => rfl) : mo_Sim 79 117 (ma_load 0 4 119)) (mt_none)))
set_option maxRecDepth 100000 in
theorem smt79_45 (k : Nat) : ∀ f, mt79_45 k = some f → mo_Sim 79 k f := mt_node (smt79_46 k) (smt79_47 k)
set_option maxRecDepth 100000 in
theorem smt79_41 (k : Nat) : ∀ f, mt79_41 k = some f → mo_Sim 79 k f := mt_node (smt79_42 k) (smt79_45 k)
set_option maxRecDepth 100000 in
theorem smt79_33 (k : Nat) : ∀ f, mt79_33 k = some f → mo_Sim 79 k f := mt_node (smt79_34 k) (smt79_41 k)
set_option maxRecDepth 100000 in
theorem smt79_51 (k : Nat) : ∀ f, mt79_51 k = some f → mo_Sim 79 k f := mt_leaf (ms_invV (p := 2) (e := (.invokevirtual 61, 122, 82, 0, 978)) rfl rfl (fun _ _ _ => rfl) rfl rfl rfl (by decide) : mo_Sim 79 119 (ma_inv 82 3 4 9 122)) (mt_leaf (ms_ist (e := (.istore 7, 124, 0, 0, 0)) rfl (fun _ _ _ => rfl) : mo_Sim 79 122 (ma_stor 0 7 124)) (mt_leaf (ms_ild (e := (.iload 7, 126, 0, 0, 0)) rfl (fun _ _ _ => rfl) : mo_Sim 79 124 (ma_load 0 7 126)) (mt_none)))
set_option maxRecDepth 100000 in
theorem smt79_52 (k : Nat) : ∀ f, mt79_52 k = some f → mo_Sim 79 k f := mt_leaf (ms_ald (e := (.aload_n 0, 127, 0, 0, 0)) rfl (fun _ _ _ => rfl) : mo_Sim 79 126 (ma_lda 0 127)) (mt_leaf (ms_ald (e := (.aload_n 0, 128, 0, 0, 0)) rfl (fun _ _ _ => rfl) : mo_Sim 79 127 (ma_lda 0 128)) (mt_leaf (ms_getf (e := (.getfield 20, 131, 9, 4, 255)) rfl (fun _ _ _ => rfl) : mo_Sim 79 128 (ma_getf 9 4 131)) (mt_none)))
set_option maxRecDepth 100000 in
theorem smt79_50 (k : Nat) : ∀ f, mt79_50 k = some f → mo_Sim 79 k f := mt_node (smt79_51 k) (smt79_52 k)
set_option maxRecDepth 100000 in
theorem smt79_54 (k : Nat) : ∀ f, mt79_54 k = some f → mo_Sim 79 k f := mt_leaf (ms_ild (e := (.iload_n 1, 132, 0, 0, 0)) rfl (fun _ _ _ => rfl) : mo_Sim 79 131 (ma_load 0 1 132)) (mt_leaf (ms_iald (e := (.iaload, 133, 0, 0, 0)) rfl (fun _ _ _ => rfl) : mo_Sim 79 132 (ma_iald 132 133)) (mt_leaf (ms_ild (e := (.iload 5, 135, 0, 0, 0)) rfl (fun _ _ _ => rfl) : mo_Sim 79 133 (ma_load 0 5 135)) (mt_none)))
set_option maxRecDepth 100000 in
theorem smt79_55 (k : Nat) : ∀ f, mt79_55 k = some f → mo_Sim 79 k f := mt_leaf (ms_invV (p := 2) (e := (.invokevirtual 61, 138, 82, 0, 978)) rfl rfl (fun _ _ _ => rfl) rfl rfl rfl (by decide) : mo_Sim 79 135 (ma_inv 82 3 4 9 138)) (mt_leaf (ms_i2 (e := (.ior, 139, 0, 0, 0)) rfl (fun _ _ _ => rfl) hf_or : mo_Sim 79 138 (ma_i2 ma_for 138 139)) (mt_leaf (ms_ist (e := (.istore 7, 141, 0, 0, 0)) rfl (fun _ _ _ => rfl) : mo_Sim 79 139 (ma_stor 0 7 141)) (mt_none)))
set_option maxRecDepth 100000 in
theorem smt79_53 (k : Nat) : ∀ f, mt79_53 k = some f → mo_Sim 79 k f := mt_node (smt79_54 k) (smt79_55 k)
set_option maxRecDepth 100000 in
theorem smt79_49 (k : Nat) : ∀ f, mt79_49 k = some f → mo_Sim 79 k f := mt_node (smt79_50 k) (smt79_53 k)
set_option maxRecDepth 100000 in
theorem smt79_58 (k : Nat) : ∀ f, mt79_58 k = some f → mo_Sim 79 k f := mt_leaf (ms_ild (e := (.iload 7, 143, 0, 0, 0)) rfl (fun _ _ _ => rfl) : mo_Sim 79 141 (ma_load 0 7 143)) (mt_leaf (ms_ald (e := (.aload_n 0, 144, 0, 0, 0)) rfl (fun _ _ _ => rfl) : mo_Sim 79 143 (ma_lda 0 144)) (mt_leaf (ms_ald (e := (.aload_n 0, 145, 0, 0, 0)) rfl (fun _ _ _ => rfl) : mo_Sim 79 144 (ma_lda 0 145)) (mt_none)))
set_option maxRecDepth 100000 in
theorem smt79_59 (k : Nat) : ∀ f, mt79_59 k = some f → mo_Sim 79 k f := mt_leaf (ms_getf (e := (.getfield 23, 148, 9, 5, 257)) rfl (fun _ _ _ => rfl) : mo_Sim 79 145 (ma_getf 9 5 148)) (mt_leaf (ms_ild (e := (.iload_n 1, 149, 0, 0, 0)) rfl (fun _ _ _ => rfl) : mo_Sim 79 148 (ma_load 0 1 149)) (mt_leaf (ms_iald (e := (.iaload, 150, 0, 0, 0)) rfl (fun _ _ _ => rfl) : mo_Sim 79 149 (ma_iald 149 150)) (mt_none)))
set_option maxRecDepth 100000 in
theorem smt79_57 (k : Nat) : ∀ f, mt79_57 k = some f → mo_Sim 79 k f := mt_node (smt79_58 k) (smt79_59 k)
set_option maxRecDepth 100000 in
theorem smt79_61 (k : Nat) : ∀ f, mt79_61 k = some f → mo_Sim 79 k f := mt_leaf (ms_ild (e := (.iload 6, 152, 0, 0, 0)) rfl (fun _ _ _ => rfl) : mo_Sim 79 150 (ma_load 0 6 152)) (mt_leaf (ms_invV (p := 2) (e := (.invokevirtual 61, 155, 82, 0, 978)) rfl rfl (fun _ _ _ => rfl) rfl rfl rfl (by decide) : mo_Sim 79 152 (ma_inv 82 3 4 9 155)) (mt_leaf (ms_i2 (e := (.ior, 156, 0, 0, 0)) rfl (fun _ _ _ => rfl) hf_or : mo_Sim 79 155 (ma_i2 ma_for 155 156)) (mt_none)))
set_option maxRecDepth 100000 in
theorem smt79_62 (k : Nat) : ∀ f, mt79_62 k = some f → mo_Sim 79 k f := mt_leaf (ms_ist (e := (.istore 7, 158, 0, 0, 0)) rfl (fun _ _ _ => rfl) : mo_Sim 79 156 (ma_stor 0 7 158)) (mt_leaf (ms_ild (e := (.iload 7, 160, 0, 0, 0)) rfl (fun _ _ _ => rfl) : mo_Sim 79 158 (ma_load 0 7 160)) (mt_leaf (ms_ret (e := (.ireturn, 161, 0, 0, 0)) rfl (Or.inr (Or.inl ⟨rfl, rfl, (fun _ _ _ => rfl)⟩)) : mo_Sim 79 160 (ma_ret 1)) (mt_none)))
set_option maxRecDepth 100000 in
theorem smt79_60 (k : Nat) : ∀ f, mt79_60 k = some f → mo_Sim 79 k f := mt_node (smt79_61 k) (smt79_62 k)
set_option maxRecDepth 100000 in
theorem smt79_56 (k : Nat) : ∀ f, mt79_56 k = some f → mo_Sim 79 k f := mt_node (smt79_57 k) (smt79_60 k)
set_option maxRecDepth 100000 in
theorem smt79_48 (k : Nat) : ∀ f, mt79_48 k = some f → mo_Sim 79 k f := mt_node (smt79_49 k) (smt79_56 k)
set_option maxRecDepth 100000 in
theorem smt79_32 (k : Nat) : ∀ f, mt79_32 k = some f → mo_Sim 79 k f := mt_node (smt79_33 k) (smt79_48 k)
set_option maxRecDepth 100000 in
theorem smt79_0 (k : Nat) : ∀ f, mt79_0 k = some f → mo_Sim 79 k f := mt_node (smt79_1 k) (smt79_32 k)
set_option maxRecDepth 100000 in
theorem smt80_4 (k : Nat) : ∀ f, mt80_4 k = some f → mo_Sim 80 k f := mt_leaf (ms_ald (e := (.aload_n 0, 1, 0, 0, 0)) rfl (fun _ _ _ => rfl) : mo_Sim 80 0 (ma_lda 0 1)) (mt_leaf (ms_ald (e := (.aload_n 0, 2, 0, 0, 0)) rfl (fun _ _ _ => rfl) : mo_Sim 80 1 (ma_lda 0 2)) (mt_leaf (ms_getf (e := (.getfield 17, 5, 9, 3, 253)) rfl (fun _ _ _ => rfl) : mo_Sim 80 2 (ma_getf 9 3 5)) (mt_leaf (ms_ild (e := (.iload_n 1, 6, 0, 0, 0)) rfl (fun _ _ _ => rfl) : mo_Sim 80 5 (ma_load 0 1 6)) (mt_none))))
set_option maxRecDepth 100000 in
theorem smt80_5 (k : Nat) : ∀ f, mt80_5 k = some f → mo_Sim 80 k f := mt_leaf (ms_iald (e := (.iaload, 7, 0, 0, 0)) rfl (fun _ _ _ => rfl) : mo_Sim 80 6 (ma_iald 6 7)) (mt_leaf (ms_ild (e := (.iload_n 2, 8, 0, 0, 0)) rfl (fun _ _ _ => rfl) : mo_Sim 80 7 (ma_load 0 2 8)) (mt_leaf (ms_invV (p := 2) (e := (.invokevirtual 65, 11, 81, 0, 974)) rfl rfl (fun _ _ _ => rfl) rfl rfl rfl (by decide) : mo_Sim 80 8 (ma_inv 81 3 3 9 11)) (mt_leaf (ms_if0 (e := (.ifCond .eq 32, 14, 43, 0, 0)) rfl (fun _ _ _ => rfl) : mo_Sim 80 11 (ma_if0 .eq 43 11 14)) (mt_none))))
set_option maxRecDepth 100000 in
theorem smt80_3 (k : Nat) : ∀ f, mt80_3 k = some f → mo_Sim 80 k f := mt_node (smt80_4 k) (smt80_5 k)
set_option maxRecDepth 100000 in
theorem smt80_7 (k : Nat) : ∀ f, mt80_7 k = some f → mo_Sim 80 k f := mt_leaf (ms_ald (e := (.aload_n 0, 15, 0, 0, 0)) rfl (fun _ _ _ => rfl) : mo_Sim 80 14 (ma_lda 0 15)) (mt_leaf (ms_ald (e := (.aload_n 0, 16, 0, 0, 0)) rfl (fun _ _ _ => rfl) : mo_Sim 80 15 (ma_lda 0 16)) (mt_leaf (ms_getf (e := (.getfield 20, 19, 9, 4, 255)) rfl (fun _ _ _ => rfl) : mo_Sim 80 16 (ma_getf 9 4 19)) (mt_leaf (ms_ild (e := (.iload_n 1, 20, 0, 0, 0)) rfl (fun _ _ _ => rfl) : mo_Sim 80 19 (ma_load 0 1 20)) (mt_none))))
set_option maxRecDepth 100000 in
theorem smt80_8 (k : Nat) : ∀ f, mt80_8 k = some f → mo_Sim 80 k f := mt_leaf (ms_iald (e := (.iaload, 21, 0, 0, 0)) rfl (fun _ _ _ => rfl) : mo_Sim 80 20 (ma_iald 20 21)) (mt_leaf (ms_ild (e := (.iload_n 3, 22, 0, 0, 0)) rfl (fun _ _ _ => rfl) : mo_Sim 80 21 (ma_load 0 3 22)) (mt_leaf (ms_invV (p := 2) (e := (.invokevirtual 65, 25, 81, 0, 974)) rfl rfl (fun _ _ _ => rfl) rfl rfl rfl (by decide) : mo_Sim 80 22 (ma_inv 81 3 3 9 25)) (mt_leaf (ms_if0 (e := (.ifCond .eq 18, 28, 43, 0, 0)) rfl (fun _ _ _ => rfl) : mo_Sim 80 25 (ma_if0 .eq 43 25 28)) (mt_none))))
set_option maxRecDepth 100000 in
theorem smt80_6 (k : Nat) : ∀ f, mt80_6 k = some f → mo_Sim 80 k f := mt_node (smt80_7 k) (smt80_8 k)
set_option maxRecDepth 100000 in
theorem smt80_2 (k : Nat) : ∀ f, mt80_2 k = some f → mo_Sim 80 k f := mt_node (smt80_3 k) (smt80_6 k)
set_option maxRecDepth 100000 in
theorem smt80_11 (k : Nat) : ∀ f, mt80_11 k = some f → mo_Sim 80 k f := mt_leaf (ms_ald (e := (.aload_n 0, 29, 0, 0, 0)) rfl (fun _ _ _ => rfl) : mo_Sim 80 28 (ma_lda 0 29)) (mt_leaf (ms_ald (e := (.aload_n 0, 30, 0, 0, 0)) rfl (fun _ _ _ => rfl) : mo_Sim 80 29 (ma_lda 0 30)) (mt_leaf (ms_getf (e := (.getfield 23, 33, 9, 5, 257)) rfl (fun _ _ _ => rfl) : mo_Sim 80 30 (ma_getf 9 5 33)) (mt_leaf (ms_ild (e := (.iload_n 1, 34, 0, 0, 0)) rfl (fun _ _ _ => rfl) : mo_Sim 80 33 (ma_load 0 1 34)) (mt_none))))
set_option maxRecDepth 100000 in
theorem smt80_12 (k : Nat) : ∀ f, mt80_12 k = some f → mo_Sim 80 k f := mt_leaf (ms_iald (e := (.iaload, 35, 0, 0, 0)) rfl (fun _ _ _ => rfl) : mo_Sim 80 34 (ma_iald 34 35)) (mt_leaf (ms_ild (e := (.iload 4, 37, 0, 0, 0)) rfl (fun _ _ _ => rfl) : mo_Sim 80 35 (ma_load 0 4 37)) (mt_leaf (ms_invV (p := 2) (e := (.invokevirtual 65, 40, 81, 0, 974)) rfl rfl (fun _ _ _ => rfl) rfl rfl rfl (by decide) : mo_Sim 80 37 (ma_inv 81 3 3 9 40)) (mt_leaf (ms_if0 (e := (.ifCond .ne 5, 43, 45, 0, 0)) rfl (fun _ _ _ => rfl) : mo_Sim 80 40 (ma_if0 .ne 45 40 43)) (mt_none))))
set_option maxRecDepth 100000 in
theorem smt80_10 (k : Nat) : ∀ f, mt80_10 k = some f → mo_Sim 80 k f := mt_node (smt80_11 k) (smt80_12 k)
set_option maxRecDepth 100000 in
theorem smt80_14 (k : Nat) : ∀ f, mt80_14 k = some f → mo_Sim 80 k f := mt_leaf (ms_pushi (e := (.iconst 0, 44, 0, 0, 0)) rfl (fun _ _ _ => rfl) (by decide) : mo_Sim 80 43 (ma_push (ma_ci (.ofNat 0)) 44)) (mt_leaf (ms_ret (e := (.ireturn, 45, 0, 0, 0)) rfl (Or.inr (Or.inl ⟨rfl, rfl, (fun _ _ _ => rfl)⟩)) : mo_Sim 80 44 (ma_ret 1)) (mt_leaf (ms_ald (e := (.aload_n 0, 46, 0, 0, 0)) rfl (fun _ _ _ => rfl) : mo_Sim 80 45 (ma_lda 0 46)) (mt_leaf (ms_getf (e := (.getfield 17, 49, 9, 3, 253)) rfl (fun _ _ _ => rfl) : mo_Sim 80 46 (ma_getf 9 3 49)) (mt_none))))
set_option maxRecDepth 100000 in
theorem smt80_16 (k : Nat) : ∀ f, mt80_16 k = some f → mo_Sim 80 k f := mt_leaf (ms_ild (e := (.iload_n 1, 50, 0, 0, 0)) rfl (fun _ _ _ => rfl) : mo_Sim 80 49 (ma_load 0 1 50)) (mt_leaf (ms_iald (e := (.iaload, 51, 0, 0, 0)) rfl (fun _ _ _ => rfl) : mo_Sim 80 50 (ma_iald 50 51)) (mt_none))
set_option maxRecDepth 100000 in
theorem smt80_17 (k : Nat) : ∀ f, mt80_17 k = some f → mo_Sim 80 k f := mt_leaf (ms_ald (e := (.aload_n 0, 52, 0, 0, 0)) rfl (fun _ _ _ => rfl) : mo_Sim 80 51 (ma_lda 0 52)) (mt_leaf (ms_getf (e := (.getfield 20, 55, 9, 4, 255)) rfl (fun _ _ _ => rfl) : mo_Sim 80 52 (ma_getf 9 4 55)) (mt_leaf (ms_ild (e := (.iload_n 1, 56, 0, 0, 0)) rfl (fun _ _ _ => rfl) : mo_Sim 80 55 (ma_load 0 1 56)) (mt_none)))
set_option maxRecDepth 100000 in
theorem smt80_15 (k : Nat) : ∀ f, mt80_15 k = some f → mo_Sim 80 k f := mt_node (smt80_16 k) (smt80_17 k)
set_option maxRecDepth 100000 in
theorem smt80_13 (k : Nat) : ∀ f, mt80_13 k = some f → mo_Sim 80 k f := mt_node (smt80_14 k) (smt80_15 k)
set_option maxRecDepth 100000 in
theorem smt80_9 (k : Nat) : ∀ f, mt80_9 k = some f → mo_Sim 80 k f := mt_node (smt80_10 k) (smt80_13 k)
set_option maxRecDepth 100000 in
theorem smt80_1 (k : Nat) : ∀ f, mt80_1 k = some f → mo_Sim 80 k f := mt_node (smt80_2 k) (smt80_9 k)
set_option maxRecDepth 100000 in
theorem smt80_21 (k : Nat) : ∀ f, mt80_21 k = some f → mo_Sim 80 k f := mt_leaf (ms_iald (e := (.iaload, 57, 0, 0, 0)) rfl (fun _ _ _ => rfl) : mo_Sim 80 56 (ma_iald 56 57)) (mt_leaf (ms_if2 (e := (.if_icmp .ne 8, 60, 65, 0, 0)) rfl (fun _ _ _ => rfl) : mo_Sim 80 57 (ma_if2 .ne 65 57 60)) (mt_leaf (ms_ild (e := (.iload_n 2, 61, 0, 0, 0)) rfl (fun _ _ _ => rfl) : mo_Sim 80 60 (ma_load 0 2 61)) (mt_leaf (ms_ild (e := (.iload_n 3, 62, 0, 0, 0)) rfl (fun _ _ _ => rfl) : mo_Sim 80 61 (ma_load 0 3 62)) (mt_none))))
set_option maxRecDepth 100000 in
theorem smt80_22 (k : Nat) : ∀ f, mt80_22 k = some f → mo_Sim 80 k f := mt_leaf (ms_if2 (e := (.if_icmp .ne 49, 65, 111, 0, 0)) rfl (fun _ _ _ => rfl) : mo_Sim 80 62 (ma_if2 .ne 111 62 65)) (mt_leaf (ms_ald (e := (.aload_n 0, 66, 0, 0, 0)) rfl (fun _ _ _ => rfl) : mo_Sim 80 65 (ma_lda 0 66)) (mt_leaf (ms_getf (e := (.getfield 20, 69, 9, 4, 255)) rfl (fun _ _ _ => rfl) : mo_Sim 80 66 (ma_getf 9 4 69)) (mt_leaf (ms_ild (e := (.iload_n 1, 70, 0, 0, 0)) rfl (fun _ _ _ => rfl) : mo_Sim 80 69 (ma_load 0 1 70)) (mt_none))))
set_option maxRecDepth 100000 in
theorem smt80_20 (k : Nat) : ∀ f, mt80_20 k = some f → mo_Sim 80 k f := mt_node (smt80_21 k) (smt80_22 k)
set_option maxRecDepth 100000 in
theorem smt80_24 (k : Nat) : ∀ f, mt80_24 k = some f → mo_Sim 80 k f := mt_leaf (ms_iald (e := (.iaload, 71, 0, 0, 0)) rfl (fun _ _ _ => rfl) : mo_Sim 80 70 (ma_iald 70 71)) (mt_leaf (ms_ald (e := (.aload_n 0, 72, 0, 0, 0)) rfl (fun _ _ _ => rfl) : mo_Sim 80 71 (ma_lda 0 72)) (mt_leaf (ms_getf (e := (.getfield 23, 75, 9, 5, 257)) rfl (fun _ _ _ => rfl) : mo_Sim 80 72 (ma_getf 9 5 75)) (mt_leaf (ms_ild (e := (.iload_n 1, 76, 0, 0, 0)) rfl (fun _ _ _ => rfl) : mo_Sim 80 75 (ma_load 0 1 76)) (mt_none))))
set_option maxRecDepth 100000 in
theorem smt80_25 (k : Nat) : ∀ f, mt80_25 k = some f → mo_Sim 80 k f := mt_leaf (ms_iald (e := (.iaload, 77, 0, 0, 0)) rfl (fun _ _ _ => rfl) : mo_Sim 80 76 (ma_iald 76 77)) (mt_leaf (ms_if2 (e := (.if_icmp .ne 9, 80, 86, 0, 0)) rfl (fun _ _ _ => rfl) : mo_Sim 80 77 (ma_if2 .ne 86 77 80)) (mt_leaf (ms_ild (e := (.iload_n 3, 81, 0, 0, 0)) rfl (fun _ _ _ => rfl) : mo_Sim 80 80 (ma_load 0 3 81)) (mt_leaf (ms_ild (e := (.iload 4, 83, 0, 0, 0)) rfl (fun _ _ _ => rfl) : mo_Sim 80 81 (ma_load 0 4 83)) (mt_none))))
set_option maxRecDepth 100000 in
theorem smt80_23 (k : Nat) : ∀ f, mt80_23 k = some f → mo_Sim 80 k f := mt_node (smt80_24 k) (smt80_25 k)
set_option maxRecDepth 100000 in
theorem smt80_19 (k : Nat) : ∀ f, mt80_19 k = some f → mo_Sim 80 k f := mt_node (smt80_20 k) (smt80_23 k)
set_option maxRecDepth 100000 in
theorem smt80_28 (k : Nat) : ∀ f, mt80_28 k = some f → mo_Sim 80 k f := mt_leaf (ms_if2 (e := (.if_icmp .ne 28, 86, 111, 0, 0)) rfl (fun _ _ _ => rfl) : mo_Sim 80 83 (ma_if2 .ne 111 83 86)) (mt_leaf (ms_ald (e := (.aload_n 0, 87, 0, 0, 0)) rfl (fun _ _ _ => rfl) : mo_Sim 80 86 (ma_lda 0 87)) (mt_leaf (ms_getf (e := (.getfield 17, 90, 9, 3, 253)) rfl (fun _ _ _ => rfl) : mo_Sim 80 87 (ma_getf 9 3 90)) (mt_leaf (ms_ild (e := (.iload_n 1, 91, 0, 0, 0)) rfl (fun _ _ _ => rfl) : mo_Sim 80 90 (ma_load 0 1 91)) (mt_none))))
set_option maxRecDepth 100000 in
theorem smt80_29 (k : Nat) : ∀ f, mt80_29 k = some f → mo_Sim 80 k f := mt_leaf (ms_iald (e := (.iaload, 92, 0, 0, 0)) rfl (fun _ _ _ => rfl) : mo_Sim 80 91 (ma_iald 91 92)) (mt_leaf (ms_ald (e := (.aload_n 0, 93, 0, 0, 0)) rfl (fun _ _ _ => rfl) : mo_Sim 80 92 (ma_lda 0 93)) (mt_leaf (ms_getf (e := (.getfield 23, 96, 9, 5, 257)) rfl (fun _ _ _ => rfl) : mo_Sim 80 93 (ma_getf 9 5 96)) (mt_leaf (ms_ild (e := (.iload_n 1, 97, 0, 0, 0)) rfl (fun _ _ _ => rfl) : mo_Sim 80 96 (ma_load 0 1 97)) (mt_none))))
set_option maxRecDepth 100000 in
theorem smt80_27 (k : Nat) : ∀ f, mt80_27 k = some f → mo_Sim 80 k f := mt_node (smt80_28 k) (smt80_29 k)
set_option maxRecDepth 100000 in
theorem smt80_31 (k : Nat) : ∀ f, mt80_31 k = some f → mo_Sim 80 k f := mt_leaf (ms_iald (e := (.iaload, 98, 0, 0, 0)) rfl (fun _ _ _ => rfl) : mo_Sim 80 97 (ma_iald 97 98)) (mt_leaf (ms_if2 (e := (.if_icmp .ne 9, 101, 107, 0, 0)) rfl (fun _ _ _ => rfl) : mo_Sim 80 98 (ma_if2 .ne 107 98 101)) (mt_leaf (ms_ild (e := (.iload_n 2, 102, 0, 0, 0)) rfl (fun _ _ _ => rfl) : mo_Sim 80 101 (ma_load 0 2 102)) (mt_leaf (ms_ild (e := (.iload 4, 104, 0, 0, 0)) rfl (fun _ _ _ => rfl) : mo_Sim 80 102 (ma_load 0 4 104)) (mt_none))))
set_option maxRecDepth 100000 in
theorem smt80_33 (k : Nat) : ∀ f, mt80_33 k = some f → mo_Sim 80 k f := mt_leaf (ms_if2 (e := (.if_icmp .ne 7, 107, 111, 0, 0)) rfl (fun _ _ _ => rfl) : mo_Sim 80 104 (ma_if2 .ne 111 104 107)) (mt_leaf (ms_pushi (e := (.iconst 1, 108, 0, 0, 0)) rfl (fun _ _ _ => rfl) (by decide) : mo_Sim 80 107 (ma_push (ma_ci (.ofNat 1)) 108)) (mt_none))
set_option maxRecDepth 100000 in
theorem smt80_34 (k : Nat) : ∀ f, mt80_34 k = some f → mo_Sim 80 k f := mt_leaf (ms_goto (e := (.goto 4, 111, 112, 0, 0)) rfl (fun _ _ _ => rfl) : mo_Sim 80 108 (ma_goto 112)) (mt_leaf (ms_pushi (e := (.iconst 0, 112, 0, 0, 0)) rfl (fun _ _ _ => rfl) (by decide) : mo_Sim 80 111 (ma_push (ma_ci (.ofNat 0)) 112)) (mt_leaf (ms_ret (e := (.ireturn, 113, 0, 0, 0)) rfl (Or.inr (Or.inl ⟨rfl, rfl, (fun _ _ _ => rfl)⟩)) : mo_Sim 80 112 (ma_ret 1)) (mt_none)))
set_option maxRecDepth 100000 in
theorem smt80_32 (k : Nat) : ∀ f, mt80_32 k = some f → mo_Sim 80 k f := mt_node (smt80_33 k) (smt80_34 k)
set_option maxRecDepth 100000 in
theorem smt80_30 (k : Nat) : ∀ f, mt80_30 k = some f → mo_Sim 80 k f := mt_node (smt80_31 k) (smt80_32 k)
set_option maxRecDepth 100000 in
theorem smt80_26 (k : Nat) : ∀ f, mt80_26 k = some f → mo_Sim 80 k f := mt_node (smt80_27 k) (smt80_30 k)
set_option maxRecDepth 100000 in
theorem smt80_18 (k : Nat) : ∀ f, mt80_18 k = some f → mo_Sim 80 k f := mt_node (smt80_19 k) (smt80_26 k)
set_option maxRecDepth 100000 in
theorem smt80_0 (k : Nat) : ∀ f, mt80_0 k = some f → mo_Sim 80 k f := mt_node (smt80_1 k) (smt80_18 k)
set_option maxRecDepth 100000 in
theorem smt81_2 (k : Nat) : ∀ f, mt81_2 k = some f → mo_Sim 81 k f := mt_leaf (ms_ald (e := (.aload_n 0, 1, 0, 0, 0)) rfl (fun _ _ _ => rfl) : mo_Sim 81 0 (ma_lda 0 1)) (mt_leaf (ms_getf (e := (.getfield 26, 4, 9, 6, 259)) rfl (fun _ _ _ => rfl) : mo_Sim 81 1 (ma_getf 9 6 4)) (mt_leaf (ms_ild (e := (.iload_n 1, 5, 0, 0, 0)) rfl (fun _ _ _ => rfl) : mo_Sim 81 4 (ma_load 0 1 5)) (mt_none)))
set_option maxRecDepth 100000 in
theorem smt81_3 (k : Nat) : ∀ f, mt81_3 k = some f → mo_Sim 81 k f := mt_leaf (ms_iald (e := (.iaload, 6, 0, 0, 0)) rfl (fun _ _ _ => rfl) : mo_Sim 81 5 (ma_iald 5 6)) (mt_leaf (ms_ild (e := (.iload_n 2, 7, 0, 0, 0)) rfl (fun _ _ _ => rfl) : mo_Sim 81 6 (ma_load 0 2 7)) (mt_leaf (ms_i2 (e := (.ishr, 8, 0, 0, 0)) rfl (fun _ _ _ => rfl) hf_shr : mo_Sim 81 7 (ma_i2 ma_fshr 7 8)) (mt_none)))
set_option maxRecDepth 100000 in
theorem smt81_1 (k : Nat) : ∀ f, mt81_1 k = some f → mo_Sim 81 k f := mt_node (smt81_2 k) (smt81_3 k)
set_option maxRecDepth 100000 in
theorem smt81_5 (k : Nat) : ∀ f, mt81_5 k = some f → mo_Sim 81 k f := mt_leaf (ms_pushi (e := (.iconst 1, 9, 0, 0, 0)) rfl (fun _ _ _ => rfl) (by decide) : mo_Sim 81 8 (ma_push (ma_ci (.ofNat 1)) 9)) (mt_leaf (ms_iand (e := (.iand, 10, 0, 0, 0)) rfl (fun _ _ _ => rfl) : mo_Sim 81 9 (ma_iand 9 10)) (mt_leaf (ms_if0 (e := (.ifCond .eq 7, 13, 17, 0, 0)) rfl (fun _ _ _ => rfl) : mo_Sim 81 10 (ma_if0 .eq 17 10 13)) (mt_none)))
set_option maxRecDepth 100000 in
theorem smt81_6 (k : Nat) : ∀ f, mt81_6 k = some f → mo_Sim 81 k f := mt_leaf (ms_pushi (e := (.iconst 1, 14, 0, 0, 0)) rfl (fun _ _ _ => rfl) (by decide) : mo_Sim 81 13 (ma_push (ma_ci (.ofNat 1)) 14)) (mt_leaf (ms_goto (e := (.goto 4, 17, 18, 0, 0)) rfl (fun _ _ _ => rfl) : mo_Sim 81 14 (ma_goto 18)) (mt_leaf (ms_pushi (e := (.iconst 0, 18, 0, 0, 0)) rfl (fun _ _ _ => rfl) (by decide) : mo_Sim 81 17 (ma_push (ma_ci (.ofNat 0)) 18)) (mt_leaf (ms_ret (e := (.ireturn, 19, 0, 0, 0)) rfl (Or.inr (Or.inl ⟨rfl, rfl, (fun _ _ _ => rfl)⟩)) : mo_Sim 81 18 (ma_ret 1)) (mt_none))))
set_option maxRecDepth 100000 in
theorem smt81_4 (k : Nat) : ∀ f, mt81_4 k = some f → mo_Sim 81 k f := mt_node (smt81_5 k) (smt81_6 k)
set_option maxRecDepth 100000 in
theorem smt81_0 (k : Nat) : ∀ f, mt81_0 k = some f → mo_Sim 81 k f := mt_node (smt81_1 k) (smt81_4 k)
set_option maxRecDepth 100000 in
theorem smt82_3 (k : Nat) : ∀ f, mt82_3 k = some f → mo_Sim 82 k f := mt_leaf (ms_ald (e := (.aload_n 0, 1, 0, 0, 0)) rfl (fun _ _ _ => rfl) : mo_Sim 82 0 (ma_lda 0 1)) (mt_leaf (ms_getf (e := (.getfield 26, 4, 9, 6, 259)) rfl (fun _ _ _ => rfl) : mo_Sim 82 1 (ma_getf 9 6 4)) (mt_none))
set_option maxRecDepth 100000 in
theorem smt82_4 (k : Nat) : ∀ f, mt82_4 k = some f → mo_Sim 82 k f := mt_leaf (ms_ild (e := (.iload_n 1, 5, 0, 0, 0)) rfl (fun _ _ _ => rfl) : mo_Sim 82 4 (ma_load 0 1 5)) (mt_leaf (ms_iald (e := (.iaload, 6, 0, 0, 0)) rfl (fun _ _ _ => rfl) : mo_Sim 82 5 (ma_iald 5 6)) (mt_leaf (ms_ist (e := (.istore_n 3, 7, 0, 0, 0)) rfl (fun _ _ _ => rfl) : mo_Sim 82 6 (ma_stor 0 3 7)) (mt_none)))
set_option maxRecDepth 100000 in
theorem smt82_2 (k : Nat) : ∀ f, mt82_2 k = some f → mo_Sim 82 k f := mt_node (smt82_3 k) (smt82_4 k)
set_option maxRecDepth 100000 in
theorem smt82_6 (k : Nat) : ∀ f, mt82_6 k = some f → mo_Sim 82 k f := mt_leaf (ms_ald (e := (.aload_n 0, 8, 0, 0, 0)) rfl (fun _ _ _ => rfl) : mo_Sim 82 7 (ma_lda 0 8)) (mt_leaf (ms_getf (e := (.getfield 26, 11, 9, 6, 259)) rfl (fun _ _ _ => rfl) : mo_Sim 82 8 (ma_getf 9 6 11)) (mt_leaf (ms_ild (e := (.iload_n 1, 12, 0, 0, 0)) rfl (fun _ _ _ => rfl) : mo_Sim 82 11 (ma_load 0 1 12)) (mt_none)))
set_option maxRecDepth 100000 in
theorem smt82_7 (k : Nat) : ∀ f, mt82_7 k = some f → mo_Sim 82 k f := mt_leaf (ms_ild (e := (.iload_n 3, 13, 0, 0, 0)) rfl (fun _ _ _ => rfl) : mo_Sim 82 12 (ma_load 0 3 13)) (mt_leaf (ms_ild (e := (.iload_n 2, 14, 0, 0, 0)) rfl (fun _ _ _ => rfl) : mo_Sim 82 13 (ma_load 0 2 14)) (mt_leaf (ms_iand (e := (.iand, 15, 0, 0, 0)) rfl (fun _ _ _ => rfl) : mo_Sim 82 14 (ma_iand 14 15)) (mt_none)))
set_option maxRecDepth 100000 in
theorem smt82_5 (k : Nat) : ∀ f, mt82_5 k = some f → mo_Sim 82 k f := mt_node (smt82_6 k) (smt82_7 k)
set_option maxRecDepth 100000 in
theorem smt82_1 (k : Nat) : ∀ f, mt82_1 k = some f → mo_Sim 82 k f := mt_node (smt82_2 k) (smt82_5 k)
set_option maxRecDepth 100000 in
theorem smt82_10 (k : Nat) : ∀ f, mt82_10 k = some f → mo_Sim 82 k f := mt_leaf (ms_iast (e := (.iastore, 16, 0, 0, 0)) rfl rfl (fun _ _ _ => rfl) : mo_Sim 82 15 (ma_ast 13 0 15 16)) (mt_leaf (ms_ald (e := (.aload_n 0, 17, 0, 0, 0)) rfl (fun _ _ _ => rfl) : mo_Sim 82 16 (ma_lda 0 17)) (mt_none))
set_option maxRecDepth 100000 in
theorem smt82_11 (k : Nat) : ∀ f, mt82_11 k = some f → mo_Sim 82 k f := mt_leaf (ms_getf (e := (.getfield 26, 20, 9, 6, 259)) rfl (fun _ _ _ => rfl) : mo_Sim 82 17 (ma_getf 9 6 20)) (mt_leaf (ms_ild (e := (.iload_n 1, 21, 0, 0, 0)) rfl (fun _ _ _ => rfl) : mo_Sim 82 20 (ma_load 0 1 21)) (mt_leaf (ms_iald (e := (.iaload, 22, 0, 0, 0)) rfl (fun _ _ _ => rfl) : mo_Sim 82 21 (ma_iald 21 22)) (mt_none)))
set_option maxRecDepth 100000 in
theorem smt82_9 (k : Nat) : ∀ f, mt82_9 k = some f → mo_Sim 82 k f := mt_node (smt82_10 k) (smt82_11 k)
set_option maxRecDepth 100000 in
theorem smt82_13 (k : Nat) : ∀ f, mt82_13 k = some f → mo_Sim 82 k f := mt_leaf (ms_ild (e := (.iload_n 3, 23, 0, 0, 0)) rfl (fun _ _ _ => rfl) : mo_Sim 82 22 (ma_load 0 3 23)) (mt_leaf (ms_if2 (e := (.if_icmp .eq 7, 26, 30, 0, 0)) rfl (fun _ _ _ => rfl) : mo_Sim 82 23 (ma_if2 .eq 30 23 26)) (mt_leaf (ms_pushi (e := (.iconst 1, 27, 0, 0, 0)) rfl (fun _ _ _ => rfl) (by decide) : mo_Sim 82 26 (ma_push (ma_ci (.ofNat 1)) 27)) (mt_none)))
set_option maxRecDepth 100000 in
theorem smt82_14 (k : Nat) : ∀ f, mt82_14 k = some f → mo_Sim 82 k f := mt_leaf (ms_goto (e := (.goto 4, 30, 31, 0, 0)) rfl (fun _ _ _ => rfl) : mo_Sim 82 27 (ma_goto 31)) (mt_leaf (ms_pushi (e := (.iconst 0, 31, 0, 0, 0)) rfl (fun _ _ _ => rfl) (by decide) : mo_Sim 82 30 (ma_push (ma_ci (.ofNat 0)) 31)) (mt_leaf (ms_ret (e := (.ireturn, 32, 0, 0, 0)) rfl (Or.inr (Or.inl ⟨rfl, rfl, (fun _ _ _ => rfl)⟩)) : mo_Sim 82 31 (ma_ret 1)) (mt_none)))
set_option maxRecDepth 100000 in
theorem smt82_12 (k : Nat) : ∀ f, mt82_12 k = some f → mo_Sim 82 k f := mt_node (smt82_13 k) (smt82_14 k)
set_option maxRecDepth 100000 in
theorem smt82_8 (k : Nat) : ∀ f, mt82_8 k = some f → mo_Sim 82 k f := mt_node (smt82_9 k) (smt82_12 k)
set_option maxRecDepth 100000 in
theorem smt82_0 (k : Nat) : ∀ f, mt82_0 k = some f → mo_Sim 82 k f := mt_node (smt82_1 k) (smt82_8 k)
set_option maxRecDepth 100000 in
theorem smt83_2 (k : Nat) : ∀ f, mt83_2 k = some f → mo_Sim 83 k f := mt_leaf (ms_ald (e := (.aload_n 0, 1, 0, 0, 0)) rfl (fun _ _ _ => rfl) : mo_Sim 83 0 (ma_lda 0 1)) (mt_leaf (ms_obj (e := (.invokespecial 3, 4, 0, 4, 154)) rfl (fun _ _ _ => rfl) : mo_Sim 83 1 (ma_obj 4)) (mt_leaf (ms_ald (e := (.aload_n 0, 5, 0, 0, 0)) rfl (fun _ _ _ => rfl) : mo_Sim 83 4 (ma_lda 0 5)) (mt_leaf (ms_pushi (e := (.sipush 320, 8, 0, 0, 0)) rfl (fun _ _ _ => rfl) (by decide) : mo_Sim 83 5 (ma_push (ma_ci (.ofNat 320)) 8)) (mt_none))))
set_option maxRecDepth 100000 in
theorem smt83_4 (k : Nat) : ∀ f, mt83_4 k = some f → mo_Sim 83 k f := mt_leaf (ms_newaL (e := (.newarray .long, 10, 0, 0, 0)) rfl rfl (fun _ _ _ => rfl) : mo_Sim 83 8 (ma_newa 14 (ma_cl (.ofNat 0)) 10)) (mt_leaf (ms_putf (e := (.putfield 11, 13, 10, 0, 158)) rfl rfl (fun _ _ _ => rfl) (Or.inr (Or.inr (Or.inl ⟨rfl, Or.inr ⟨_, rfl⟩⟩))) : mo_Sim 83 10 (ma_putf 10 0 2 13)) (mt_none))
set_option maxRecDepth 100000 in
theorem smt83_5 (k : Nat) : ∀ f, mt83_5 k = some f → mo_Sim 83 k f := mt_leaf (ms_ald (e := (.aload_n 0, 14, 0, 0, 0)) rfl (fun _ _ _ => rfl) : mo_Sim 83 13 (ma_lda 0 14)) (mt_leaf (ms_pushi (e := (.bipush 8, 16, 0, 0, 0)) rfl (fun _ _ _ => rfl) (by decide) : mo_Sim 83 14 (ma_push (ma_ci (.ofNat 8)) 16)) (mt_leaf (ms_newaI (e := (.newarray .int, 18, 0, 0, 0)) rfl rfl (fun _ _ _ => rfl) : mo_Sim 83 16 (ma_newa 13 (ma_ci (.ofNat 0)) 18)) (mt_none)))
set_option maxRecDepth 100000 in
theorem smt83_3 (k : Nat) : ∀ f, mt83_3 k = some f → mo_Sim 83 k f := mt_node (smt83_4 k) (smt83_5 k)
set_option maxRecDepth 100000 in
theorem smt83_1 (k : Nat) : ∀ f, mt83_1 k = some f → mo_Sim 83 k f := mt_node (smt83_2 k) (smt83_3 k)
set_option maxRecDepth 100000 in
theorem smt83_8 (k : Nat) : ∀ f, mt83_8 k = some f → mo_Sim 83 k f := mt_leaf (ms_putf (e := (.putfield 15, 21, 10, 1, 159)) rfl rfl (fun _ _ _ => rfl) (Or.inr (Or.inr (Or.inl ⟨rfl, Or.inr ⟨_, rfl⟩⟩))) : mo_Sim 83 18 (ma_putf 10 1 2 21)) (mt_leaf (ms_ald (e := (.aload_n 0, 22, 0, 0, 0)) rfl (fun _ _ _ => rfl) : mo_Sim 83 21 (ma_lda 0 22)) (mt_none))
set_option maxRecDepth 100000 in
theorem smt83_9 (k : Nat) : ∀ f, mt83_9 k = some f → mo_Sim 83 k f := mt_leaf (ms_pushi (e := (.bipush 8, 24, 0, 0, 0)) rfl (fun _ _ _ => rfl) (by decide) : mo_Sim 83 22 (ma_push (ma_ci (.ofNat 8)) 24)) (mt_leaf (ms_newaI (e := (.newarray .int, 26, 0, 0, 0)) rfl rfl (fun _ _ _ => rfl) : mo_Sim 83 24 (ma_newa 13 (ma_ci (.ofNat 0)) 26)) (mt_leaf (ms_putf (e := (.putfield 19, 29, 10, 2, 160)) rfl rfl (fun _ _ _ => rfl) (Or.inr (Or.inr (Or.inl ⟨rfl, Or.inr ⟨_, rfl⟩⟩))) : mo_Sim 83 26 (ma_putf 10 2 2 29)) (mt_none)))
set_option maxRecDepth 100000 in
theorem smt83_7 (k : Nat) : ∀ f, mt83_7 k = some f → mo_Sim 83 k f := mt_node (smt83_8 k) (smt83_9 k)
set_option maxRecDepth 100000 in
theorem smt83_11 (k : Nat) : ∀ f, mt83_11 k = some f → mo_Sim 83 k f := mt_leaf (ms_ald (e := (.aload_n 0, 30, 0, 0, 0)) rfl (fun _ _ _ => rfl) : mo_Sim 83 29 (ma_lda 0 30)) (mt_leaf (ms_getf (e := (.getfield 19, 33, 10, 2, 160)) rfl (fun _ _ _ => rfl) : mo_Sim 83 30 (ma_getf 10 2 33)) (mt_none))
set_option maxRecDepth 100000 in
theorem smt83_12 (k : Nat) : ∀ f, mt83_12 k = some f → mo_Sim 83 k f := mt_leaf (ms_pushi (e := (.iconst (-1), 34, 0, 0, 0)) rfl (fun _ _ _ => rfl) (by decide) : mo_Sim 83 33 (ma_push (ma_ci (.negSucc 0)) 34)) (mt_leaf (ms_invS (e := (.invokestatic 22, 37, 208, 1, 155)) rfl rfl (fun _ _ _ => rfl) rfl rfl : mo_Sim 83 34 (ma_inv 208 2 4 20 37)) (mt_leaf (ms_retv (e := (.return_, 38, 0, 0, 0)) rfl rfl (fun _ _ _ => rfl) : mo_Sim 83 37 (ma_retv)) (mt_none)))
set_option maxRecDepth 100000 in
theorem smt83_10 (k : Nat) : ∀ f, mt83_10 k = some f → mo_Sim 83 k f := mt_node (smt83_11 k) (smt83_12 k)
set_option maxRecDepth 100000 in
theorem smt83_6 (k : Nat) : ∀ f, mt83_6 k = some f → mo_Sim 83 k f := mt_node (smt83_7 k) (smt83_10 k)
set_option maxRecDepth 100000 in
theorem smt83_0 (k : Nat) : ∀ f, mt83_0 k = some f → mo_Sim 83 k f := mt_node (smt83_1 k) (smt83_6 k)
set_option maxRecDepth 100000 in
theorem smt84_1 (k : Nat) : ∀ f, mt84_1 k = some f → mo_Sim 84 k f := mt_leaf (ms_ild (e := (.iload_n 1, 1, 0, 0, 0)) rfl (fun _ _ _ => rfl) : mo_Sim 84 0 (ma_load 0 1 1)) (mt_leaf (ms_if0 (e := (.ifCond .lt 13, 4, 14, 0, 0)) rfl (fun _ _ _ => rfl) : mo_Sim 84 1 (ma_if0 .lt 14 1 4)) (mt_leaf (ms_ild (e := (.iload_n 1, 5, 0, 0, 0)) rfl (fun _ _ _ => rfl) : mo_Sim 84 4 (ma_load 0 1 5)) (mt_leaf (ms_pushi (e := (.bipush 8, 7, 0, 0, 0)) rfl (fun _ _ _ => rfl) (by decide) : mo_Sim 84 5 (ma_push (ma_ci (.ofNat 8)) 7)) (mt_none))))
set_option maxRecDepth 100000 in
theorem smt84_3 (k : Nat) : ∀ f, mt84_3 k = some f → mo_Sim 84 k f := mt_leaf (ms_if2 (e := (.if_icmp .ge 7, 10, 14, 0, 0)) rfl (fun _ _ _ => rfl) : mo_Sim 84 7 (ma_if2 .ge 14 7 10)) (mt_leaf (ms_pushi (e := (.iconst 1, 11, 0, 0, 0)) rfl (fun _ _ _ => rfl) (by decide) : mo_Sim 84 10 (ma_push (ma_ci (.ofNat 1)) 11)) (mt_none))
set_option maxRecDepth 100000 in
theorem smt84_4 (k : Nat) : ∀ f, mt84_4 k = some f → mo_Sim 84 k f := mt_leaf (ms_goto (e := (.goto 4, 14, 15, 0, 0)) rfl (fun _ _ _ => rfl) : mo_Sim 84 11 (ma_goto 15)) (mt_leaf (ms_pushi (e := (.iconst 0, 15, 0, 0, 0)) rfl (fun _ _ _ => rfl) (by decide) : mo_Sim 84 14 (ma_push (ma_ci (.ofNat 0)) 15)) (mt_leaf (ms_ret (e := (.ireturn, 16, 0, 0, 0)) rfl (Or.inr (Or.inl ⟨rfl, rfl, (fun _ _ _ => rfl)⟩)) : mo_Sim 84 15 (ma_ret 1)) (mt_none)))
set_option maxRecDepth 100000 in
theorem smt84_2 (k : Nat) : ∀ f, mt84_2 k = some f → mo_Sim 84 k f := mt_node (smt84_3 k) (smt84_4 k)
set_option maxRecDepth 100000 in
theorem smt84_0 (k : Nat) : ∀ f, mt84_0 k = some f → mo_Sim 84 k f := mt_node (smt84_1 k) (smt84_2 k)
set_option maxRecDepth 100000 in
theorem smt85_2 (k : Nat) : ∀ f, mt85_2 k = some f → mo_Sim 85 k f := mt_leaf (ms_ald (e := (.aload_n 0, 1, 0, 0, 0)) rfl (fun _ _ _ => rfl) : mo_Sim 85 0 (ma_lda 0 1)) (mt_leaf (ms_ild (e := (.iload_n 1, 2, 0, 0, 0)) rfl (fun _ _ _ => rfl) : mo_Sim 85 1 (ma_load 0 1 2)) (mt_leaf (ms_invV (p := 1) (e := (.invokevirtual 28, 5, 84, 0, 542)) rfl rfl (fun _ _ _ => rfl) rfl rfl rfl (by decide) : mo_Sim 85 2 (ma_inv 84 2 2 10 5)) (mt_none)))
set_option maxRecDepth 100000 in
theorem smt85_3 (k : Nat) : ∀ f, mt85_3 k = some f → mo_Sim 85 k f := mt_leaf (ms_if0 (e := (.ifCond .eq 16, 8, 21, 0, 0)) rfl (fun _ _ _ => rfl) : mo_Sim 85 5 (ma_if0 .eq 21 5 8)) (mt_leaf (ms_ald (e := (.aload_n 0, 9, 0, 0, 0)) rfl (fun _ _ _ => rfl) : mo_Sim 85 8 (ma_lda 0 9)) (mt_leaf (ms_getf (e := (.getfield 19, 12, 10, 2, 160)) rfl (fun _ _ _ => rfl) : mo_Sim 85 9 (ma_getf 10 2 12)) (mt_none)))
set_option maxRecDepth 100000 in
theorem smt85_1 (k : Nat) : ∀ f, mt85_1 k = some f → mo_Sim 85 k f := mt_node (smt85_2 k) (smt85_3 k)
set_option maxRecDepth 100000 in
theorem smt85_5 (k : Nat) : ∀ f, mt85_5 k = some f → mo_Sim 85 k f := mt_leaf (ms_ild (e := (.iload_n 1, 13, 0, 0, 0)) rfl (fun _ _ _ => rfl) : mo_Sim 85 12 (ma_load 0 1 13)) (mt_leaf (ms_iald (e := (.iaload, 14, 0, 0, 0)) rfl (fun _ _ _ => rfl) : mo_Sim 85 13 (ma_iald 13 14)) (mt_leaf (ms_if0 (e := (.ifCond .lt 7, 17, 21, 0, 0)) rfl (fun _ _ _ => rfl) : mo_Sim 85 14 (ma_if0 .lt 21 14 17)) (mt_none)))
set_option maxRecDepth 100000 in
theorem smt85_6 (k : Nat) : ∀ f, mt85_6 k = some f → mo_Sim 85 k f := mt_leaf (ms_pushi (e := (.iconst 1, 18, 0, 0, 0)) rfl (fun _ _ _ => rfl) (by decide) : mo_Sim 85 17 (ma_push (ma_ci (.ofNat 1)) 18)) (mt_leaf (ms_goto (e := (.goto 4, 21, 22, 0, 0)) rfl (fun _ _ _ => rfl) : mo_Sim 85 18 (ma_goto 22)) (mt_leaf (ms_pushi (e := (.iconst 0, 22, 0, 0, 0)) rfl (fun _ _ _ => rfl) (by decide) : mo_Sim 85 21 (ma_push (ma_ci (.ofNat 0)) 22)) (mt_leaf (ms_ret (e := (.ireturn, 23, 0, 0, 0)) rfl (Or.inr (Or.inl ⟨rfl, rfl, (fun _ _ _ => rfl)⟩)) : mo_Sim 85 22 (ma_ret 1)) (mt_none))))
set_option maxRecDepth 100000 in
theorem smt85_4 (k : Nat) : ∀ f, mt85_4 k = some f → mo_Sim 85 k f := mt_node (smt85_5 k) (smt85_6 k)
set_option maxRecDepth 100000 in
theorem smt85_0 (k : Nat) : ∀ f, mt85_0 k = some f → mo_Sim 85 k f := mt_node (smt85_1 k) (smt85_4 k)
set_option maxRecDepth 100000 in
theorem smt86_3 (k : Nat) : ∀ f, mt86_3 k = some f → mo_Sim 86 k f := mt_leaf (ms_ald (e := (.aload_n 0, 1, 0, 0, 0)) rfl (fun _ _ _ => rfl) : mo_Sim 86 0 (ma_lda 0 1)) (mt_leaf (ms_getf (e := (.getfield 15, 4, 10, 1, 159)) rfl (fun _ _ _ => rfl) : mo_Sim 86 1 (ma_getf 10 1 4)) (mt_leaf (ms_ild (e := (.iload_n 1, 5, 0, 0, 0)) rfl (fun _ _ _ => rfl) : mo_Sim 86 4 (ma_load 0 1 5)) (mt_none)))
set_option maxRecDepth 100000 in
theorem smt86_4 (k : Nat) : ∀ f, mt86_4 k = some f → mo_Sim 86 k f := mt_leaf (ms_ild (e := (.iload_n 2, 6, 0, 0, 0)) rfl (fun _ _ _ => rfl) : mo_Sim 86 5 (ma_load 0 2 6)) (mt_leaf (ms_iast (e := (.iastore, 7, 0, 0, 0)) rfl rfl (fun _ _ _ => rfl) : mo_Sim 86 6 (ma_ast 13 0 6 7)) (mt_leaf (ms_ald (e := (.aload_n 0, 8, 0, 0, 0)) rfl (fun _ _ _ => rfl) : mo_Sim 86 7 (ma_lda 0 8)) (mt_none)))
set_option maxRecDepth 100000 in
theorem smt86_2 (k : Nat) : ∀ f, mt86_2 k = some f → mo_Sim 86 k f := mt_node (smt86_3 k) (smt86_4 k)
set_option maxRecDepth 100000 in
theorem smt86_6 (k : Nat) : ∀ f, mt86_6 k = some f → mo_Sim 86 k f := mt_leaf (ms_getf (e := (.getfield 19, 11, 10, 2, 160)) rfl (fun _ _ _ => rfl) : mo_Sim 86 8 (ma_getf 10 2 11)) (mt_leaf (ms_ild (e := (.iload_n 1, 12, 0, 0, 0)) rfl (fun _ _ _ => rfl) : mo_Sim 86 11 (ma_load 0 1 12)) (mt_leaf (ms_ild (e := (.iload_n 3, 13, 0, 0, 0)) rfl (fun _ _ _ => rfl) : mo_Sim 86 12 (ma_load 0 3 13)) (mt_none)))
set_option maxRecDepth 100000 in
theorem smt86_7 (k : Nat) : ∀ f, mt86_7 k = some f → mo_Sim 86 k f := mt_leaf (ms_iast (e := (.iastore, 14, 0, 0, 0)) rfl rfl (fun _ _ _ => rfl) : mo_Sim 86 13 (ma_ast 13 0 13 14)) (mt_leaf (ms_pushi (e := (.iconst 0, 15, 0, 0, 0)) rfl (fun _ _ _ => rfl) (by decide) : mo_Sim 86 14 (ma_push (ma_ci (.ofNat 0)) 15)) (mt_leaf (ms_ist (e := (.istore 4, 17, 0, 0, 0)) rfl (fun _ _ _ => rfl) : mo_Sim 86 15 (ma_stor 0 4 17)) (mt_leaf (ms_ild (e := (.iload 4, 19, 0, 0, 0)) rfl (fun _ _ _ => rfl) : mo_Sim 86 17 (ma_load 0 4 19)) (mt_none))))
set_option maxRecDepth 100000 in
theorem smt86_5 (k : Nat) : ∀ f, mt86_5 k = some f → mo_Sim 86 k f := mt_node (smt86_6 k) (smt86_7 k)
set_option maxRecDepth 100000 in
theorem smt86_1 (k : Nat) : ∀ f, mt86_1 k = some f → mo_Sim 86 k f := mt_node (smt86_2 k) (smt86_5 k)
set_option maxRecDepth 100000 in
theorem smt86_10 (k : Nat) : ∀ f, mt86_10 k = some f → mo_Sim 86 k f := mt_leaf (ms_pushi (e := (.bipush 40, 21, 0, 0, 0)) rfl (fun _ _ _ => rfl) (by decide) : mo_Sim 86 19 (ma_push (ma_ci (.ofNat 40)) 21)) (mt_leaf (ms_if2 (e := (.if_icmp .ge 22, 24, 43, 0, 0)) rfl (fun _ _ _ => rfl) : mo_Sim 86 21 (ma_if2 .ge 43 21 24)) (mt_leaf (ms_ald (e := (.aload_n 0, 25, 0, 0, 0)) rfl (fun _ _ _ => rfl) : mo_Sim 86 24 (ma_lda 0 25)) (mt_none)))
set_option maxRecDepth 100000 in
theorem smt86_11 (k : Nat) : ∀ f, mt86_11 k = some f → mo_Sim 86 k f := mt_leaf (ms_getf (e := (.getfield 11, 28, 10, 0, 158)) rfl (fun _ _ _ => rfl) : mo_Sim 86 25 (ma_getf 10 0 28)) (mt_leaf (ms_ild (e := (.iload_n 1, 29, 0, 0, 0)) rfl (fun _ _ _ => rfl) : mo_Sim 86 28 (ma_load 0 1 29)) (mt_leaf (ms_pushi (e := (.bipush 40, 31, 0, 0, 0)) rfl (fun _ _ _ => rfl) (by decide) : mo_Sim 86 29 (ma_push (ma_ci (.ofNat 40)) 31)) (mt_leaf (ms_i2 (e := (.imul, 32, 0, 0, 0)) rfl (fun _ _ _ => rfl) hf_mul : mo_Sim 86 31 (ma_i2 ma_fmul 31 32)) (mt_none))))
set_option maxRecDepth 100000 in
theorem smt86_9 (k : Nat) : ∀ f, mt86_9 k = some f → mo_Sim 86 k f := mt_node (smt86_10 k) (smt86_11 k)
set_option maxRecDepth 100000 in
theorem smt86_13 (k : Nat) : ∀ f, mt86_13 k = some f → mo_Sim 86 k f := mt_leaf (ms_ild (e := (.iload 4, 34, 0, 0, 0)) rfl (fun _ _ _ => rfl) : mo_Sim 86 32 (ma_load 0 4 34)) (mt_leaf (ms_iadd (e := (.iadd, 35, 0, 0, 0)) rfl (fun _ _ _ => rfl) : mo_Sim 86 34 (ma_iadd 34 35)) (mt_leaf (ms_pushl (e := (.lconst 0, 36, 0, 0, 0)) rfl (fun _ _ _ => rfl) (by decide) : mo_Sim 86 35 (ma_push (ma_cl (.ofNat 0)) 36)) (mt_none)))
set_option maxRecDepth 100000 in
theorem smt86_14 (k : Nat) : ∀ f, mt86_14 k = some f → mo_Sim 86 k f := mt_leaf (ms_last (e := (.lastore, 37, 0, 0, 0)) rfl rfl (fun _ _ _ => rfl) : mo_Sim 86 36 (ma_ast 14 2 36 37)) (mt_leaf (ms_iinc (e := (.iinc 4 1, 40, 0, 0, 0)) rfl (fun _ _ _ => rfl) (by decide) : mo_Sim 86 37 (ma_iinc 4 (.ofNat 1) 37 40)) (mt_leaf (ms_goto (e := (.goto (-23), 43, 17, 0, 0)) rfl (fun _ _ _ => rfl) : mo_Sim 86 40 (ma_goto 17)) (mt_leaf (ms_retv (e := (.return_, 44, 0, 0, 0)) rfl rfl (fun _ _ _ => rfl) : mo_Sim 86 43 (ma_retv)) (mt_none))))
set_option maxRecDepth 100000 in
theorem smt86_12 (k : Nat) : ∀ f, mt86_12 k = some f → mo_Sim 86 k f := mt_node (smt86_13 k) (smt86_14 k)
set_option maxRecDepth 100000 in
theorem smt86_8 (k : Nat) : ∀ f, mt86_8 k = some f → mo_Sim 86 k f := mt_node (smt86_9 k) (smt86_12 k)
set_option maxRecDepth 100000 in
theorem smt86_0 (k : Nat) : ∀ f, mt86_0 k = some f → mo_Sim 86 k f := mt_node (smt86_1 k) (smt86_8 k)
set_option maxRecDepth 100000 in
theorem smt87_1 (k : Nat) : ∀ f, mt87_1 k = some f → mo_Sim 87 k f := mt_leaf (ms_ald (e := (.aload_n 0, 1, 0, 0, 0)) rfl (fun _ _ _ => rfl) : mo_Sim 87 0 (ma_lda 0 1)) (mt_leaf (ms_getf (e := (.getfield 19, 4, 10, 2, 160)) rfl (fun _ _ _ => rfl) : mo_Sim 87 1 (ma_getf 10 2 4)) (mt_leaf (ms_ild (e := (.iload_n 1, 5, 0, 0, 0)) rfl (fun _ _ _ => rfl) : mo_Sim 87 4 (ma_load 0 1 5)) (mt_none)))
set_option maxRecDepth 100000 in
theorem smt87_2 (k : Nat) : ∀ f, mt87_2 k = some f → mo_Sim 87 k f := mt_leaf (ms_pushi (e := (.iconst (-1), 6, 0, 0, 0)) rfl (fun _ _ _ => rfl) (by decide) : mo_Sim 87 5 (ma_push (ma_ci (.negSucc 0)) 6)) (mt_leaf (ms_iast (e := (.iastore, 7, 0, 0, 0)) rfl rfl (fun _ _ _ => rfl) : mo_Sim 87 6 (ma_ast 13 0 6 7)) (mt_leaf (ms_retv (e := (.return_, 8, 0, 0, 0)) rfl rfl (fun _ _ _ => rfl) : mo_Sim 87 7 (ma_retv)) (mt_none)))
set_option maxRecDepth 100000 in
theorem smt87_0 (k : Nat) : ∀ f, mt87_0 k = some f → mo_Sim 87 k f := mt_node (smt87_1 k) (smt87_2 k)
set_option maxRecDepth 100000 in
theorem smt88_3 (k : Nat) : ∀ f, mt88_3 k = some f → mo_Sim 88 k f := mt_leaf (ms_ild (e := (.iload_n 2, 1, 0, 0, 0)) rfl (fun _ _ _ => rfl) : mo_Sim 88 0 (ma_load 0 2 1)) (mt_leaf (ms_if0 (e := (.ifCond .lt 13, 4, 14, 0, 0)) rfl (fun _ _ _ => rfl) : mo_Sim 88 1 (ma_if0 .lt 14 1 4)) (mt_leaf (ms_ild (e := (.iload_n 2, 5, 0, 0, 0)) rfl (fun _ _ _ => rfl) : mo_Sim 88 4 (ma_load 0 2 5)) (mt_none)))
set_option maxRecDepth 100000 in
theorem smt88_4 (k : Nat) : ∀ f, mt88_4 k = some f → mo_Sim 88 k f := mt_leaf (ms_ald (e := (.aload_n 0, 6, 0, 0, 0)) rfl (fun _ _ _ => rfl) : mo_Sim 88 5 (ma_lda 0 6)) (mt_leaf (ms_getf (e := (.getfield 19, 9, 10, 2, 160)) rfl (fun _ _ _ => rfl) : mo_Sim 88 6 (ma_getf 10 2 9)) (mt_leaf (ms_ild (e := (.iload_n 1, 10, 0, 0, 0)) rfl (fun _ _ _ => rfl) : mo_Sim 88 9 (ma_load 0 1 10)) (mt_none)))
set_option maxRecDepth 100000 in
theorem smt88_2 (k : Nat) : ∀ f, mt88_2 k = some f → mo_Sim 88 k f := mt_node (smt88_3 k) (smt88_4 k)
set_option maxRecDepth 100000 in
theorem smt88_6 (k : Nat) : ∀ f, mt88_6 k = some f → mo_Sim 88 k f := mt_leaf (ms_iald (e := (.iaload, 11, 0, 0, 0)) rfl (fun _ _ _ => rfl) : mo_Sim 88 10 (ma_iald 10 11)) (mt_leaf (ms_if2 (e := (.if_icmp .lt 5, 14, 16, 0, 0)) rfl (fun _ _ _ => rfl) : mo_Sim 88 11 (ma_if2 .lt 16 11 14)) (mt_leaf (ms_pushi (e := (.iconst 0, 15, 0, 0, 0)) rfl (fun _ _ _ => rfl) (by decide) : mo_Sim 88 14 (ma_push (ma_ci (.ofNat 0)) 15)) (mt_none)))
set_option maxRecDepth 100000 in
theorem smt88_7 (k : Nat) : ∀ f, mt88_7 k = some f → mo_Sim 88 k f := mt_leaf (ms_ret (e := (.ireturn, 16, 0, 0, 0)) rfl (Or.inr (Or.inl ⟨rfl, rfl, (fun _ _ _ => rfl)⟩)) : mo_Sim 88 15 (ma_ret 1)) (mt_leaf (ms_ald (e := (.aload_n 0, 17, 0, 0, 0)) rfl (fun _ _ _ => rfl) : mo_Sim 88 16 (ma_lda 0 17)) (mt_leaf (ms_getf (e := (.getfield 11, 20, 10, 0, 158)) rfl (fun _ _ _ => rfl) : mo_Sim 88 17 (ma_getf 10 0 20)) (mt_leaf (ms_ild (e := (.iload_n 1, 21, 0, 0, 0)) rfl (fun _ _ _ => rfl) : mo_Sim 88 20 (ma_load 0 1 21)) (mt_none))))
set_option maxRecDepth 100000 in
theorem smt88_5 (k : Nat) : ∀ f, mt88_5 k = some f → mo_Sim 88 k f := mt_node (smt88_6 k) (smt88_7 k)
set_option maxRecDepth 100000 in
theorem smt88_1 (k : Nat) : ∀ f, mt88_1 k = some f → mo_Sim 88 k f := mt_node (smt88_2 k) (smt88_5 k)
set_option maxRecDepth 100000 in
theorem smt88_10 (k : Nat) : ∀ f, mt88_10 k = some f → mo_Sim 88 k f := mt_leaf (ms_pushi (e := (.bipush 40, 23, 0, 0, 0)) rfl (fun _ _ _ => rfl) (by decide) : mo_Sim 88 21 (ma_push (ma_ci (.ofNat 40)) 23)) (mt_leaf (ms_i2 (e := (.imul, 24, 0, 0, 0)) rfl (fun _ _ _ => rfl) hf_mul : mo_Sim 88 23 (ma_i2 ma_fmul 23 24)) (mt_leaf (ms_ild (e := (.iload_n 2, 25, 0, 0, 0)) rfl (fun _ _ _ => rfl) : mo_Sim 88 24 (ma_load 0 2 25)) (mt_none)))
set_option maxRecDepth 100000 in
theorem smt88_11 (k : Nat) : ∀ f, mt88_11 k = some f → mo_Sim 88 k f := mt_leaf (ms_iadd (e := (.iadd, 26, 0, 0, 0)) rfl (fun _ _ _ => rfl) : mo_Sim 88 25 (ma_iadd 25 26)) (mt_leaf (ms_ald (e := (.aload_n 0, 27, 0, 0, 0)) rfl (fun _ _ _ => rfl) : mo_Sim 88 26 (ma_lda 0 27)) (mt_leaf (ms_lld (e := (.lload_n 3, 28, 0, 0, 0)) rfl (fun _ _ _ => rfl) : mo_Sim 88 27 (ma_load 2 3 28)) (mt_leaf (ms_ald (e := (.aload_n 0, 29, 0, 0, 0)) rfl (fun _ _ _ => rfl) : mo_Sim 88 28 (ma_lda 0 29)) (mt_none))))
set_option maxRecDepth 100000 in
theorem smt88_9 (k : Nat) : ∀ f, mt88_9 k = some f → mo_Sim 88 k f := mt_node (smt88_10 k) (smt88_11 k)
set_option maxRecDepth 100000 in
theorem smt88_13 (k : Nat) : ∀ f, mt88_13 k = some f → mo_Sim 88 k f := mt_leaf (ms_getf (e := (.getfield 15, 32, 10, 1, 159)) rfl (fun _ _ _ => rfl) : mo_Sim 88 29 (ma_getf 10 1 32)) (mt_leaf (ms_ild (e := (.iload_n 1, 33, 0, 0, 0)) rfl (fun _ _ _ => rfl) : mo_Sim 88 32 (ma_load 0 1 33)) (mt_leaf (ms_iald (e := (.iaload, 34, 0, 0, 0)) rfl (fun _ _ _ => rfl) : mo_Sim 88 33 (ma_iald 33 34)) (mt_none)))
set_option maxRecDepth 100000 in
theorem smt88_14 (k : Nat) : ∀ f, mt88_14 k = some f → mo_Sim 88 k f := mt_leaf (ms_invV (p := 2) (e := (.invokevirtual 32, 37, 91, 0, 555)) rfl rfl (fun _ _ _ => rfl) rfl rfl rfl (by decide) : mo_Sim 88 34 (ma_inv 91 3 4 10 37)) (mt_leaf (ms_last (e := (.lastore, 38, 0, 0, 0)) rfl rfl (fun _ _ _ => rfl) : mo_Sim 88 37 (ma_ast 14 2 37 38)) (mt_leaf (ms_pushi (e := (.iconst 1, 39, 0, 0, 0)) rfl (fun _ _ _ => rfl) (by decide) : mo_Sim 88 38 (ma_push (ma_ci (.ofNat 1)) 39)) (mt_leaf (ms_ret (e := (.ireturn, 40, 0, 0, 0)) rfl (Or.inr (Or.inl ⟨rfl, rfl, (fun _ _ _ => rfl)⟩)) : mo_Sim 88 39 (ma_ret 1)) (mt_none))))
set_option maxRecDepth 100000 in
theorem smt88_12 (k : Nat) : ∀ f, mt88_12 k = some f → mo_Sim 88 k f := mt_node (smt88_13 k) (smt88_14 k)
set_option maxRecDepth 100000 in
theorem smt88_8 (k : Nat) : ∀ f, mt88_8 k = some f → mo_Sim 88 k f := mt_node (smt88_9 k) (smt88_12 k)
set_option maxRecDepth 100000 in
theorem smt88_0 (k : Nat) : ∀ f, mt88_0 k = some f → mo_Sim 88 k f := mt_node (smt88_1 k) (smt88_8 k)
set_option maxRecDepth 100000 in
theorem smt89_3 (k : Nat) : ∀ f, mt89_3 k = some f → mo_Sim 89 k f := mt_leaf (ms_ild (e := (.iload_n 2, 1, 0, 0, 0)) rfl (fun _ _ _ => rfl) : mo_Sim 89 0 (ma_load 0 2 1)) (mt_leaf (ms_if0 (e := (.ifCond .lt 13, 4, 14, 0, 0)) rfl (fun _ _ _ => rfl) : mo_Sim 89 1 (ma_if0 .lt 14 1 4)) (mt_leaf (ms_ild (e := (.iload_n 2, 5, 0, 0, 0)) rfl (fun _ _ _ => rfl) : mo_Sim 89 4 (ma_load 0 2 5)) (mt_leaf (ms_ald (e := (.aload_n 0, 6, 0, 0, 0)) rfl (fun _ _ _ => rfl) : mo_Sim 89 5 (ma_lda 0 6)) (mt_none))))
set_option maxRecDepth 100000 in
theorem smt89_4 (k : Nat) : ∀ f, mt89_4 k = some f → mo_Sim 89 k f := mt_leaf (ms_getf (e := (.getfield 19, 9, 10, 2, 160)) rfl (fun _ _ _ => rfl) : mo_Sim 89 6 (ma_getf 10 2 9)) (mt_leaf (ms_ild (e := (.iload_n 1, 10, 0, 0, 0)) rfl (fun _ _ _ => rfl) : mo_Sim 89 9 (ma_load 0 1 10)) (mt_leaf (ms_iald (e := (.iaload, 11, 0, 0, 0)) rfl (fun _ _ _ => rfl) : mo_Sim 89 10 (ma_iald 10 11)) (mt_leaf (ms_if2 (e := (.if_icmp .lt 6, 14, 17, 0, 0)) rfl (fun _ _ _ => rfl) : mo_Sim 89 11 (ma_if2 .lt 17 11 14)) (mt_none))))
set_option maxRecDepth 100000 in
theorem smt89_2 (k : Nat) : ∀ f, mt89_2 k = some f → mo_Sim 89 k f := mt_node (smt89_3 k) (smt89_4 k)
set_option maxRecDepth 100000 in
theorem smt89_6 (k : Nat) : ∀ f, mt89_6 k = some f → mo_Sim 89 k f := mt_leaf (ms_pushi (e := (.bipush (-6), 16, 0, 0, 0)) rfl (fun _ _ _ => rfl) (by decide) : mo_Sim 89 14 (ma_push (ma_ci (.negSucc 5)) 16)) (mt_leaf (ms_ret (e := (.ireturn, 17, 0, 0, 0)) rfl (Or.inl ⟨rfl, rfl, (fun _ _ _ => rfl)⟩) : mo_Sim 89 16 (ma_ret 0)) (mt_leaf (ms_ald (e := (.aload_n 0, 18, 0, 0, 0)) rfl (fun _ _ _ => rfl) : mo_Sim 89 17 (ma_lda 0 18)) (mt_leaf (ms_getf (e := (.getfield 11, 21, 10, 0, 158)) rfl (fun _ _ _ => rfl) : mo_Sim 89 18 (ma_getf 10 0 21)) (mt_none))))
set_option maxRecDepth 100000 in
theorem smt89_7 (k : Nat) : ∀ f, mt89_7 k = some f → mo_Sim 89 k f := mt_leaf (ms_ild (e := (.iload_n 1, 22, 0, 0, 0)) rfl (fun _ _ _ => rfl) : mo_Sim 89 21 (ma_load 0 1 22)) (mt_leaf (ms_pushi (e := (.bipush 40, 24, 0, 0, 0)) rfl (fun _ _ _ => rfl) (by decide) : mo_Sim 89 22 (ma_push (ma_ci (.ofNat 40)) 24)) (mt_leaf (ms_i2 (e := (.imul, 25, 0, 0, 0)) rfl (fun _ _ _ => rfl) hf_mul : mo_Sim 89 24 (ma_i2 ma_fmul 24 25)) (mt_leaf (ms_ild (e := (.iload_n 2, 26, 0, 0, 0)) rfl (fun _ _ _ => rfl) : mo_Sim 89 25 (ma_load 0 2 26)) (mt_none))))
set_option maxRecDepth 100000 in
theorem smt89_5 (k : Nat) : ∀ f, mt89_5 k = some f → mo_Sim 89 k f := mt_node (smt89_6 k) (smt89_7 k)
set_option maxRecDepth 100000 in
theorem smt89_1 (k : Nat) : ∀ f, mt89_1 k = some f → mo_Sim 89 k f := mt_node (smt89_2 k) (smt89_5 k)
set_option maxRecDepth 100000 in
theorem smt89_10 (k : Nat) : ∀ f, mt89_10 k = some f → mo_Sim 89 k f := mt_leaf (ms_iadd (e := (.iadd, 27, 0, 0, 0)) rfl (fun _ _ _ => rfl) : mo_Sim 89 26 (ma_iadd 26 27)) (mt_leaf (ms_lald (e := (.laload, 28, 0, 0, 0)) rfl (fun _ _ _ => rfl) : mo_Sim 89 27 (ma_lald 28)) (mt_leaf (ms_lst (e := (.lstore 4, 30, 0, 0, 0)) rfl (fun _ _ _ => rfl) : mo_Sim 89 28 (ma_stol 4 30)) (mt_leaf (ms_lld (e := (.lload 4, 32, 0, 0, 0)) rfl (fun _ _ _ => rfl) : mo_Sim 89 30 (ma_load 2 4 32)) (mt_none))))
set_option maxRecDepth 100000 in
theorem smt89_11 (k : Nat) : ∀ f, mt89_11 k = some f → mo_Sim 89 k f := mt_leaf (ms_pushl (e := (.lconst 0, 33, 0, 0, 0)) rfl (fun _ _ _ => rfl) (by decide) : mo_Sim 89 32 (ma_push (ma_cl (.ofNat 0)) 33)) (mt_leaf (ms_lcmp (e := (.lcmp, 34, 0, 0, 0)) rfl (fun _ _ _ => rfl) : mo_Sim 89 33 (ma_lcmp 34)) (mt_leaf (ms_if0 (e := (.ifCond .lt 11, 37, 45, 0, 0)) rfl (fun _ _ _ => rfl) : mo_Sim 89 34 (ma_if0 .lt 45 34 37)) (mt_leaf (ms_lld (e := (.lload 4, 39, 0, 0, 0)) rfl (fun _ _ _ => rfl) : mo_Sim 89 37 (ma_load 2 4 39)) (mt_none))))
set_option maxRecDepth 100000 in
theorem smt89_9 (k : Nat) : ∀ f, mt89_9 k = some f → mo_Sim 89 k f := mt_node (smt89_10 k) (smt89_11 k)
set_option maxRecDepth 100000 in
theorem smt89_13 (k : Nat) : ∀ f, mt89_13 k = some f → mo_Sim 89 k f := mt_leaf (ms_ild (e := (.iload_n 3, 40, 0, 0, 0)) rfl (fun _ _ _ => rfl) : mo_Sim 89 39 (ma_load 0 3 40)) (mt_leaf (ms_i2l (e := (.i2l, 41, 0, 0, 0)) rfl (fun _ _ _ => rfl) : mo_Sim 89 40 (ma_i2l 41)) (mt_leaf (ms_lcmp (e := (.lcmp, 42, 0, 0, 0)) rfl (fun _ _ _ => rfl) : mo_Sim 89 41 (ma_lcmp 42)) (mt_leaf (ms_if0 (e := (.ifCond .le 6, 45, 48, 0, 0)) rfl (fun _ _ _ => rfl) : mo_Sim 89 42 (ma_if0 .le 48 42 45)) (mt_none))))
set_option maxRecDepth 100000 in
theorem smt89_15 (k : Nat) : ∀ f, mt89_15 k = some f → mo_Sim 89 k f := mt_leaf (ms_pushi (e := (.bipush (-4), 47, 0, 0, 0)) rfl (fun _ _ _ => rfl) (by decide) : mo_Sim 89 45 (ma_push (ma_ci (.negSucc 3)) 47)) (mt_leaf (ms_ret (e := (.ireturn, 48, 0, 0, 0)) rfl (Or.inl ⟨rfl, rfl, (fun _ _ _ => rfl)⟩) : mo_Sim 89 47 (ma_ret 0)) (mt_none))
set_option maxRecDepth 100000 in
theorem smt89_16 (k : Nat) : ∀ f, mt89_16 k = some f → mo_Sim 89 k f := mt_leaf (ms_lld (e := (.lload 4, 50, 0, 0, 0)) rfl (fun _ _ _ => rfl) : mo_Sim 89 48 (ma_load 2 4 50)) (mt_leaf (ms_l2i (e := (.l2i, 51, 0, 0, 0)) rfl (fun _ _ _ => rfl) : mo_Sim 89 50 (ma_l2i 51)) (mt_leaf (ms_ret (e := (.ireturn, 52, 0, 0, 0)) rfl (Or.inl ⟨rfl, rfl, (fun _ _ _ => rfl)⟩) : mo_Sim 89 51 (ma_ret 0)) (mt_none)))
set_option maxRecDepth 100000 in
theorem smt89_14 (k : Nat) : ∀ f, mt89_14 k = some f → mo_Sim 89 k f := mt_node (smt89_15 k) (smt89_16 k)
set_option maxRecDepth 100000 in
theorem smt89_12 (k : Nat) : ∀ f, mt89_12 k = some f → mo_Sim 89 k f := mt_node (smt89_13 k) (smt89_14 k)
set_option maxRecDepth 100000 in
theorem smt89_8 (k : Nat) : ∀ f, mt89_8 k = some f → mo_Sim 89 k f := mt_node (smt89_9 k) (smt89_12 k)
set_option maxRecDepth 100000 in
theorem smt89_0 (k : Nat) : ∀ f, mt89_0 k = some f → mo_Sim 89 k f := mt_node (smt89_1 k) (smt89_8 k)
set_option maxRecDepth 100000 in
theorem smt90_2 (k : Nat) : ∀ f, mt90_2 k = some f → mo_Sim 90 k f := mt_leaf (ms_pushi (e := (.iconst 0, 1, 0, 0, 0)) rfl (fun _ _ _ => rfl) (by decide) : mo_Sim 90 0 (ma_push (ma_ci (.ofNat 0)) 1)) (mt_leaf (ms_ist (e := (.istore_n 1, 2, 0, 0, 0)) rfl (fun _ _ _ => rfl) : mo_Sim 90 1 (ma_stor 0 1 2)) (mt_leaf (ms_pushi (e := (.iconst 0, 3, 0, 0, 0)) rfl (fun _ _ _ => rfl) (by decide) : mo_Sim 90 2 (ma_push (ma_ci (.ofNat 0)) 3)) (mt_leaf (ms_ist (e := (.istore_n 2, 4, 0, 0, 0)) rfl (fun _ _ _ => rfl) : mo_Sim 90 3 (ma_stor 0 2 4)) (mt_none))))
set_option maxRecDepth 100000 in
theorem smt90_3 (k : Nat) : ∀ f, mt90_3 k = some f → mo_Sim 90 k f := mt_leaf (ms_ild (e := (.iload_n 2, 5, 0, 0, 0)) rfl (fun _ _ _ => rfl) : mo_Sim 90 4 (ma_load 0 2 5)) (mt_leaf (ms_pushi (e := (.bipush 8, 7, 0, 0, 0)) rfl (fun _ _ _ => rfl) (by decide) : mo_Sim 90 5 (ma_push (ma_ci (.ofNat 8)) 7)) (mt_leaf (ms_if2 (e := (.if_icmp .ge 21, 10, 28, 0, 0)) rfl (fun _ _ _ => rfl) : mo_Sim 90 7 (ma_if2 .ge 28 7 10)) (mt_leaf (ms_ald (e := (.aload_n 0, 11, 0, 0, 0)) rfl (fun _ _ _ => rfl) : mo_Sim 90 10 (ma_lda 0 11)) (mt_none))))
set_option maxRecDepth 100000 in
theorem smt90_1 (k : Nat) : ∀ f, mt90_1 k = some f → mo_Sim 90 k f := mt_node (smt90_2 k) (smt90_3 k)
set_option maxRecDepth 100000 in
theorem smt90_5 (k : Nat) : ∀ f, mt90_5 k = some f → mo_Sim 90 k f := mt_leaf (ms_getf (e := (.getfield 19, 14, 10, 2, 160)) rfl (fun _ _ _ => rfl) : mo_Sim 90 11 (ma_getf 10 2 14)) (mt_leaf (ms_ild (e := (.iload_n 2, 15, 0, 0, 0)) rfl (fun _ _ _ => rfl) : mo_Sim 90 14 (ma_load 0 2 15)) (mt_leaf (ms_iald (e := (.iaload, 16, 0, 0, 0)) rfl (fun _ _ _ => rfl) : mo_Sim 90 15 (ma_iald 15 16)) (mt_leaf (ms_if0 (e := (.ifCond .lt 6, 19, 22, 0, 0)) rfl (fun _ _ _ => rfl) : mo_Sim 90 16 (ma_if0 .lt 22 16 19)) (mt_none))))
set_option maxRecDepth 100000 in
theorem smt90_7 (k : Nat) : ∀ f, mt90_7 k = some f → mo_Sim 90 k f := mt_leaf (ms_iinc (e := (.iinc 1 1, 22, 0, 0, 0)) rfl (fun _ _ _ => rfl) (by decide) : mo_Sim 90 19 (ma_iinc 1 (.ofNat 1) 19 22)) (mt_leaf (ms_iinc (e := (.iinc 2 1, 25, 0, 0, 0)) rfl (fun _ _ _ => rfl) (by decide) : mo_Sim 90 22 (ma_iinc 2 (.ofNat 1) 22 25)) (mt_none))
set_option maxRecDepth 100000 in
theorem smt90_8 (k : Nat) : ∀ f, mt90_8 k = some f → mo_Sim 90 k f := mt_leaf (ms_goto (e := (.goto (-21), 28, 4, 0, 0)) rfl (fun _ _ _ => rfl) : mo_Sim 90 25 (ma_goto 4)) (mt_leaf (ms_ild (e := (.iload_n 1, 29, 0, 0, 0)) rfl (fun _ _ _ => rfl) : mo_Sim 90 28 (ma_load 0 1 29)) (mt_leaf (ms_ret (e := (.ireturn, 30, 0, 0, 0)) rfl (Or.inl ⟨rfl, rfl, (fun _ _ _ => rfl)⟩) : mo_Sim 90 29 (ma_ret 0)) (mt_none)))
set_option maxRecDepth 100000 in
theorem smt90_6 (k : Nat) : ∀ f, mt90_6 k = some f → mo_Sim 90 k f := mt_node (smt90_7 k) (smt90_8 k)
set_option maxRecDepth 100000 in
theorem smt90_4 (k : Nat) : ∀ f, mt90_4 k = some f → mo_Sim 90 k f := mt_node (smt90_5 k) (smt90_6 k)
set_option maxRecDepth 100000 in
theorem smt90_0 (k : Nat) : ∀ f, mt90_0 k = some f → mo_Sim 90 k f := mt_node (smt90_1 k) (smt90_4 k)
set_option maxRecDepth 100000 in
theorem smt91_2 (k : Nat) : ∀ f, mt91_2 k = some f → mo_Sim 91 k f := mt_leaf (ms_ild (e := (.iload_n 3, 1, 0, 0, 0)) rfl (fun _ _ _ => rfl) : mo_Sim 91 0 (ma_load 0 3 1)) (mt_leaf (ms_isw (nx := 28) (e := (.tableswitch 41 0 2 #[27, 32, 37], 28, 0, 0, 0)) rfl (fun _ _ _ => rfl) (by decide) (by decide) (by decide) : mo_Sim 91 1 (ma_sw [28, 33, 38] 42 1)) (mt_leaf (ms_lld (e := (.lload_n 1, 29, 0, 0, 0)) rfl (fun _ _ _ => rfl) : mo_Sim 91 28 (ma_load 2 1 29)) (mt_leaf (ms_l2i (e := (.l2i, 30, 0, 0, 0)) rfl (fun _ _ _ => rfl) : mo_Sim 91 29 (ma_l2i 30)) (mt_none))))
set_option maxRecDepth 100000 in
theorem smt91_4 (k : Nat) : ∀ f, mt91_4 k = some f → mo_Sim 91 k f := mt_leaf (ms_i1 (e := (.i2b, 31, 0, 0, 0)) rfl (fun _ _ _ => rfl) hh_b : mo_Sim 91 30 (ma_i1 ma_hb 30 31)) (mt_leaf (ms_i2l (e := (.i2l, 32, 0, 0, 0)) rfl (fun _ _ _ => rfl) : mo_Sim 91 31 (ma_i2l 32)) (mt_none))
set_option maxRecDepth 100000 in
theorem smt91_5 (k : Nat) : ∀ f, mt91_5 k = some f → mo_Sim 91 k f := mt_leaf (ms_ret (e := (.lreturn, 33, 0, 0, 0)) rfl (Or.inr (Or.inr (Or.inr ⟨rfl, rfl, (fun _ _ _ => rfl)⟩))) : mo_Sim 91 32 (ma_ret 3)) (mt_leaf (ms_lld (e := (.lload_n 1, 34, 0, 0, 0)) rfl (fun _ _ _ => rfl) : mo_Sim 91 33 (ma_load 2 1 34)) (mt_leaf (ms_l2i (e := (.l2i, 35, 0, 0, 0)) rfl (fun _ _ _ => rfl) : mo_Sim 91 34 (ma_l2i 35)) (mt_none)))
set_option maxRecDepth 100000 in
theorem smt91_3 (k : Nat) : ∀ f, mt91_3 k = some f → mo_Sim 91 k f := mt_node (smt91_4 k) (smt91_5 k)
set_option maxRecDepth 100000 in
theorem smt91_1 (k : Nat) : ∀ f, mt91_1 k = some f → mo_Sim 91 k f := mt_node (smt91_2 k) (smt91_3 k)
set_option maxRecDepth 100000 in
theorem smt91_7 (k : Nat) : ∀ f, mt91_7 k = some f → mo_Sim 91 k f := mt_leaf (ms_i1 (e := (.i2s, 36, 0, 0, 0)) rfl (fun _ _ _ => rfl) hh_s : mo_Sim 91 35 (ma_i1 ma_hs 35 36)) (mt_leaf (ms_i2l (e := (.i2l, 37, 0, 0, 0)) rfl (fun _ _ _ => rfl) : mo_Sim 91 36 (ma_i2l 37)) (mt_leaf (ms_ret (e := (.lreturn, 38, 0, 0, 0)) rfl (Or.inr (Or.inr (Or.inr ⟨rfl, rfl, (fun _ _ _ => rfl)⟩))) : mo_Sim 91 37 (ma_ret 3)) (mt_leaf (ms_lld (e := (.lload_n 1, 39, 0, 0, 0)) rfl (fun _ _ _ => rfl) : mo_Sim 91 38 (ma_load 2 1 39)) (mt_none))))
set_option maxRecDepth 100000 in
theorem smt91_9 (k : Nat) : ∀ f, mt91_9 k = some f → mo_Sim 91 k f := mt_leaf (ms_l2i (e := (.l2i, 40, 0, 0, 0)) rfl (fun _ _ _ => rfl) : mo_Sim 91 39 (ma_l2i 40)) (mt_leaf (ms_i2l (e := (.i2l, 41, 0, 0, 0)) rfl (fun _ _ _ => rfl) : mo_Sim 91 40 (ma_i2l 41)) (mt_none))
set_option maxRecDepth 100000 in
theorem smt91_10 (k : Nat) : ∀ f, mt91_10 k = some f → mo_Sim 91 k f := mt_leaf (ms_ret (e := (.lreturn, 42, 0, 0, 0)) rfl (Or.inr (Or.inr (Or.inr ⟨rfl, rfl, (fun _ _ _ => rfl)⟩))) : mo_Sim 91 41 (ma_ret 3)) (mt_leaf (ms_lld (e := (.lload_n 1, 43, 0, 0, 0)) rfl (fun _ _ _ => rfl) : mo_Sim 91 42 (ma_load 2 1 43)) (mt_leaf (ms_ret (e := (.lreturn, 44, 0, 0, 0)) rfl (Or.inr (Or.inr (Or.inr ⟨rfl, rfl, (fun _ _ _ => rfl)⟩))) : mo_Sim 91 43 (ma_ret 3)) (mt_none)))
set_option maxRecDepth 100000 in
theorem smt91_8 (k : Nat) : ∀ f, mt91_8 k = some f → mo_Sim 91 k f := mt_node (smt91_9 k) (smt91_10 k)
set_option maxRecDepth 100000 in
theorem smt91_6 (k : Nat) : ∀ f, mt91_6 k = some f → mo_Sim 91 k f := mt_node (smt91_7 k) (smt91_8 k)
set_option maxRecDepth 100000 in
theorem smt91_0 (k : Nat) : ∀ f, mt91_0 k = some f → mo_Sim 91 k f := mt_node (smt91_1 k) (smt91_6 k)
set_option maxRecDepth 100000 in
theorem smt92_5 (k : Nat) : ∀ f, mt92_5 k = some f → mo_Sim 92 k f := mt_leaf (ms_ald (e := (.aload_n 0, 1, 0, 0, 0)) rfl (fun _ _ _ => rfl) : mo_Sim 92 0 (ma_lda 0 1)) (mt_leaf (ms_obj (e := (.invokespecial 1, 4, 0, 4, 98)) rfl (fun _ _ _ => rfl) : mo_Sim 92 1 (ma_obj 4)) (mt_leaf (ms_ald (e := (.aload_n 0, 5, 0, 0, 0)) rfl (fun _ _ _ => rfl) : mo_Sim 92 4 (ma_lda 0 5)) (mt_none)))
set_option maxRecDepth 100000 in
theorem smt92_6 (k : Nat) : ∀ f, mt92_6 k = some f → mo_Sim 92 k f := mt_leaf (ms_newo (e := (.new 7, 8, 1, 0, 101)) rfl rfl (fun _ _ _ => rfl) rfl mo_bl_1 : mo_Sim 92 5 (ma_new (1, .inl [ma_ci (.ofNat 0), ma_ci (.ofNat 0), ma_null, ma_null, ma_null]) 8)) (mt_leaf (ms_dup (e := (.dup, 9, 0, 0, 0)) rfl (fun _ _ _ => rfl) : mo_Sim 92 8 (ma_dup 9)) (mt_leaf (ms_invI (p := 0) (e := (.invokespecial 9, 12, 10, 3, 103)) rfl rfl (fun _ _ _ => rfl) rfl rfl : mo_Sim 92 9 (ma_inv 10 1 1 21 12)) (mt_leaf (ms_putf (e := (.putfield 10, 15, 11, 0, 460)) rfl rfl (fun _ _ _ => rfl) (Or.inr (Or.inr (Or.inl ⟨rfl, Or.inl ⟨_, rfl⟩⟩))) : mo_Sim 92 12 (ma_putf 11 0 2 15)) (mt_none))))
set_option maxRecDepth 100000 in
theorem smt92_4 (k : Nat) : ∀ f, mt92_4 k = some f → mo_Sim 92 k f := mt_node (smt92_5 k) (smt92_6 k)
set_option maxRecDepth 100000 in
theorem smt92_8 (k : Nat) : ∀ f, mt92_8 k = some f → mo_Sim 92 k f := mt_leaf (ms_ald (e := (.aload_n 0, 16, 0, 0, 0)) rfl (fun _ _ _ => rfl) : mo_Sim 92 15 (ma_lda 0 16)) (mt_leaf (ms_newo (e := (.new 16, 19, 10, 0, 149)) rfl rfl (fun _ _ _ => rfl) rfl mo_bl_10 : mo_Sim 92 16 (ma_new (10, .inl [ma_null, ma_null, ma_null]) 19)) (mt_leaf (ms_dup (e := (.dup, 20, 0, 0, 0)) rfl (fun _ _ _ => rfl) : mo_Sim 92 19 (ma_dup 20)) (mt_none)))
set_option maxRecDepth 100000 in
theorem smt92_9 (k : Nat) : ∀ f, mt92_9 k = some f → mo_Sim 92 k f := mt_leaf (ms_invI (p := 0) (e := (.invokespecial 18, 23, 83, 2, 151)) rfl rfl (fun _ _ _ => rfl) rfl rfl : mo_Sim 92 20 (ma_inv 83 1 1 21 23)) (mt_leaf (ms_putf (e := (.putfield 19, 26, 11, 1, 461)) rfl rfl (fun _ _ _ => rfl) (Or.inr (Or.inr (Or.inl ⟨rfl, Or.inl ⟨_, rfl⟩⟩))) : mo_Sim 92 23 (ma_putf 11 1 2 26)) (mt_leaf (ms_ald (e := (.aload_n 0, 27, 0, 0, 0)) rfl (fun _ _ _ => rfl) : mo_Sim 92 26 (ma_lda 0 27)) (mt_leaf (ms_pushi (e := (.bipush 8, 29, 0, 0, 0)) rfl (fun _ _ _ => rfl) (by decide) : mo_Sim 92 27 (ma_push (ma_ci (.ofNat 8)) 29)) (mt_none))))
set_option maxRecDepth 100000 in
theorem smt92_7 (k : Nat) : ∀ f, mt92_7 k = some f → mo_Sim 92 k f := mt_node (smt92_8 k) (smt92_9 k)
set_option maxRecDepth 100000 in
theorem smt92_3 (k : Nat) : ∀ f, mt92_3 k = some f → mo_Sim 92 k f := mt_node (smt92_4 k) (smt92_7 k)
set_option maxRecDepth 100000 in
theorem smt92_12 (k : Nat) : ∀ f, mt92_12 k = some f → mo_Sim 92 k f := mt_leaf (ms_anew (e := (.anewarray 23, 32, 0, 15, 169)) rfl rfl (fun _ _ _ => rfl) : mo_Sim 92 29 (ma_newa 15 ma_null 32)) (mt_leaf (ms_putf (e := (.putfield 25, 35, 11, 2, 462)) rfl rfl (fun _ _ _ => rfl) (Or.inr (Or.inr (Or.inl ⟨rfl, Or.inr ⟨_, rfl⟩⟩))) : mo_Sim 92 32 (ma_putf 11 2 2 35)) (mt_leaf (ms_ald (e := (.aload_n 0, 36, 0, 0, 0)) rfl (fun _ _ _ => rfl) : mo_Sim 92 35 (ma_lda 0 36)) (mt_none)))
set_option maxRecDepth 100000 in
theorem smt92_13 (k : Nat) : ∀ f, mt92_13 k = some f → mo_Sim 92 k f := mt_leaf (ms_pushi (e := (.bipush 12, 38, 0, 0, 0)) rfl (fun _ _ _ => rfl) (by decide) : mo_Sim 92 36 (ma_push (ma_ci (.ofNat 12)) 38)) (mt_leaf (ms_anew (e := (.anewarray 29, 41, 4, 16, 171)) rfl rfl (fun _ _ _ => rfl) : mo_Sim 92 38 (ma_newa 16 ma_null 41)) (mt_leaf (ms_putf (e := (.putfield 31, 44, 11, 3, 463)) rfl rfl (fun _ _ _ => rfl) (Or.inr (Or.inr (Or.inl ⟨rfl, Or.inr ⟨_, rfl⟩⟩))) : mo_Sim 92 41 (ma_putf 11 3 2 44)) (mt_leaf (ms_ald (e := (.aload_n 0, 45, 0, 0, 0)) rfl (fun _ _ _ => rfl) : mo_Sim 92 44 (ma_lda 0 45)) (mt_none))))
set_option maxRecDepth 100000 in
theorem smt92_11 (k : Nat) : ∀ f, mt92_11 k = some f → mo_Sim 92 k f := mt_node (smt92_12 k) (smt92_13 k)
set_option maxRecDepth 100000 in
theorem smt92_15 (k : Nat) : ∀ f, mt92_15 k = some f → mo_Sim 92 k f := mt_leaf (ms_pushi (e := (.iconst 3, 46, 0, 0, 0)) rfl (fun _ _ _ => rfl) (by decide) : mo_Sim 92 45 (ma_push (ma_ci (.ofNat 3)) 46)) (mt_leaf (ms_anew (e := (.anewarray 35, 49, 6, 17, 173)) rfl rfl (fun _ _ _ => rfl) : mo_Sim 92 46 (ma_newa 17 ma_null 49)) (mt_leaf (ms_putf (e := (.putfield 37, 52, 11, 4, 464)) rfl rfl (fun _ _ _ => rfl) (Or.inr (Or.inr (Or.inl ⟨rfl, Or.inr ⟨_, rfl⟩⟩))) : mo_Sim 92 49 (ma_putf 11 4 2 52)) (mt_leaf (ms_ald (e := (.aload_n 0, 53, 0, 0, 0)) rfl (fun _ _ _ => rfl) : mo_Sim 92 52 (ma_lda 0 53)) (mt_none))))
set_option maxRecDepth 100000 in
theorem smt92_16 (k : Nat) : ∀ f, mt92_16 k = some f → mo_Sim 92 k f := mt_leaf (ms_newo (e := (.new 41, 56, 7, 0, 175)) rfl rfl (fun _ _ _ => rfl) rfl mo_bl_7 : mo_Sim 92 53 (ma_new (7, .inl [ma_null, ma_null, ma_null, ma_null, ma_null, ma_null, ma_null, ma_null, ma_null, ma_null, ma_ci (.ofNat 0), ma_ci (.ofNat 0)]) 56)) (mt_leaf (ms_dup (e := (.dup, 57, 0, 0, 0)) rfl (fun _ _ _ => rfl) : mo_Sim 92 56 (ma_dup 57)) (mt_leaf (ms_invI (p := 0) (e := (.invokespecial 43, 60, 48, 3, 177)) rfl rfl (fun _ _ _ => rfl) rfl rfl : mo_Sim 92 57 (ma_inv 48 1 1 21 60)) (mt_leaf (ms_putf (e := (.putfield 44, 63, 11, 5, 465)) rfl rfl (fun _ _ _ => rfl) (Or.inr (Or.inr (Or.inl ⟨rfl, Or.inl ⟨_, rfl⟩⟩))) : mo_Sim 92 60 (ma_putf 11 5 2 63)) (mt_none))))
set_option maxRecDepth 100000 in
theorem smt92_14 (k : Nat) : ∀ f, mt92_14 k = some f → mo_Sim 92 k f := mt_node (smt92_15 k) (smt92_16 k)
set_option maxRecDepth 100000 in
theorem smt92_10 (k : Nat) : ∀ f, mt92_10 k = some f → mo_Sim 92 k f := mt_node (smt92_11 k) (smt92_14 k)
set_option maxRecDepth 100000 in
theorem smt92_2 (k : Nat) : ∀ f, mt92_2 k = some f → mo_Sim 92 k f := mt_node (smt92_3 k) (smt92_10 k)
set_option maxRecDepth 100000 in
theorem smt92_20 (k : Nat) : ∀ f, mt92_20 k = some f → mo_Sim 92 k f := mt_leaf (ms_ald (e := (.aload_n 0, 64, 0, 0, 0)) rfl (fun _ _ _ => rfl) : mo_Sim 92 63 (ma_lda 0 64)) (mt_leaf (ms_newo (e := (.new 48, 67, 9, 0, 241)) rfl rfl (fun _ _ _ => rfl) rfl mo_bl_9 : mo_Sim 92 64 (ma_new (9, .inl [ma_ci (.ofNat 0), ma_ci (.ofNat 0), ma_null, ma_null, ma_null, ma_null, ma_null]) 67)) (mt_leaf (ms_dup (e := (.dup, 68, 0, 0, 0)) rfl (fun _ _ _ => rfl) : mo_Sim 92 67 (ma_dup 68)) (mt_none)))
set_option maxRecDepth 100000 in
theorem smt92_21 (k : Nat) : ∀ f, mt92_21 k = some f → mo_Sim 92 k f := mt_leaf (ms_invI (p := 0) (e := (.invokespecial 50, 71, 73, 3, 243)) rfl rfl (fun _ _ _ => rfl) rfl rfl : mo_Sim 92 68 (ma_inv 73 1 1 21 71)) (mt_leaf (ms_putf (e := (.putfield 51, 74, 11, 6, 466)) rfl rfl (fun _ _ _ => rfl) (Or.inr (Or.inr (Or.inl ⟨rfl, Or.inl ⟨_, rfl⟩⟩))) : mo_Sim 92 71 (ma_putf 11 6 2 74)) (mt_leaf (ms_ald (e := (.aload_n 0, 75, 0, 0, 0)) rfl (fun _ _ _ => rfl) : mo_Sim 92 74 (ma_lda 0 75)) (mt_leaf (ms_newo (e := (.new 55, 78, 8, 0, 276)) rfl rfl (fun _ _ _ => rfl) rfl mo_bl_8 : mo_Sim 92 75 (ma_new (8, .inl [ma_null, ma_null, ma_null, ma_null, ma_null, ma_ci (.ofNat 0), ma_ci (.ofNat 0), ma_ci (.ofNat 0)]) 78)) (mt_none))))
set_option maxRecDepth 100000 in
theorem smt92_19 (k : Nat) : ∀ f, mt92_19 k = some f → mo_Sim 92 k f := mt_node (smt92_20 k) (smt92_21 k)
set_option maxRecDepth 100000 in
theorem smt92_23 (k : Nat) : ∀ f, mt92_23 k = some f → mo_Sim 92 k f := mt_leaf (ms_dup (e := (.dup, 79, 0, 0, 0)) rfl (fun _ _ _ => rfl) : mo_Sim 92 78 (ma_dup 79)) (mt_leaf (ms_invI (p := 0) (e := (.invokespecial 57, 82, 63, 3, 278)) rfl rfl (fun _ _ _ => rfl) rfl rfl : mo_Sim 92 79 (ma_inv 63 1 1 21 82)) (mt_leaf (ms_putf (e := (.putfield 58, 85, 11, 7, 467)) rfl rfl (fun _ _ _ => rfl) (Or.inr (Or.inr (Or.inl ⟨rfl, Or.inl ⟨_, rfl⟩⟩))) : mo_Sim 92 82 (ma_putf 11 7 2 85)) (mt_none)))
set_option maxRecDepth 100000 in
theorem smt92_24 (k : Nat) : ∀ f, mt92_24 k = some f → mo_Sim 92 k f := mt_leaf (ms_ald (e := (.aload_n 0, 86, 0, 0, 0)) rfl (fun _ _ _ => rfl) : mo_Sim 92 85 (ma_lda 0 86)) (mt_leaf (ms_newo (e := (.new 62, 89, 2, 0, 308)) rfl rfl (fun _ _ _ => rfl) rfl mo_bl_2 : mo_Sim 92 86 (ma_new (2, .inl [ma_ci (.ofNat 0), ma_ci (.ofNat 0), ma_ci (.ofNat 0), ma_ci (.ofNat 0), ma_null, ma_ci (.ofNat 0)]) 89)) (mt_leaf (ms_dup (e := (.dup, 90, 0, 0, 0)) rfl (fun _ _ _ => rfl) : mo_Sim 92 89 (ma_dup 90)) (mt_leaf (ms_invI (p := 0) (e := (.invokespecial 64, 93, 19, 3, 310)) rfl rfl (fun _ _ _ => rfl) rfl rfl : mo_Sim 92 90 (ma_inv 19 1 1 21 93)) (mt_none))))
set_option maxRecDepth 100000 in
theorem smt92_22 (k : Nat) : ∀ f, mt92_22 k = some f → mo_Sim 92 k f := mt_node (smt92_23 k) (smt92_24 k)
set_option maxRecDepth 100000 in
theorem smt92_18 (k : Nat) : ∀ f, mt92_18 k = some f → mo_Sim 92 k f := mt_node (smt92_19 k) (smt92_22 k)
set_option maxRecDepth 100000 in
theorem smt92_27 (k : Nat) : ∀ f, mt92_27 k = some f → mo_Sim 92 k f := mt_leaf (ms_putf (e := (.putfield 65, 96, 11, 8, 468)) rfl rfl (fun _ _ _ => rfl) (Or.inr (Or.inr (Or.inl ⟨rfl, Or.inl ⟨_, rfl⟩⟩))) : mo_Sim 92 93 (ma_putf 11 8 2 96)) (mt_leaf (ms_ald (e := (.aload_n 0, 97, 0, 0, 0)) rfl (fun _ _ _ => rfl) : mo_Sim 92 96 (ma_lda 0 97)) (mt_leaf (ms_newo (e := (.new 69, 100, 3, 0, 336)) rfl rfl (fun _ _ _ => rfl) rfl mo_bl_3 : mo_Sim 92 97 (ma_new (3, .inl [ma_null, ma_ci (.ofNat 0)]) 100)) (mt_none)))
set_option maxRecDepth 100000 in
theorem smt92_28 (k : Nat) : ∀ f, mt92_28 k = some f → mo_Sim 92 k f := mt_leaf (ms_dup (e := (.dup, 101, 0, 0, 0)) rfl (fun _ _ _ => rfl) : mo_Sim 92 100 (ma_dup 101)) (mt_leaf (ms_pushi (e := (.sipush 19683, 104, 0, 0, 0)) rfl (fun _ _ _ => rfl) (by decide) : mo_Sim 92 101 (ma_push (ma_ci (.ofNat 19683)) 104)) (mt_leaf (ms_invI (p := 1) (e := (.invokespecial 71, 107, 30, 2, 338)) rfl rfl (fun _ _ _ => rfl) rfl rfl : mo_Sim 92 104 (ma_inv 30 2 2 21 107)) (mt_leaf (ms_putf (e := (.putfield 74, 110, 11, 9, 469)) rfl rfl (fun _ _ _ => rfl) (Or.inr (Or.inr (Or.inl ⟨rfl, Or.inl ⟨_, rfl⟩⟩))) : mo_Sim 92 107 (ma_putf 11 9 2 110)) (mt_none))))
set_option maxRecDepth 100000 in
theorem smt92_26 (k : Nat) : ∀ f, mt92_26 k = some f → mo_Sim 92 k f := mt_node (smt92_27 k) (smt92_28 k)
set_option maxRecDepth 100000 in
theorem smt92_30 (k : Nat) : ∀ f, mt92_30 k = some f → mo_Sim 92 k f := mt_leaf (ms_ald (e := (.aload_n 0, 111, 0, 0, 0)) rfl (fun _ _ _ => rfl) : mo_Sim 92 110 (ma_lda 0 111)) (mt_leaf (ms_newo (e := (.new 69, 114, 3, 0, 336)) rfl rfl (fun _ _ _ => rfl) rfl mo_bl_3 : mo_Sim 92 111 (ma_new (3, .inl [ma_null, ma_ci (.ofNat 0)]) 114)) (mt_leaf (ms_dup (e := (.dup, 115, 0, 0, 0)) rfl (fun _ _ _ => rfl) : mo_Sim 92 114 (ma_dup 115)) (mt_leaf (ms_pushi (e := (.sipush 6561, 118, 0, 0, 0)) rfl (fun _ _ _ => rfl) (by decide) : mo_Sim 92 115 (ma_push (ma_ci (.ofNat 6561)) 118)) (mt_none))))
set_option maxRecDepth 100000 in
theorem smt92_31 (k : Nat) : ∀ f, mt92_31 k = some f → mo_Sim 92 k f := mt_leaf (ms_invI (p := 1) (e := (.invokespecial 71, 121, 30, 2, 338)) rfl rfl (fun _ _ _ => rfl) rfl rfl : mo_Sim 92 118 (ma_inv 30 2 2 21 121)) (mt_leaf (ms_putf (e := (.putfield 78, 124, 11, 10, 470)) rfl rfl (fun _ _ _ => rfl) (Or.inr (Or.inr (Or.inl ⟨rfl, Or.inl ⟨_, rfl⟩⟩))) : mo_Sim 92 121 (ma_putf 11 10 2 124)) (mt_leaf (ms_ald (e := (.aload_n 0, 125, 0, 0, 0)) rfl (fun _ _ _ => rfl) : mo_Sim 92 124 (ma_lda 0 125)) (mt_leaf (ms_newo (e := (.new 29, 128, 4, 0, 171)) rfl rfl (fun _ _ _ => rfl) rfl mo_bl_4 : mo_Sim 92 125 (ma_new (4, .inl [ma_ci (.ofNat 0), ma_ci (.ofNat 0), ma_ci (.ofNat 0), ma_ci (.ofNat 0), ma_null]) 128)) (mt_none))))
set_option maxRecDepth 100000 in
theorem smt92_29 (k : Nat) : ∀ f, mt92_29 k = some f → mo_Sim 92 k f := mt_node (smt92_30 k) (smt92_31 k)
set_option maxRecDepth 100000 in
theorem smt92_25 (k : Nat) : ∀ f, mt92_25 k = some f → mo_Sim 92 k f := mt_node (smt92_26 k) (smt92_29 k)
set_option maxRecDepth 100000 in
theorem smt92_17 (k : Nat) : ∀ f, mt92_17 k = some f → mo_Sim 92 k f := mt_node (smt92_18 k) (smt92_25 k)
set_option maxRecDepth 100000 in
theorem smt92_1 (k : Nat) : ∀ f, mt92_1 k = some f → mo_Sim 92 k f := mt_node (smt92_2 k) (smt92_17 k)
set_option maxRecDepth 100000 in
theorem smt92_36 (k : Nat) : ∀ f, mt92_36 k = some f → mo_Sim 92 k f := mt_leaf (ms_dup (e := (.dup, 129, 0, 0, 0)) rfl (fun _ _ _ => rfl) : mo_Sim 92 128 (ma_dup 129)) (mt_leaf (ms_invI (p := 0) (e := (.invokespecial 81, 132, 35, 3, 354)) rfl rfl (fun _ _ _ => rfl) rfl rfl : mo_Sim 92 129 (ma_inv 35 1 1 21 132)) (mt_leaf (ms_putf (e := (.putfield 82, 135, 11, 11, 471)) rfl rfl (fun _ _ _ => rfl) (Or.inr (Or.inr (Or.inl ⟨rfl, Or.inl ⟨_, rfl⟩⟩))) : mo_Sim 92 132 (ma_putf 11 11 2 135)) (mt_none)))
set_option maxRecDepth 100000 in
theorem smt92_37 (k : Nat) : ∀ f, mt92_37 k = some f → mo_Sim 92 k f := mt_leaf (ms_ald (e := (.aload_n 0, 136, 0, 0, 0)) rfl (fun _ _ _ => rfl) : mo_Sim 92 135 (ma_lda 0 136)) (mt_leaf (ms_newo (e := (.new 86, 139, 5, 0, 382)) rfl rfl (fun _ _ _ => rfl) rfl mo_bl_5 : mo_Sim 92 136 (ma_new (5, .inl [ma_null, ma_ci (.ofNat 0), ma_ci (.ofNat 0), ma_ci (.ofNat 0)]) 139)) (mt_leaf (ms_dup (e := (.dup, 140, 0, 0, 0)) rfl (fun _ _ _ => rfl) : mo_Sim 92 139 (ma_dup 140)) (mt_leaf (ms_invI (p := 0) (e := (.invokespecial 88, 143, 43, 3, 383)) rfl rfl (fun _ _ _ => rfl) rfl rfl : mo_Sim 92 140 (ma_inv 43 1 1 21 143)) (mt_none))))
set_option maxRecDepth 100000 in
theorem smt92_35 (k : Nat) : ∀ f, mt92_35 k = some f → mo_Sim 92 k f := mt_node (smt92_36 k) (smt92_37 k)
set_option maxRecDepth 100000 in
theorem smt92_39 (k : Nat) : ∀ f, mt92_39 k = some f → mo_Sim 92 k f := mt_leaf (ms_putf (e := (.putfield 89, 146, 11, 12, 472)) rfl rfl (fun _ _ _ => rfl) (Or.inr (Or.inr (Or.inl ⟨rfl, Or.inl ⟨_, rfl⟩⟩))) : mo_Sim 92 143 (ma_putf 11 12 2 146)) (mt_leaf (ms_ald (e := (.aload_n 0, 147, 0, 0, 0)) rfl (fun _ _ _ => rfl) : mo_Sim 92 146 (ma_lda 0 147)) (mt_leaf (ms_pushi (e := (.bipush 27, 149, 0, 0, 0)) rfl (fun _ _ _ => rfl) (by decide) : mo_Sim 92 147 (ma_push (ma_ci (.ofNat 27)) 149)) (mt_none)))
set_option maxRecDepth 100000 in
theorem smt92_40 (k : Nat) : ∀ f, mt92_40 k = some f → mo_Sim 92 k f := mt_leaf (ms_newaI (e := (.newarray .int, 151, 0, 0, 0)) rfl rfl (fun _ _ _ => rfl) : mo_Sim 92 149 (ma_newa 13 (ma_ci (.ofNat 0)) 151)) (mt_leaf (ms_putf (e := (.putfield 93, 154, 11, 13, 473)) rfl rfl (fun _ _ _ => rfl) (Or.inr (Or.inr (Or.inl ⟨rfl, Or.inr ⟨_, rfl⟩⟩))) : mo_Sim 92 151 (ma_putf 11 13 2 154)) (mt_leaf (ms_pushi (e := (.iconst 0, 155, 0, 0, 0)) rfl (fun _ _ _ => rfl) (by decide) : mo_Sim 92 154 (ma_push (ma_ci (.ofNat 0)) 155)) (mt_leaf (ms_ist (e := (.istore_n 1, 156, 0, 0, 0)) rfl (fun _ _ _ => rfl) : mo_Sim 92 155 (ma_stor 0 1 156)) (mt_none))))
set_option maxRecDepth 100000 in
theorem smt92_38 (k : Nat) : ∀ f, mt92_38 k = some f → mo_Sim 92 k f := mt_node (smt92_39 k) (smt92_40 k)
set_option maxRecDepth 100000 in
theorem smt92_34 (k : Nat) : ∀ f, mt92_34 k = some f → mo_Sim 92 k f := mt_node (smt92_35 k) (smt92_38 k)
set_option maxRecDepth 100000 in
theorem smt92_43 (k : Nat) : ∀ f, mt92_43 k = some f → mo_Sim 92 k f := mt_leaf (ms_ild (e := (.iload_n 1, 157, 0, 0, 0)) rfl (fun _ _ _ => rfl) : mo_Sim 92 156 (ma_load 0 1 157)) (mt_leaf (ms_pushi (e := (.bipush 8, 159, 0, 0, 0)) rfl (fun _ _ _ => rfl) (by decide) : mo_Sim 92 157 (ma_push (ma_ci (.ofNat 8)) 159)) (mt_leaf (ms_if2 (e := (.if_icmp .ge 22, 162, 181, 0, 0)) rfl (fun _ _ _ => rfl) : mo_Sim 92 159 (ma_if2 .ge 181 159 162)) (mt_none)))
set_option maxRecDepth 100000 in
theorem smt92_44 (k : Nat) : ∀ f, mt92_44 k = some f → mo_Sim 92 k f := mt_leaf (ms_ald (e := (.aload_n 0, 163, 0, 0, 0)) rfl (fun _ _ _ => rfl) : mo_Sim 92 162 (ma_lda 0 163)) (mt_leaf (ms_getf (e := (.getfield 25, 166, 11, 2, 462)) rfl (fun _ _ _ => rfl) : mo_Sim 92 163 (ma_getf 11 2 166)) (mt_leaf (ms_ild (e := (.iload_n 1, 167, 0, 0, 0)) rfl (fun _ _ _ => rfl) : mo_Sim 92 166 (ma_load 0 1 167)) (mt_leaf (ms_newo (e := (.new 23, 170, 0, 0, 169)) rfl rfl (fun _ _ _ => rfl) rfl mo_bl_0 : mo_Sim 92 167 (ma_new (0, .inl [ma_ci (.ofNat 0), ma_ci (.ofNat 0), ma_null, ma_null]) 170)) (mt_none))))
set_option maxRecDepth 100000 in
theorem smt92_42 (k : Nat) : ∀ f, mt92_42 k = some f → mo_Sim 92 k f := mt_node (smt92_43 k) (smt92_44 k)
set_option maxRecDepth 100000 in
theorem smt92_46 (k : Nat) : ∀ f, mt92_46 k = some f → mo_Sim 92 k f := mt_leaf (ms_dup (e := (.dup, 171, 0, 0, 0)) rfl (fun _ _ _ => rfl) : mo_Sim 92 170 (ma_dup 171)) (mt_leaf (ms_invI (p := 0) (e := (.invokespecial 97, 174, 1, 3, 385)) rfl rfl (fun _ _ _ => rfl) rfl rfl : mo_Sim 92 171 (ma_inv 1 1 1 21 174)) (mt_leaf (ms_aast (e := (.aastore, 175, 0, 0, 0)) rfl rfl (fun _ _ _ => rfl) : mo_Sim 92 174 (ma_aast 175)) (mt_leaf (ms_iinc (e := (.iinc 1 1, 178, 0, 0, 0)) rfl (fun _ _ _ => rfl) (by decide) : mo_Sim 92 175 (ma_iinc 1 (.ofNat 1) 175 178)) (mt_none))))
set_option maxRecDepth 100000 in
theorem smt92_47 (k : Nat) : ∀ f, mt92_47 k = some f → mo_Sim 92 k f := mt_leaf (ms_goto (e := (.goto (-22), 181, 156, 0, 0)) rfl (fun _ _ _ => rfl) : mo_Sim 92 178 (ma_goto 156)) (mt_leaf (ms_pushi (e := (.iconst 0, 182, 0, 0, 0)) rfl (fun _ _ _ => rfl) (by decide) : mo_Sim 92 181 (ma_push (ma_ci (.ofNat 0)) 182)) (mt_leaf (ms_ist (e := (.istore_n 1, 183, 0, 0, 0)) rfl (fun _ _ _ => rfl) : mo_Sim 92 182 (ma_stor 0 1 183)) (mt_leaf (ms_ild (e := (.iload_n 1, 184, 0, 0, 0)) rfl (fun _ _ _ => rfl) : mo_Sim 92 183 (ma_load 0 1 184)) (mt_none))))
set_option maxRecDepth 100000 in
theorem smt92_45 (k : Nat) : ∀ f, mt92_45 k = some f → mo_Sim 92 k f := mt_node (smt92_46 k) (smt92_47 k)
set_option maxRecDepth 100000 in
theorem smt92_41 (k : Nat) : ∀ f, mt92_41 k = some f → mo_Sim 92 k f := mt_node (smt92_42 k) (smt92_45 k)
set_option maxRecDepth 100000 in
theorem smt92_33 (k : Nat) : ∀ f, mt92_33 k = some f → mo_Sim 92 k f := mt_node (smt92_34 k) (smt92_41 k)
set_option maxRecDepth 100000 in
theorem smt92_51 (k : Nat) : ∀ f, mt92_51 k = some f → mo_Sim 92 k f := mt_leaf (ms_pushi (e := (.bipush 12, 186, 0, 0, 0)) rfl (fun _ _ _ => rfl) (by decide) : mo_Sim 92 184 (ma_push (ma_ci (.ofNat 12)) 186)) (mt_leaf (ms_if2 (e := (.if_icmp .ge 22, 189, 208, 0, 0)) rfl (fun _ _ _ => rfl) : mo_Sim 92 186 (ma_if2 .ge 208 186 189)) (mt_leaf (ms_ald (e := (.aload_n 0, 190, 0, 0, 0)) rfl (fun _ _ _ => rfl) : mo_Sim 92 189 (ma_lda 0 190)) (mt_none)))
set_option maxRecDepth 100000 in
theorem smt92_52 (k : Nat) : ∀ f, mt92_52 k = some f → mo_Sim 92 k f := mt_leaf (ms_getf (e := (.getfield 31, 193, 11, 3, 463)) rfl (fun _ _ _ => rfl) : mo_Sim 92 190 (ma_getf 11 3 193)) (mt_leaf (ms_ild (e := (.iload_n 1, 194, 0, 0, 0)) rfl (fun _ _ _ => rfl) : mo_Sim 92 193 (ma_load 0 1 194)) (mt_leaf (ms_newo (e := (.new 29, 197, 4, 0, 171)) rfl rfl (fun _ _ _ => rfl) rfl mo_bl_4 : mo_Sim 92 194 (ma_new (4, .inl [ma_ci (.ofNat 0), ma_ci (.ofNat 0), ma_ci (.ofNat 0), ma_ci (.ofNat 0), ma_null]) 197)) (mt_leaf (ms_dup (e := (.dup, 198, 0, 0, 0)) rfl (fun _ _ _ => rfl) : mo_Sim 92 197 (ma_dup 198)) (mt_none))))
set_option maxRecDepth 100000 in
theorem smt92_50 (k : Nat) : ∀ f, mt92_50 k = some f → mo_Sim 92 k f := mt_node (smt92_51 k) (smt92_52 k)
set_option maxRecDepth 100000 in
theorem smt92_54 (k : Nat) : ∀ f, mt92_54 k = some f → mo_Sim 92 k f := mt_leaf (ms_invI (p := 0) (e := (.invokespecial 81, 201, 35, 3, 354)) rfl rfl (fun _ _ _ => rfl) rfl rfl : mo_Sim 92 198 (ma_inv 35 1 1 21 201)) (mt_leaf (ms_aast (e := (.aastore, 202, 0, 0, 0)) rfl rfl (fun _ _ _ => rfl) : mo_Sim 92 201 (ma_aast 202)) (mt_leaf (ms_iinc (e := (.iinc 1 1, 205, 0, 0, 0)) rfl (fun _ _ _ => rfl) (by decide) : mo_Sim 92 202 (ma_iinc 1 (.ofNat 1) 202 205)) (mt_none)))
set_option maxRecDepth 100000 in
theorem smt92_55 (k : Nat) : ∀ f, mt92_55 k = some f → mo_Sim 92 k f := mt_leaf (ms_goto (e := (.goto (-22), 208, 183, 0, 0)) rfl (fun _ _ _ => rfl) : mo_Sim 92 205 (ma_goto 183)) (mt_leaf (ms_pushi (e := (.iconst 0, 209, 0, 0, 0)) rfl (fun _ _ _ => rfl) (by decide) : mo_Sim 92 208 (ma_push (ma_ci (.ofNat 0)) 209)) (mt_leaf (ms_ist (e := (.istore_n 1, 210, 0, 0, 0)) rfl (fun _ _ _ => rfl) : mo_Sim 92 209 (ma_stor 0 1 210)) (mt_leaf (ms_ild (e := (.iload_n 1, 211, 0, 0, 0)) rfl (fun _ _ _ => rfl) : mo_Sim 92 210 (ma_load 0 1 211)) (mt_none))))
set_option maxRecDepth 100000 in
theorem smt92_53 (k : Nat) : ∀ f, mt92_53 k = some f → mo_Sim 92 k f := mt_node (smt92_54 k) (smt92_55 k)
set_option maxRecDepth 100000 in
theorem smt92_49 (k : Nat) : ∀ f, mt92_49 k = some f → mo_Sim 92 k f := mt_node (smt92_50 k) (smt92_53 k)
set_option maxRecDepth 100000 in
theorem smt92_58 (k : Nat) : ∀ f, mt92_58 k = some f → mo_Sim 92 k f := mt_leaf (ms_pushi (e := (.iconst 3, 212, 0, 0, 0)) rfl (fun _ _ _ => rfl) (by decide) : mo_Sim 92 211 (ma_push (ma_ci (.ofNat 3)) 212)) (mt_leaf (ms_if2 (e := (.if_icmp .ge 22, 215, 234, 0, 0)) rfl (fun _ _ _ => rfl) : mo_Sim 92 212 (ma_if2 .ge 234 212 215)) (mt_leaf (ms_ald (e := (.aload_n 0, 216, 0, 0, 0)) rfl (fun _ _ _ => rfl) : mo_Sim 92 215 (ma_lda 0 216)) (mt_none)))
set_option maxRecDepth 100000 in
theorem smt92_59 (k : Nat) : ∀ f, mt92_59 k = some f → mo_Sim 92 k f := mt_leaf (ms_getf (e := (.getfield 37, 219, 11, 4, 464)) rfl (fun _ _ _ => rfl) : mo_Sim 92 216 (ma_getf 11 4 219)) (mt_leaf (ms_ild (e := (.iload_n 1, 220, 0, 0, 0)) rfl (fun _ _ _ => rfl) : mo_Sim 92 219 (ma_load 0 1 220)) (mt_leaf (ms_newo (e := (.new 35, 223, 6, 0, 173)) rfl rfl (fun _ _ _ => rfl) rfl mo_bl_6 : mo_Sim 92 220 (ma_new (6, .inl [ma_ci (.ofNat 0), ma_ci (.ofNat 0), ma_ci (.ofNat 0), ma_null, ma_null]) 223)) (mt_leaf (ms_dup (e := (.dup, 224, 0, 0, 0)) rfl (fun _ _ _ => rfl) : mo_Sim 92 223 (ma_dup 224)) (mt_none))))
set_option maxRecDepth 100000 in
theorem smt92_57 (k : Nat) : ∀ f, mt92_57 k = some f → mo_Sim 92 k f := mt_node (smt92_58 k) (smt92_59 k)
set_option maxRecDepth 100000 in
theorem smt92_61 (k : Nat) : ∀ f, mt92_61 k = some f → mo_Sim 92 k f := mt_leaf (ms_invI (p := 0) (e := (.invokespecial 98, 227, 46, 3, 411)) rfl rfl (fun _ _ _ => rfl) rfl rfl : mo_Sim 92 224 (ma_inv 46 1 1 21 227)) (mt_leaf (ms_aast (e := (.aastore, 228, 0, 0, 0)) rfl rfl (fun _ _ _ => rfl) : mo_Sim 92 227 (ma_aast 228)) (mt_leaf (ms_iinc (e := (.iinc 1 1, 231, 0, 0, 0)) rfl (fun _ _ _ => rfl) (by decide) : mo_Sim 92 228 (ma_iinc 1 (.ofNat 1) 228 231)) (mt_leaf (ms_goto (e := (.goto (-21), 234, 210, 0, 0)) rfl (fun _ _ _ => rfl) : mo_Sim 92 231 (ma_goto 210)) (mt_none))))
set_option maxRecDepth 100000 in
theorem smt92_62 (k : Nat) : ∀ f, mt92_62 k = some f → mo_Sim 92 k f := mt_leaf (ms_ald (e := (.aload_n 0, 235, 0, 0, 0)) rfl (fun _ _ _ => rfl) : mo_Sim 92 234 (ma_lda 0 235)) (mt_leaf (ms_pushi (e := (.iconst 2, 236, 0, 0, 0)) rfl (fun _ _ _ => rfl) (by decide) : mo_Sim 92 235 (ma_push (ma_ci (.ofNat 2)) 236)) (mt_leaf (ms_invV (p := 1) (e := (.invokevirtual 99, 239, 122, 0, 439)) rfl rfl (fun _ _ _ => rfl) rfl rfl rfl (by decide) : mo_Sim 92 236 (ma_inv 122 2 2 11 239)) (mt_leaf (ms_retv (e := (.return_, 240, 0, 0, 0)) rfl rfl (fun _ _ _ => rfl) : mo_Sim 92 239 (ma_retv)) (mt_none))))
set_option maxRecDepth 100000 in
theorem smt92_60 (k : Nat) : ∀ f, mt92_60 k = some f → mo_Sim 92 k f := mt_node (smt92_61 k) (smt92_62 k)
set_option maxRecDepth 100000 in
theorem smt92_56 (k : Nat) : ∀ f, mt92_56 k = some f → mo_Sim 92 k f := mt_node (smt92_57 k) (smt92_60 k)
set_option maxRecDepth 100000 in
theorem smt92_48 (k : Nat) : ∀ f, mt92_48 k = some f → mo_Sim 92 k f := mt_node (smt92_49 k) (smt92_56 k)
set_option maxRecDepth 100000 in
theorem smt92_32 (k : Nat) : ∀ f, mt92_32 k = some f → mo_Sim 92 k f := mt_node (smt92_33 k) (smt92_48 k)
set_option maxRecDepth 100000 in
theorem smt92_0 (k : Nat) : ∀ f, mt92_0 k = some f → mo_Sim 92 k f := mt_node (smt92_1 k) (smt92_32 k)
set_option maxRecDepth 100000 in
theorem smt93_2 (k : Nat) : ∀ f, mt93_2 k = some f → mo_Sim 93 k f := mt_leaf (ms_ild (e := (.iload_n 1, 1, 0, 0, 0)) rfl (fun _ _ _ => rfl) : mo_Sim 93 0 (ma_load 0 1 1)) (mt_leaf (ms_pushi (e := (.iconst 2, 2, 0, 0, 0)) rfl (fun _ _ _ => rfl) (by decide) : mo_Sim 93 1 (ma_push (ma_ci (.ofNat 2)) 2)) (mt_leaf (ms_if2 (e := (.if_icmp .eq 10, 5, 12, 0, 0)) rfl (fun _ _ _ => rfl) : mo_Sim 93 2 (ma_if2 .eq 12 2 5)) (mt_none)))
set_option maxRecDepth 100000 in
theorem smt93_3 (k : Nat) : ∀ f, mt93_3 k = some f → mo_Sim 93 k f := mt_leaf (ms_ild (e := (.iload_n 1, 6, 0, 0, 0)) rfl (fun _ _ _ => rfl) : mo_Sim 93 5 (ma_load 0 1 6)) (mt_leaf (ms_pushi (e := (.iconst 3, 7, 0, 0, 0)) rfl (fun _ _ _ => rfl) (by decide) : mo_Sim 93 6 (ma_push (ma_ci (.ofNat 3)) 7)) (mt_leaf (ms_if2 (e := (.if_icmp .eq 5, 10, 12, 0, 0)) rfl (fun _ _ _ => rfl) : mo_Sim 93 7 (ma_if2 .eq 12 7 10)) (mt_none)))
set_option maxRecDepth 100000 in
theorem smt93_1 (k : Nat) : ∀ f, mt93_1 k = some f → mo_Sim 93 k f := mt_node (smt93_2 k) (smt93_3 k)
set_option maxRecDepth 100000 in
theorem smt93_5 (k : Nat) : ∀ f, mt93_5 k = some f → mo_Sim 93 k f := mt_leaf (ms_pushi (e := (.iconst 0, 11, 0, 0, 0)) rfl (fun _ _ _ => rfl) (by decide) : mo_Sim 93 10 (ma_push (ma_ci (.ofNat 0)) 11)) (mt_leaf (ms_ret (e := (.ireturn, 12, 0, 0, 0)) rfl (Or.inr (Or.inl ⟨rfl, rfl, (fun _ _ _ => rfl)⟩)) : mo_Sim 93 11 (ma_ret 1)) (mt_leaf (ms_ald (e := (.aload_n 0, 13, 0, 0, 0)) rfl (fun _ _ _ => rfl) : mo_Sim 93 12 (ma_lda 0 13)) (mt_none)))
set_option maxRecDepth 100000 in
theorem smt93_6 (k : Nat) : ∀ f, mt93_6 k = some f → mo_Sim 93 k f := mt_leaf (ms_ild (e := (.iload_n 1, 14, 0, 0, 0)) rfl (fun _ _ _ => rfl) : mo_Sim 93 13 (ma_load 0 1 14)) (mt_leaf (ms_invV (p := 1) (e := (.invokevirtual 99, 17, 122, 0, 439)) rfl rfl (fun _ _ _ => rfl) rfl rfl rfl (by decide) : mo_Sim 93 14 (ma_inv 122 2 2 11 17)) (mt_leaf (ms_pushi (e := (.iconst 1, 18, 0, 0, 0)) rfl (fun _ _ _ => rfl) (by decide) : mo_Sim 93 17 (ma_push (ma_ci (.ofNat 1)) 18)) (mt_leaf (ms_ret (e := (.ireturn, 19, 0, 0, 0)) rfl (Or.inr (Or.inl ⟨rfl, rfl, (fun _ _ _ => rfl)⟩)) : mo_Sim 93 18 (ma_ret 1)) (mt_none))))
set_option maxRecDepth 100000 in
theorem smt93_4 (k : Nat) : ∀ f, mt93_4 k = some f → mo_Sim 93 k f := mt_node (smt93_5 k) (smt93_6 k)
set_option maxRecDepth 100000 in
theorem smt93_0 (k : Nat) : ∀ f, mt93_0 k = some f → mo_Sim 93 k f := mt_node (smt93_1 k) (smt93_4 k)
set_option maxRecDepth 100000 in
theorem smt94_3 (k : Nat) : ∀ f, mt94_3 k = some f → mo_Sim 94 k f := mt_leaf (ms_ald (e := (.aload_n 0, 1, 0, 0, 0)) rfl (fun _ _ _ => rfl) : mo_Sim 94 0 (ma_lda 0 1)) (mt_leaf (ms_getf (e := (.getfield 19, 4, 11, 1, 461)) rfl (fun _ _ _ => rfl) : mo_Sim 94 1 (ma_getf 11 1 4)) (mt_leaf (ms_ild (e := (.iload_n 1, 5, 0, 0, 0)) rfl (fun _ _ _ => rfl) : mo_Sim 94 4 (ma_load 0 1 5)) (mt_none)))
set_option maxRecDepth 100000 in
theorem smt94_4 (k : Nat) : ∀ f, mt94_4 k = some f → mo_Sim 94 k f := mt_leaf (ms_invV (p := 1) (e := (.invokevirtual 102, 8, 84, 0, 526)) rfl rfl (fun _ _ _ => rfl) rfl rfl rfl (by decide) : mo_Sim 94 5 (ma_inv 84 2 2 10 8)) (mt_leaf (ms_if0 (e := (.ifCond .eq 18, 11, 26, 0, 0)) rfl (fun _ _ _ => rfl) : mo_Sim 94 8 (ma_if0 .eq 26 8 11)) (mt_leaf (ms_ild (e := (.iload_n 2, 12, 0, 0, 0)) rfl (fun _ _ _ => rfl) : mo_Sim 94 11 (ma_load 0 2 12)) (mt_none)))
set_option maxRecDepth 100000 in
theorem smt94_2 (k : Nat) : ∀ f, mt94_2 k = some f → mo_Sim 94 k f := mt_node (smt94_3 k) (smt94_4 k)
set_option maxRecDepth 100000 in
theorem smt94_6 (k : Nat) : ∀ f, mt94_6 k = some f → mo_Sim 94 k f := mt_leaf (ms_if0 (e := (.ifCond .lt 14, 15, 26, 0, 0)) rfl (fun _ _ _ => rfl) : mo_Sim 94 12 (ma_if0 .lt 26 12 15)) (mt_leaf (ms_ild (e := (.iload_n 2, 16, 0, 0, 0)) rfl (fun _ _ _ => rfl) : mo_Sim 94 15 (ma_load 0 2 16)) (mt_leaf (ms_pushi (e := (.iconst 3, 17, 0, 0, 0)) rfl (fun _ _ _ => rfl) (by decide) : mo_Sim 94 16 (ma_push (ma_ci (.ofNat 3)) 17)) (mt_none)))
set_option maxRecDepth 100000 in
theorem smt94_7 (k : Nat) : ∀ f, mt94_7 k = some f → mo_Sim 94 k f := mt_leaf (ms_if2 (e := (.if_icmp .gt 9, 20, 26, 0, 0)) rfl (fun _ _ _ => rfl) : mo_Sim 94 17 (ma_if2 .gt 26 17 20)) (mt_leaf (ms_ild (e := (.iload_n 3, 21, 0, 0, 0)) rfl (fun _ _ _ => rfl) : mo_Sim 94 20 (ma_load 0 3 21)) (mt_leaf (ms_pushi (e := (.bipush 40, 23, 0, 0, 0)) rfl (fun _ _ _ => rfl) (by decide) : mo_Sim 94 21 (ma_push (ma_ci (.ofNat 40)) 23)) (mt_leaf (ms_if2 (e := (.if_icmp .le 6, 26, 29, 0, 0)) rfl (fun _ _ _ => rfl) : mo_Sim 94 23 (ma_if2 .le 29 23 26)) (mt_none))))
set_option maxRecDepth 100000 in
theorem smt94_5 (k : Nat) : ∀ f, mt94_5 k = some f → mo_Sim 94 k f := mt_node (smt94_6 k) (smt94_7 k)
set_option maxRecDepth 100000 in
theorem smt94_1 (k : Nat) : ∀ f, mt94_1 k = some f → mo_Sim 94 k f := mt_node (smt94_2 k) (smt94_5 k)
set_option maxRecDepth 100000 in
theorem smt94_10 (k : Nat) : ∀ f, mt94_10 k = some f → mo_Sim 94 k f := mt_leaf (ms_pushi (e := (.bipush (-2), 28, 0, 0, 0)) rfl (fun _ _ _ => rfl) (by decide) : mo_Sim 94 26 (ma_push (ma_ci (.negSucc 1)) 28)) (mt_leaf (ms_ret (e := (.ireturn, 29, 0, 0, 0)) rfl (Or.inl ⟨rfl, rfl, (fun _ _ _ => rfl)⟩) : mo_Sim 94 28 (ma_ret 0)) (mt_leaf (ms_ild (e := (.iload_n 3, 30, 0, 0, 0)) rfl (fun _ _ _ => rfl) : mo_Sim 94 29 (ma_load 0 3 30)) (mt_none)))
set_option maxRecDepth 100000 in
theorem smt94_11 (k : Nat) : ∀ f, mt94_11 k = some f → mo_Sim 94 k f := mt_leaf (ms_if0 (e := (.ifCond .ge 6, 33, 36, 0, 0)) rfl (fun _ _ _ => rfl) : mo_Sim 94 30 (ma_if0 .ge 36 30 33)) (mt_leaf (ms_pushi (e := (.bipush (-3), 35, 0, 0, 0)) rfl (fun _ _ _ => rfl) (by decide) : mo_Sim 94 33 (ma_push (ma_ci (.negSucc 2)) 35)) (mt_leaf (ms_ret (e := (.ireturn, 36, 0, 0, 0)) rfl (Or.inl ⟨rfl, rfl, (fun _ _ _ => rfl)⟩) : mo_Sim 94 35 (ma_ret 0)) (mt_leaf (ms_ald (e := (.aload_n 0, 37, 0, 0, 0)) rfl (fun _ _ _ => rfl) : mo_Sim 94 36 (ma_lda 0 37)) (mt_none))))
set_option maxRecDepth 100000 in
theorem smt94_9 (k : Nat) : ∀ f, mt94_9 k = some f → mo_Sim 94 k f := mt_node (smt94_10 k) (smt94_11 k)
set_option maxRecDepth 100000 in
theorem smt94_13 (k : Nat) : ∀ f, mt94_13 k = some f → mo_Sim 94 k f := mt_leaf (ms_getf (e := (.getfield 19, 40, 11, 1, 461)) rfl (fun _ _ _ => rfl) : mo_Sim 94 37 (ma_getf 11 1 40)) (mt_leaf (ms_ild (e := (.iload_n 1, 41, 0, 0, 0)) rfl (fun _ _ _ => rfl) : mo_Sim 94 40 (ma_load 0 1 41)) (mt_leaf (ms_ild (e := (.iload_n 2, 42, 0, 0, 0)) rfl (fun _ _ _ => rfl) : mo_Sim 94 41 (ma_load 0 2 42)) (mt_none)))
set_option maxRecDepth 100000 in
theorem smt94_14 (k : Nat) : ∀ f, mt94_14 k = some f → mo_Sim 94 k f := mt_leaf (ms_ild (e := (.iload_n 3, 43, 0, 0, 0)) rfl (fun _ _ _ => rfl) : mo_Sim 94 42 (ma_load 0 3 43)) (mt_leaf (ms_invV (p := 3) (e := (.invokevirtual 106, 46, 86, 0, 530)) rfl rfl (fun _ _ _ => rfl) rfl rfl rfl (by decide) : mo_Sim 94 43 (ma_inv 86 4 5 10 46)) (mt_leaf (ms_pushi (e := (.iconst 0, 47, 0, 0, 0)) rfl (fun _ _ _ => rfl) (by decide) : mo_Sim 94 46 (ma_push (ma_ci (.ofNat 0)) 47)) (mt_leaf (ms_ret (e := (.ireturn, 48, 0, 0, 0)) rfl (Or.inl ⟨rfl, rfl, (fun _ _ _ => rfl)⟩) : mo_Sim 94 47 (ma_ret 0)) (mt_none))))
set_option maxRecDepth 100000 in
theorem smt94_12 (k : Nat) : ∀ f, mt94_12 k = some f → mo_Sim 94 k f := mt_node (smt94_13 k) (smt94_14 k)
set_option maxRecDepth 100000 in
theorem smt94_8 (k : Nat) : ∀ f, mt94_8 k = some f → mo_Sim 94 k f := mt_node (smt94_9 k) (smt94_12 k)
set_option maxRecDepth 100000 in
theorem smt94_0 (k : Nat) : ∀ f, mt94_0 k = some f → mo_Sim 94 k f := mt_node (smt94_1 k) (smt94_8 k)
set_option maxRecDepth 100000 in
theorem smt95_2 (k : Nat) : ∀ f, mt95_2 k = some f → mo_Sim 95 k f := mt_leaf (ms_ald (e := (.aload_n 0, 1, 0, 0, 0)) rfl (fun _ _ _ => rfl) : mo_Sim 95 0 (ma_lda 0 1)) (mt_leaf (ms_getf (e := (.getfield 19, 4, 11, 1, 461)) rfl (fun _ _ _ => rfl) : mo_Sim 95 1 (ma_getf 11 1 4)) (mt_leaf (ms_ild (e := (.iload_n 1, 5, 0, 0, 0)) rfl (fun _ _ _ => rfl) : mo_Sim 95 4 (ma_load 0 1 5)) (mt_none)))
set_option maxRecDepth 100000 in
theorem smt95_3 (k : Nat) : ∀ f, mt95_3 k = some f → mo_Sim 95 k f := mt_leaf (ms_invV (p := 1) (e := (.invokevirtual 110, 8, 85, 0, 538)) rfl rfl (fun _ _ _ => rfl) rfl rfl rfl (by decide) : mo_Sim 95 5 (ma_inv 85 2 2 10 8)) (mt_leaf (ms_if0 (e := (.ifCond .ne 5, 11, 13, 0, 0)) rfl (fun _ _ _ => rfl) : mo_Sim 95 8 (ma_if0 .ne 13 8 11)) (mt_leaf (ms_pushi (e := (.iconst 0, 12, 0, 0, 0)) rfl (fun _ _ _ => rfl) (by decide) : mo_Sim 95 11 (ma_push (ma_ci (.ofNat 0)) 12)) (mt_none)))
set_option maxRecDepth 100000 in
theorem smt95_1 (k : Nat) : ∀ f, mt95_1 k = some f → mo_Sim 95 k f := mt_node (smt95_2 k) (smt95_3 k)
set_option maxRecDepth 100000 in
theorem smt95_5 (k : Nat) : ∀ f, mt95_5 k = some f → mo_Sim 95 k f := mt_leaf (ms_ret (e := (.ireturn, 13, 0, 0, 0)) rfl (Or.inr (Or.inl ⟨rfl, rfl, (fun _ _ _ => rfl)⟩)) : mo_Sim 95 12 (ma_ret 1)) (mt_leaf (ms_ald (e := (.aload_n 0, 14, 0, 0, 0)) rfl (fun _ _ _ => rfl) : mo_Sim 95 13 (ma_lda 0 14)) (mt_leaf (ms_getf (e := (.getfield 19, 17, 11, 1, 461)) rfl (fun _ _ _ => rfl) : mo_Sim 95 14 (ma_getf 11 1 17)) (mt_none)))
set_option maxRecDepth 100000 in
theorem smt95_6 (k : Nat) : ∀ f, mt95_6 k = some f → mo_Sim 95 k f := mt_leaf (ms_ild (e := (.iload_n 1, 18, 0, 0, 0)) rfl (fun _ _ _ => rfl) : mo_Sim 95 17 (ma_load 0 1 18)) (mt_leaf (ms_invV (p := 1) (e := (.invokevirtual 113, 21, 87, 0, 543)) rfl rfl (fun _ _ _ => rfl) rfl rfl rfl (by decide) : mo_Sim 95 18 (ma_inv 87 2 2 10 21)) (mt_leaf (ms_pushi (e := (.iconst 1, 22, 0, 0, 0)) rfl (fun _ _ _ => rfl) (by decide) : mo_Sim 95 21 (ma_push (ma_ci (.ofNat 1)) 22)) (mt_leaf (ms_ret (e := (.ireturn, 23, 0, 0, 0)) rfl (Or.inr (Or.inl ⟨rfl, rfl, (fun _ _ _ => rfl)⟩)) : mo_Sim 95 22 (ma_ret 1)) (mt_none))))
set_option maxRecDepth 100000 in
theorem smt95_4 (k : Nat) : ∀ f, mt95_4 k = some f → mo_Sim 95 k f := mt_node (smt95_5 k) (smt95_6 k)
set_option maxRecDepth 100000 in
theorem smt95_0 (k : Nat) : ∀ f, mt95_0 k = some f → mo_Sim 95 k f := mt_node (smt95_1 k) (smt95_4 k)
set_option maxRecDepth 100000 in
theorem smt96_3 (k : Nat) : ∀ f, mt96_3 k = some f → mo_Sim 96 k f := mt_leaf (ms_ald (e := (.aload_n 0, 1, 0, 0, 0)) rfl (fun _ _ _ => rfl) : mo_Sim 96 0 (ma_lda 0 1)) (mt_leaf (ms_getf (e := (.getfield 19, 4, 11, 1, 461)) rfl (fun _ _ _ => rfl) : mo_Sim 96 1 (ma_getf 11 1 4)) (mt_leaf (ms_ild (e := (.iload_n 1, 5, 0, 0, 0)) rfl (fun _ _ _ => rfl) : mo_Sim 96 4 (ma_load 0 1 5)) (mt_none)))
set_option maxRecDepth 100000 in
theorem smt96_4 (k : Nat) : ∀ f, mt96_4 k = some f → mo_Sim 96 k f := mt_leaf (ms_invV (p := 1) (e := (.invokevirtual 102, 8, 84, 0, 526)) rfl rfl (fun _ _ _ => rfl) rfl rfl rfl (by decide) : mo_Sim 96 5 (ma_inv 84 2 2 10 8)) (mt_leaf (ms_if0 (e := (.ifCond .ne 6, 11, 14, 0, 0)) rfl (fun _ _ _ => rfl) : mo_Sim 96 8 (ma_if0 .ne 14 8 11)) (mt_leaf (ms_pushi (e := (.bipush (-2), 13, 0, 0, 0)) rfl (fun _ _ _ => rfl) (by decide) : mo_Sim 96 11 (ma_push (ma_ci (.negSucc 1)) 13)) (mt_none)))
set_option maxRecDepth 100000 in
theorem smt96_2 (k : Nat) : ∀ f, mt96_2 k = some f → mo_Sim 96 k f := mt_node (smt96_3 k) (smt96_4 k)
set_option maxRecDepth 100000 in
theorem smt96_6 (k : Nat) : ∀ f, mt96_6 k = some f → mo_Sim 96 k f := mt_leaf (ms_ret (e := (.ireturn, 14, 0, 0, 0)) rfl (Or.inl ⟨rfl, rfl, (fun _ _ _ => rfl)⟩) : mo_Sim 96 13 (ma_ret 0)) (mt_leaf (ms_ald (e := (.aload_n 0, 15, 0, 0, 0)) rfl (fun _ _ _ => rfl) : mo_Sim 96 14 (ma_lda 0 15)) (mt_leaf (ms_getf (e := (.getfield 19, 18, 11, 1, 461)) rfl (fun _ _ _ => rfl) : mo_Sim 96 15 (ma_getf 11 1 18)) (mt_none)))
set_option maxRecDepth 100000 in
theorem smt96_7 (k : Nat) : ∀ f, mt96_7 k = some f → mo_Sim 96 k f := mt_leaf (ms_ild (e := (.iload_n 1, 19, 0, 0, 0)) rfl (fun _ _ _ => rfl) : mo_Sim 96 18 (ma_load 0 1 19)) (mt_leaf (ms_invV (p := 1) (e := (.invokevirtual 110, 22, 85, 0, 538)) rfl rfl (fun _ _ _ => rfl) rfl rfl rfl (by decide) : mo_Sim 96 19 (ma_inv 85 2 2 10 22)) (mt_leaf (ms_if0 (e := (.ifCond .ne 6, 25, 28, 0, 0)) rfl (fun _ _ _ => rfl) : mo_Sim 96 22 (ma_if0 .ne 28 22 25)) (mt_none)))
set_option maxRecDepth 100000 in
theorem smt96_5 (k : Nat) : ∀ f, mt96_5 k = some f → mo_Sim 96 k f := mt_node (smt96_6 k) (smt96_7 k)
set_option maxRecDepth 100000 in
theorem smt96_1 (k : Nat) : ∀ f, mt96_1 k = some f → mo_Sim 96 k f := mt_node (smt96_2 k) (smt96_5 k)
set_option maxRecDepth 100000 in
theorem smt96_10 (k : Nat) : ∀ f, mt96_10 k = some f → mo_Sim 96 k f := mt_leaf (ms_pushi (e := (.bipush (-5), 27, 0, 0, 0)) rfl (fun _ _ _ => rfl) (by decide) : mo_Sim 96 25 (ma_push (ma_ci (.negSucc 4)) 27)) (mt_leaf (ms_ret (e := (.ireturn, 28, 0, 0, 0)) rfl (Or.inl ⟨rfl, rfl, (fun _ _ _ => rfl)⟩) : mo_Sim 96 27 (ma_ret 0)) (mt_leaf (ms_ald (e := (.aload_n 0, 29, 0, 0, 0)) rfl (fun _ _ _ => rfl) : mo_Sim 96 28 (ma_lda 0 29)) (mt_none)))
set_option maxRecDepth 100000 in
theorem smt96_11 (k : Nat) : ∀ f, mt96_11 k = some f → mo_Sim 96 k f := mt_leaf (ms_getf (e := (.getfield 19, 32, 11, 1, 461)) rfl (fun _ _ _ => rfl) : mo_Sim 96 29 (ma_getf 11 1 32)) (mt_leaf (ms_ild (e := (.iload_n 1, 33, 0, 0, 0)) rfl (fun _ _ _ => rfl) : mo_Sim 96 32 (ma_load 0 1 33)) (mt_leaf (ms_ild (e := (.iload_n 2, 34, 0, 0, 0)) rfl (fun _ _ _ => rfl) : mo_Sim 96 33 (ma_load 0 2 34)) (mt_none)))
set_option maxRecDepth 100000 in
theorem smt96_9 (k : Nat) : ∀ f, mt96_9 k = some f → mo_Sim 96 k f := mt_node (smt96_10 k) (smt96_11 k)
set_option maxRecDepth 100000 in
theorem smt96_13 (k : Nat) : ∀ f, mt96_13 k = some f → mo_Sim 96 k f := mt_leaf (ms_lld (e := (.lload_n 3, 35, 0, 0, 0)) rfl (fun _ _ _ => rfl) : mo_Sim 96 34 (ma_load 2 3 35)) (mt_leaf (ms_invV (p := 3) (e := (.invokevirtual 116, 38, 88, 0, 551)) rfl rfl (fun _ _ _ => rfl) rfl rfl rfl (by decide) : mo_Sim 96 35 (ma_inv 88 4 5 10 38)) (mt_leaf (ms_if0 (e := (.ifCond .eq 7, 41, 45, 0, 0)) rfl (fun _ _ _ => rfl) : mo_Sim 96 38 (ma_if0 .eq 45 38 41)) (mt_none)))
set_option maxRecDepth 100000 in
theorem smt96_14 (k : Nat) : ∀ f, mt96_14 k = some f → mo_Sim 96 k f := mt_leaf (ms_pushi (e := (.iconst 0, 42, 0, 0, 0)) rfl (fun _ _ _ => rfl) (by decide) : mo_Sim 96 41 (ma_push (ma_ci (.ofNat 0)) 42)) (mt_leaf (ms_goto (e := (.goto 5, 45, 47, 0, 0)) rfl (fun _ _ _ => rfl) : mo_Sim 96 42 (ma_goto 47)) (mt_leaf (ms_pushi (e := (.bipush (-6), 47, 0, 0, 0)) rfl (fun _ _ _ => rfl) (by decide) : mo_Sim 96 45 (ma_push (ma_ci (.negSucc 5)) 47)) (mt_leaf (ms_ret (e := (.ireturn, 48, 0, 0, 0)) rfl (Or.inl ⟨rfl, rfl, (fun _ _ _ => rfl)⟩) : mo_Sim 96 47 (ma_ret 0)) (mt_none))))
set_option maxRecDepth 100000 in
theorem smt96_12 (k : Nat) : ∀ f, mt96_12 k = some f → mo_Sim 96 k f := mt_node (smt96_13 k) (smt96_14 k)
set_option maxRecDepth 100000 in
theorem smt96_8 (k : Nat) : ∀ f, mt96_8 k = some f → mo_Sim 96 k f := mt_node (smt96_9 k) (smt96_12 k)
set_option maxRecDepth 100000 in
theorem smt96_0 (k : Nat) : ∀ f, mt96_0 k = some f → mo_Sim 96 k f := mt_node (smt96_1 k) (smt96_8 k)
set_option maxRecDepth 100000 in
theorem smt97_5 (k : Nat) : ∀ f, mt97_5 k = some f → mo_Sim 97 k f := mt_leaf (ms_ald (e := (.aload_n 0, 1, 0, 0, 0)) rfl (fun _ _ _ => rfl) : mo_Sim 97 0 (ma_lda 0 1)) (mt_leaf (ms_getf (e := (.getfield 19, 4, 11, 1, 461)) rfl (fun _ _ _ => rfl) : mo_Sim 97 1 (ma_getf 11 1 4)) (mt_none))
set_option maxRecDepth 100000 in
theorem smt97_6 (k : Nat) : ∀ f, mt97_6 k = some f → mo_Sim 97 k f := mt_leaf (ms_ild (e := (.iload_n 2, 5, 0, 0, 0)) rfl (fun _ _ _ => rfl) : mo_Sim 97 4 (ma_load 0 2 5)) (mt_leaf (ms_invV (p := 1) (e := (.invokevirtual 102, 8, 84, 0, 526)) rfl rfl (fun _ _ _ => rfl) rfl rfl rfl (by decide) : mo_Sim 97 5 (ma_inv 84 2 2 10 8)) (mt_leaf (ms_if0 (e := (.ifCond .eq 11, 11, 19, 0, 0)) rfl (fun _ _ _ => rfl) : mo_Sim 97 8 (ma_if0 .eq 19 8 11)) (mt_none)))
set_option maxRecDepth 100000 in
theorem smt97_4 (k : Nat) : ∀ f, mt97_4 k = some f → mo_Sim 97 k f := mt_node (smt97_5 k) (smt97_6 k)
set_option maxRecDepth 100000 in
theorem smt97_8 (k : Nat) : ∀ f, mt97_8 k = some f → mo_Sim 97 k f := mt_leaf (ms_ald (e := (.aload_n 0, 12, 0, 0, 0)) rfl (fun _ _ _ => rfl) : mo_Sim 97 11 (ma_lda 0 12)) (mt_leaf (ms_ild (e := (.iload_n 1, 13, 0, 0, 0)) rfl (fun _ _ _ => rfl) : mo_Sim 97 12 (ma_load 0 1 13)) (mt_none))
set_option maxRecDepth 100000 in
theorem smt97_9 (k : Nat) : ∀ f, mt97_9 k = some f → mo_Sim 97 k f := mt_leaf (ms_invV (p := 1) (e := (.invokevirtual 120, 16, 124, 0, 563)) rfl rfl (fun _ _ _ => rfl) rfl rfl rfl (by decide) : mo_Sim 97 13 (ma_inv 124 2 2 11 16)) (mt_leaf (ms_if0 (e := (.ifCond .ne 6, 19, 22, 0, 0)) rfl (fun _ _ _ => rfl) : mo_Sim 97 16 (ma_if0 .ne 22 16 19)) (mt_leaf (ms_pushi (e := (.bipush (-2), 21, 0, 0, 0)) rfl (fun _ _ _ => rfl) (by decide) : mo_Sim 97 19 (ma_push (ma_ci (.negSucc 1)) 21)) (mt_none)))
set_option maxRecDepth 100000 in
theorem smt97_7 (k : Nat) : ∀ f, mt97_7 k = some f → mo_Sim 97 k f := mt_node (smt97_8 k) (smt97_9 k)
set_option maxRecDepth 100000 in
theorem smt97_3 (k : Nat) : ∀ f, mt97_3 k = some f → mo_Sim 97 k f := mt_node (smt97_4 k) (smt97_7 k)
set_option maxRecDepth 100000 in
theorem smt97_12 (k : Nat) : ∀ f, mt97_12 k = some f → mo_Sim 97 k f := mt_leaf (ms_ret (e := (.ireturn, 22, 0, 0, 0)) rfl (Or.inl ⟨rfl, rfl, (fun _ _ _ => rfl)⟩) : mo_Sim 97 21 (ma_ret 0)) (mt_leaf (ms_ald (e := (.aload_n 0, 23, 0, 0, 0)) rfl (fun _ _ _ => rfl) : mo_Sim 97 22 (ma_lda 0 23)) (mt_none))
set_option maxRecDepth 100000 in
theorem smt97_13 (k : Nat) : ∀ f, mt97_13 k = some f → mo_Sim 97 k f := mt_leaf (ms_getf (e := (.getfield 123, 26, 11, 14, 474)) rfl (fun _ _ _ => rfl) : mo_Sim 97 23 (ma_getf 11 14 26)) (mt_leaf (ms_pushi (e := (.bipush 8, 28, 0, 0, 0)) rfl (fun _ _ _ => rfl) (by decide) : mo_Sim 97 26 (ma_push (ma_ci (.ofNat 8)) 28)) (mt_leaf (ms_if2 (e := (.if_icmp .ge 16, 31, 44, 0, 0)) rfl (fun _ _ _ => rfl) : mo_Sim 97 28 (ma_if2 .ge 44 28 31)) (mt_none)))
set_option maxRecDepth 100000 in
theorem smt97_11 (k : Nat) : ∀ f, mt97_11 k = some f → mo_Sim 97 k f := mt_node (smt97_12 k) (smt97_13 k)
set_option maxRecDepth 100000 in
theorem smt97_15 (k : Nat) : ∀ f, mt97_15 k = some f → mo_Sim 97 k f := mt_leaf (ms_ild (e := (.iload_n 1, 32, 0, 0, 0)) rfl (fun _ _ _ => rfl) : mo_Sim 97 31 (ma_load 0 1 32)) (mt_leaf (ms_pushi (e := (.iconst 3, 33, 0, 0, 0)) rfl (fun _ _ _ => rfl) (by decide) : mo_Sim 97 32 (ma_push (ma_ci (.ofNat 3)) 33)) (mt_leaf (ms_if2 (e := (.if_icmp .ne 14, 36, 47, 0, 0)) rfl (fun _ _ _ => rfl) : mo_Sim 97 33 (ma_if2 .ne 47 33 36)) (mt_none)))
set_option maxRecDepth 100000 in
theorem smt97_16 (k : Nat) : ∀ f, mt97_16 k = some f → mo_Sim 97 k f := mt_leaf (ms_ald (e := (.aload_n 0, 37, 0, 0, 0)) rfl (fun _ _ _ => rfl) : mo_Sim 97 36 (ma_lda 0 37)) (mt_leaf (ms_invV (p := 0) (e := (.invokevirtual 127, 40, 127, 0, 567)) rfl rfl (fun _ _ _ => rfl) rfl rfl rfl (by decide) : mo_Sim 97 37 (ma_inv 127 1 3 11 40)) (mt_leaf (ms_pushi (e := (.iconst 2, 41, 0, 0, 0)) rfl (fun _ _ _ => rfl) (by decide) : mo_Sim 97 40 (ma_push (ma_ci (.ofNat 2)) 41)) (mt_none)))
set_option maxRecDepth 100000 in
theorem smt97_14 (k : Nat) : ∀ f, mt97_14 k = some f → mo_Sim 97 k f := mt_node (smt97_15 k) (smt97_16 k)
set_option maxRecDepth 100000 in
theorem smt97_10 (k : Nat) : ∀ f, mt97_10 k = some f → mo_Sim 97 k f := mt_node (smt97_11 k) (smt97_14 k)
set_option maxRecDepth 100000 in
theorem smt97_2 (k : Nat) : ∀ f, mt97_2 k = some f → mo_Sim 97 k f := mt_node (smt97_3 k) (smt97_10 k)
set_option maxRecDepth 100000 in
theorem smt97_20 (k : Nat) : ∀ f, mt97_20 k = some f → mo_Sim 97 k f := mt_leaf (ms_if2 (e := (.if_icmp .lt 6, 44, 47, 0, 0)) rfl (fun _ _ _ => rfl) : mo_Sim 97 41 (ma_if2 .lt 47 41 44)) (mt_leaf (ms_pushi (e := (.bipush (-8), 46, 0, 0, 0)) rfl (fun _ _ _ => rfl) (by decide) : mo_Sim 97 44 (ma_push (ma_ci (.negSucc 7)) 46)) (mt_none))
set_option maxRecDepth 100000 in
theorem smt97_21 (k : Nat) : ∀ f, mt97_21 k = some f → mo_Sim 97 k f := mt_leaf (ms_ret (e := (.ireturn, 47, 0, 0, 0)) rfl (Or.inl ⟨rfl, rfl, (fun _ _ _ => rfl)⟩) : mo_Sim 97 46 (ma_ret 0)) (mt_leaf (ms_ald (e := (.aload_n 0, 48, 0, 0, 0)) rfl (fun _ _ _ => rfl) : mo_Sim 97 47 (ma_lda 0 48)) (mt_leaf (ms_getf (e := (.getfield 19, 51, 11, 1, 461)) rfl (fun _ _ _ => rfl) : mo_Sim 97 48 (ma_getf 11 1 51)) (mt_none)))
set_option maxRecDepth 100000 in
theorem smt97_19 (k : Nat) : ∀ f, mt97_19 k = some f → mo_Sim 97 k f := mt_node (smt97_20 k) (smt97_21 k)
set_option maxRecDepth 100000 in
theorem smt97_23 (k : Nat) : ∀ f, mt97_23 k = some f → mo_Sim 97 k f := mt_leaf (ms_ild (e := (.iload_n 2, 52, 0, 0, 0)) rfl (fun _ _ _ => rfl) : mo_Sim 97 51 (ma_load 0 2 52)) (mt_leaf (ms_invV (p := 1) (e := (.invokevirtual 110, 55, 85, 0, 538)) rfl rfl (fun _ _ _ => rfl) rfl rfl rfl (by decide) : mo_Sim 97 52 (ma_inv 85 2 2 10 55)) (mt_leaf (ms_if0 (e := (.ifCond .ne 6, 58, 61, 0, 0)) rfl (fun _ _ _ => rfl) : mo_Sim 97 55 (ma_if0 .ne 61 55 58)) (mt_none)))
set_option maxRecDepth 100000 in
theorem smt97_24 (k : Nat) : ∀ f, mt97_24 k = some f → mo_Sim 97 k f := mt_leaf (ms_pushi (e := (.bipush (-5), 60, 0, 0, 0)) rfl (fun _ _ _ => rfl) (by decide) : mo_Sim 97 58 (ma_push (ma_ci (.negSucc 4)) 60)) (mt_leaf (ms_ret (e := (.ireturn, 61, 0, 0, 0)) rfl (Or.inl ⟨rfl, rfl, (fun _ _ _ => rfl)⟩) : mo_Sim 97 60 (ma_ret 0)) (mt_leaf (ms_ald (e := (.aload_n 0, 62, 0, 0, 0)) rfl (fun _ _ _ => rfl) : mo_Sim 97 61 (ma_lda 0 62)) (mt_none)))
set_option maxRecDepth 100000 in
theorem smt97_22 (k : Nat) : ∀ f, mt97_22 k = some f → mo_Sim 97 k f := mt_node (smt97_23 k) (smt97_24 k)
set_option maxRecDepth 100000 in
theorem smt97_18 (k : Nat) : ∀ f, mt97_18 k = some f → mo_Sim 97 k f := mt_node (smt97_19 k) (smt97_22 k)
set_option maxRecDepth 100000 in
theorem smt97_27 (k : Nat) : ∀ f, mt97_27 k = some f → mo_Sim 97 k f := mt_leaf (ms_getf (e := (.getfield 10, 65, 11, 0, 460)) rfl (fun _ _ _ => rfl) : mo_Sim 97 62 (ma_getf 11 0 65)) (mt_leaf (ms_ild (e := (.iload_n 1, 66, 0, 0, 0)) rfl (fun _ _ _ => rfl) : mo_Sim 97 65 (ma_load 0 1 66)) (mt_none))
set_option maxRecDepth 100000 in
theorem smt97_28 (k : Nat) : ∀ f, mt97_28 k = some f → mo_Sim 97 k f := mt_leaf (ms_invV (p := 1) (e := (.invokevirtual 131, 69, 12, 0, 571)) rfl rfl (fun _ _ _ => rfl) rfl rfl rfl (by decide) : mo_Sim 97 66 (ma_inv 12 2 4 1 69)) (mt_leaf (ms_ist (e := (.istore_n 3, 70, 0, 0, 0)) rfl (fun _ _ _ => rfl) : mo_Sim 97 69 (ma_stor 0 3 70)) (mt_leaf (ms_pushi (e := (.iconst 0, 71, 0, 0, 0)) rfl (fun _ _ _ => rfl) (by decide) : mo_Sim 97 70 (ma_push (ma_ci (.ofNat 0)) 71)) (mt_none)))
set_option maxRecDepth 100000 in
theorem smt97_26 (k : Nat) : ∀ f, mt97_26 k = some f → mo_Sim 97 k f := mt_node (smt97_27 k) (smt97_28 k)
set_option maxRecDepth 100000 in
theorem smt97_30 (k : Nat) : ∀ f, mt97_30 k = some f → mo_Sim 97 k f := mt_leaf (ms_ist (e := (.istore 4, 73, 0, 0, 0)) rfl (fun _ _ _ => rfl) : mo_Sim 97 71 (ma_stor 0 4 73)) (mt_leaf (ms_ild (e := (.iload 4, 75, 0, 0, 0)) rfl (fun _ _ _ => rfl) : mo_Sim 97 73 (ma_load 0 4 75)) (mt_leaf (ms_ild (e := (.iload_n 3, 76, 0, 0, 0)) rfl (fun _ _ _ => rfl) : mo_Sim 97 75 (ma_load 0 3 76)) (mt_none)))
set_option maxRecDepth 100000 in
theorem smt97_31 (k : Nat) : ∀ f, mt97_31 k = some f → mo_Sim 97 k f := mt_leaf (ms_if2 (e := (.if_icmp .ge 54, 79, 130, 0, 0)) rfl (fun _ _ _ => rfl) : mo_Sim 97 76 (ma_if2 .ge 130 76 79)) (mt_leaf (ms_ild (e := (.iload 4, 81, 0, 0, 0)) rfl (fun _ _ _ => rfl) : mo_Sim 97 79 (ma_load 0 4 81)) (mt_leaf (ms_pushi (e := (.bipush 27, 83, 0, 0, 0)) rfl (fun _ _ _ => rfl) (by decide) : mo_Sim 97 81 (ma_push (ma_ci (.ofNat 27)) 83)) (mt_none)))
set_option maxRecDepth 100000 in
theorem smt97_29 (k : Nat) : ∀ f, mt97_29 k = some f → mo_Sim 97 k f := mt_node (smt97_30 k) (smt97_31 k)
set_option maxRecDepth 100000 in
theorem smt97_25 (k : Nat) : ∀ f, mt97_25 k = some f → mo_Sim 97 k f := mt_node (smt97_26 k) (smt97_29 k)
set_option maxRecDepth 100000 in
theorem smt97_17 (k : Nat) : ∀ f, mt97_17 k = some f → mo_Sim 97 k f := mt_node (smt97_18 k) (smt97_25 k)
set_option maxRecDepth 100000 in
theorem smt97_1 (k : Nat) : ∀ f, mt97_1 k = some f → mo_Sim 97 k f := mt_node (smt97_2 k) (smt97_17 k)
set_option maxRecDepth 100000 in
theorem smt97_36 (k : Nat) : ∀ f, mt97_36 k = some f → mo_Sim 97 k f := mt_leaf (ms_if2 (e := (.if_icmp .ge 47, 86, 130, 0, 0)) rfl (fun _ _ _ => rfl) : mo_Sim 97 83 (ma_if2 .ge 130 83 86)) (mt_leaf (ms_ald (e := (.aload_n 0, 87, 0, 0, 0)) rfl (fun _ _ _ => rfl) : mo_Sim 97 86 (ma_lda 0 87)) (mt_none))
set_option maxRecDepth 100000 in
theorem smt97_37 (k : Nat) : ∀ f, mt97_37 k = some f → mo_Sim 97 k f := mt_leaf (ms_getf (e := (.getfield 19, 90, 11, 1, 461)) rfl (fun _ _ _ => rfl) : mo_Sim 97 87 (ma_getf 11 1 90)) (mt_leaf (ms_ild (e := (.iload_n 2, 91, 0, 0, 0)) rfl (fun _ _ _ => rfl) : mo_Sim 97 90 (ma_load 0 2 91)) (mt_leaf (ms_ild (e := (.iload 4, 93, 0, 0, 0)) rfl (fun _ _ _ => rfl) : mo_Sim 97 91 (ma_load 0 4 93)) (mt_none)))
set_option maxRecDepth 100000 in
theorem smt97_35 (k : Nat) : ∀ f, mt97_35 k = some f → mo_Sim 97 k f := mt_node (smt97_36 k) (smt97_37 k)
set_option maxRecDepth 100000 in
theorem smt97_39 (k : Nat) : ∀ f, mt97_39 k = some f → mo_Sim 97 k f := mt_leaf (ms_ald (e := (.aload_n 0, 94, 0, 0, 0)) rfl (fun _ _ _ => rfl) : mo_Sim 97 93 (ma_lda 0 94)) (mt_leaf (ms_getf (e := (.getfield 10, 97, 11, 0, 460)) rfl (fun _ _ _ => rfl) : mo_Sim 97 94 (ma_getf 11 0 97)) (mt_leaf (ms_getf (e := (.getfield 135, 100, 1, 0, 112)) rfl (fun _ _ _ => rfl) : mo_Sim 97 97 (ma_getf 1 0 100)) (mt_none)))
set_option maxRecDepth 100000 in
theorem smt97_40 (k : Nat) : ∀ f, mt97_40 k = some f → mo_Sim 97 k f := mt_leaf (ms_pushi (e := (.iconst 1, 101, 0, 0, 0)) rfl (fun _ _ _ => rfl) (by decide) : mo_Sim 97 100 (ma_push (ma_ci (.ofNat 1)) 101)) (mt_leaf (ms_isub (e := (.isub, 102, 0, 0, 0)) rfl (fun _ _ _ => rfl) : mo_Sim 97 101 (ma_isub 101 102)) (mt_leaf (ms_invV (p := 3) (e := (.invokevirtual 138, 105, 89, 0, 575)) rfl rfl (fun _ _ _ => rfl) rfl rfl rfl (by decide) : mo_Sim 97 102 (ma_inv 89 4 6 10 105)) (mt_none)))
set_option maxRecDepth 100000 in
theorem smt97_38 (k : Nat) : ∀ f, mt97_38 k = some f → mo_Sim 97 k f := mt_node (smt97_39 k) (smt97_40 k)
set_option maxRecDepth 100000 in
theorem smt97_34 (k : Nat) : ∀ f, mt97_34 k = some f → mo_Sim 97 k f := mt_node (smt97_35 k) (smt97_38 k)
set_option maxRecDepth 100000 in
theorem smt97_43 (k : Nat) : ∀ f, mt97_43 k = some f → mo_Sim 97 k f := mt_leaf (ms_ist (e := (.istore 5, 107, 0, 0, 0)) rfl (fun _ _ _ => rfl) : mo_Sim 97 105 (ma_stor 0 5 107)) (mt_leaf (ms_ild (e := (.iload 5, 109, 0, 0, 0)) rfl (fun _ _ _ => rfl) : mo_Sim 97 107 (ma_load 0 5 109)) (mt_none))
set_option maxRecDepth 100000 in
theorem smt97_44 (k : Nat) : ∀ f, mt97_44 k = some f → mo_Sim 97 k f := mt_leaf (ms_if0 (e := (.ifCond .ge 6, 112, 115, 0, 0)) rfl (fun _ _ _ => rfl) : mo_Sim 97 109 (ma_if0 .ge 115 109 112)) (mt_leaf (ms_ild (e := (.iload 5, 114, 0, 0, 0)) rfl (fun _ _ _ => rfl) : mo_Sim 97 112 (ma_load 0 5 114)) (mt_leaf (ms_ret (e := (.ireturn, 115, 0, 0, 0)) rfl (Or.inl ⟨rfl, rfl, (fun _ _ _ => rfl)⟩) : mo_Sim 97 114 (ma_ret 0)) (mt_none)))
set_option maxRecDepth 100000 in
theorem smt97_42 (k : Nat) : ∀ f, mt97_42 k = some f → mo_Sim 97 k f := mt_node (smt97_43 k) (smt97_44 k)
set_option maxRecDepth 100000 in
theorem smt97_46 (k : Nat) : ∀ f, mt97_46 k = some f → mo_Sim 97 k f := mt_leaf (ms_ald (e := (.aload_n 0, 116, 0, 0, 0)) rfl (fun _ _ _ => rfl) : mo_Sim 97 115 (ma_lda 0 116)) (mt_leaf (ms_getf (e := (.getfield 93, 119, 11, 13, 473)) rfl (fun _ _ _ => rfl) : mo_Sim 97 116 (ma_getf 11 13 119)) (mt_leaf (ms_ild (e := (.iload 4, 121, 0, 0, 0)) rfl (fun _ _ _ => rfl) : mo_Sim 97 119 (ma_load 0 4 121)) (mt_none)))
set_option maxRecDepth 100000 in
theorem smt97_47 (k : Nat) : ∀ f, mt97_47 k = some f → mo_Sim 97 k f := mt_leaf (ms_ild (e := (.iload 5, 123, 0, 0, 0)) rfl (fun _ _ _ => rfl) : mo_Sim 97 121 (ma_load 0 5 123)) (mt_leaf (ms_iast (e := (.iastore, 124, 0, 0, 0)) rfl rfl (fun _ _ _ => rfl) : mo_Sim 97 123 (ma_ast 13 0 123 124)) (mt_leaf (ms_iinc (e := (.iinc 4 1, 127, 0, 0, 0)) rfl (fun _ _ _ => rfl) (by decide) : mo_Sim 97 124 (ma_iinc 4 (.ofNat 1) 124 127)) (mt_none)))
set_option maxRecDepth 100000 in
theorem smt97_45 (k : Nat) : ∀ f, mt97_45 k = some f → mo_Sim 97 k f := mt_node (smt97_46 k) (smt97_47 k)
set_option maxRecDepth 100000 in
theorem smt97_41 (k : Nat) : ∀ f, mt97_41 k = some f → mo_Sim 97 k f := mt_node (smt97_42 k) (smt97_45 k)
set_option maxRecDepth 100000 in
theorem smt97_33 (k : Nat) : ∀ f, mt97_33 k = some f → mo_Sim 97 k f := mt_node (smt97_34 k) (smt97_41 k)
set_option maxRecDepth 100000 in
theorem smt97_51 (k : Nat) : ∀ f, mt97_51 k = some f → mo_Sim 97 k f := mt_leaf (ms_goto (e := (.goto (-54), 130, 73, 0, 0)) rfl (fun _ _ _ => rfl) : mo_Sim 97 127 (ma_goto 73)) (mt_leaf (ms_ald (e := (.aload_n 0, 131, 0, 0, 0)) rfl (fun _ _ _ => rfl) : mo_Sim 97 130 (ma_lda 0 131)) (mt_none))
set_option maxRecDepth 100000 in
theorem smt97_52 (k : Nat) : ∀ f, mt97_52 k = some f → mo_Sim 97 k f := mt_leaf (ms_getf (e := (.getfield 25, 134, 11, 2, 462)) rfl (fun _ _ _ => rfl) : mo_Sim 97 131 (ma_getf 11 2 134)) (mt_leaf (ms_ald (e := (.aload_n 0, 135, 0, 0, 0)) rfl (fun _ _ _ => rfl) : mo_Sim 97 134 (ma_lda 0 135)) (mt_leaf (ms_getf (e := (.getfield 123, 138, 11, 14, 474)) rfl (fun _ _ _ => rfl) : mo_Sim 97 135 (ma_getf 11 14 138)) (mt_none)))
set_option maxRecDepth 100000 in
theorem smt97_50 (k : Nat) : ∀ f, mt97_50 k = some f → mo_Sim 97 k f := mt_node (smt97_51 k) (smt97_52 k)
set_option maxRecDepth 100000 in
theorem smt97_54 (k : Nat) : ∀ f, mt97_54 k = some f → mo_Sim 97 k f := mt_leaf (ms_aald (e := (.aaload, 139, 0, 0, 0)) rfl (fun _ _ _ => rfl) : mo_Sim 97 138 (ma_aald 138 139)) (mt_leaf (ms_ild (e := (.iload_n 1, 140, 0, 0, 0)) rfl (fun _ _ _ => rfl) : mo_Sim 97 139 (ma_load 0 1 140)) (mt_leaf (ms_ald (e := (.aload_n 0, 141, 0, 0, 0)) rfl (fun _ _ _ => rfl) : mo_Sim 97 140 (ma_lda 0 141)) (mt_none)))
set_option maxRecDepth 100000 in
theorem smt97_55 (k : Nat) : ∀ f, mt97_55 k = some f → mo_Sim 97 k f := mt_leaf (ms_getf (e := (.getfield 93, 144, 11, 13, 473)) rfl (fun _ _ _ => rfl) : mo_Sim 97 141 (ma_getf 11 13 144)) (mt_leaf (ms_ald (e := (.aload_n 0, 145, 0, 0, 0)) rfl (fun _ _ _ => rfl) : mo_Sim 97 144 (ma_lda 0 145)) (mt_leaf (ms_getf (e := (.getfield 10, 148, 11, 0, 460)) rfl (fun _ _ _ => rfl) : mo_Sim 97 145 (ma_getf 11 0 148)) (mt_none)))
set_option maxRecDepth 100000 in
theorem smt97_53 (k : Nat) : ∀ f, mt97_53 k = some f → mo_Sim 97 k f := mt_node (smt97_54 k) (smt97_55 k)
set_option maxRecDepth 100000 in
theorem smt97_49 (k : Nat) : ∀ f, mt97_49 k = some f → mo_Sim 97 k f := mt_node (smt97_50 k) (smt97_53 k)
set_option maxRecDepth 100000 in
theorem smt97_58 (k : Nat) : ∀ f, mt97_58 k = some f → mo_Sim 97 k f := mt_leaf (ms_invV (p := 3) (e := (.invokevirtual 142, 151, 2, 0, 579)) rfl rfl (fun _ _ _ => rfl) rfl rfl rfl (by decide) : mo_Sim 97 148 (ma_inv 2 4 7 0 151)) (mt_leaf (ms_ald (e := (.aload_n 0, 152, 0, 0, 0)) rfl (fun _ _ _ => rfl) : mo_Sim 97 151 (ma_lda 0 152)) (mt_none))
set_option maxRecDepth 100000 in
theorem smt97_59 (k : Nat) : ∀ f, mt97_59 k = some f → mo_Sim 97 k f := mt_leaf (ms_invV (p := 0) (e := (.invokevirtual 146, 155, 123, 0, 452)) rfl rfl (fun _ _ _ => rfl) rfl rfl rfl (by decide) : mo_Sim 97 152 (ma_inv 123 1 2 11 155)) (mt_leaf (ms_ald (e := (.aload_n 0, 156, 0, 0, 0)) rfl (fun _ _ _ => rfl) : mo_Sim 97 155 (ma_lda 0 156)) (mt_leaf (ms_dup (e := (.dup, 157, 0, 0, 0)) rfl (fun _ _ _ => rfl) : mo_Sim 97 156 (ma_dup 157)) (mt_none)))
set_option maxRecDepth 100000 in
theorem smt97_57 (k : Nat) : ∀ f, mt97_57 k = some f → mo_Sim 97 k f := mt_node (smt97_58 k) (smt97_59 k)
set_option maxRecDepth 100000 in
theorem smt97_61 (k : Nat) : ∀ f, mt97_61 k = some f → mo_Sim 97 k f := mt_leaf (ms_getf (e := (.getfield 123, 160, 11, 14, 474)) rfl (fun _ _ _ => rfl) : mo_Sim 97 157 (ma_getf 11 14 160)) (mt_leaf (ms_dx1 (e := (.dup_x1, 161, 0, 0, 0)) rfl (fun _ _ _ => rfl) : mo_Sim 97 160 (ma_dx1 161)) (mt_leaf (ms_pushi (e := (.iconst 1, 162, 0, 0, 0)) rfl (fun _ _ _ => rfl) (by decide) : mo_Sim 97 161 (ma_push (ma_ci (.ofNat 1)) 162)) (mt_none)))
set_option maxRecDepth 100000 in
theorem smt97_62 (k : Nat) : ∀ f, mt97_62 k = some f → mo_Sim 97 k f := mt_leaf (ms_iadd (e := (.iadd, 163, 0, 0, 0)) rfl (fun _ _ _ => rfl) : mo_Sim 97 162 (ma_iadd 162 163)) (mt_leaf (ms_putf (e := (.putfield 123, 166, 11, 14, 474)) rfl rfl (fun _ _ _ => rfl) (Or.inl ⟨rfl, rfl⟩) : mo_Sim 97 163 (ma_putf 11 14 0 166)) (mt_leaf (ms_ret (e := (.ireturn, 167, 0, 0, 0)) rfl (Or.inl ⟨rfl, rfl, (fun _ _ _ => rfl)⟩) : mo_Sim 97 166 (ma_ret 0)) (mt_none)))
set_option maxRecDepth 100000 in
theorem smt97_60 (k : Nat) : ∀ f, mt97_60 k = some f → mo_Sim 97 k f := mt_node (smt97_61 k) (smt97_62 k)
set_option maxRecDepth 100000 in
theorem smt97_56 (k : Nat) : ∀ f, mt97_56 k = some f → mo_Sim 97 k f := mt_node (smt97_57 k) (smt97_60 k)
set_option maxRecDepth 100000 in
theorem smt97_48 (k : Nat) : ∀ f, mt97_48 k = some f → mo_Sim 97 k f := mt_node (smt97_49 k) (smt97_56 k)
set_option maxRecDepth 100000 in
theorem smt97_32 (k : Nat) : ∀ f, mt97_32 k = some f → mo_Sim 97 k f := mt_node (smt97_33 k) (smt97_48 k)
set_option maxRecDepth 100000 in
theorem smt97_0 (k : Nat) : ∀ f, mt97_0 k = some f → mo_Sim 97 k f := mt_node (smt97_1 k) (smt97_32 k)
set_option maxRecDepth 100000 in
theorem smt98_4 (k : Nat) : ∀ f, mt98_4 k = some f → mo_Sim 98 k f := mt_leaf (ms_ald (e := (.aload_n 0, 1, 0, 0, 0)) rfl (fun _ _ _ => rfl) : mo_Sim 98 0 (ma_lda 0 1)) (mt_leaf (ms_getf (e := (.getfield 19, 4, 11, 1, 461)) rfl (fun _ _ _ => rfl) : mo_Sim 98 1 (ma_getf 11 1 4)) (mt_leaf (ms_ild (e := (.iload_n 2, 5, 0, 0, 0)) rfl (fun _ _ _ => rfl) : mo_Sim 98 4 (ma_load 0 2 5)) (mt_none)))
set_option maxRecDepth 100000 in
theorem smt98_5 (k : Nat) : ∀ f, mt98_5 k = some f → mo_Sim 98 k f := mt_leaf (ms_invV (p := 1) (e := (.invokevirtual 102, 8, 84, 0, 526)) rfl rfl (fun _ _ _ => rfl) rfl rfl rfl (by decide) : mo_Sim 98 5 (ma_inv 84 2 2 10 8)) (mt_leaf (ms_if0 (e := (.ifCond .eq 11, 11, 19, 0, 0)) rfl (fun _ _ _ => rfl) : mo_Sim 98 8 (ma_if0 .eq 19 8 11)) (mt_leaf (ms_ald (e := (.aload_n 0, 12, 0, 0, 0)) rfl (fun _ _ _ => rfl) : mo_Sim 98 11 (ma_lda 0 12)) (mt_none)))
set_option maxRecDepth 100000 in
theorem smt98_3 (k : Nat) : ∀ f, mt98_3 k = some f → mo_Sim 98 k f := mt_node (smt98_4 k) (smt98_5 k)
set_option maxRecDepth 100000 in
theorem smt98_7 (k : Nat) : ∀ f, mt98_7 k = some f → mo_Sim 98 k f := mt_leaf (ms_ild (e := (.iload_n 1, 13, 0, 0, 0)) rfl (fun _ _ _ => rfl) : mo_Sim 98 12 (ma_load 0 1 13)) (mt_leaf (ms_invV (p := 1) (e := (.invokevirtual 120, 16, 124, 0, 563)) rfl rfl (fun _ _ _ => rfl) rfl rfl rfl (by decide) : mo_Sim 98 13 (ma_inv 124 2 2 11 16)) (mt_leaf (ms_if0 (e := (.ifCond .ne 6, 19, 22, 0, 0)) rfl (fun _ _ _ => rfl) : mo_Sim 98 16 (ma_if0 .ne 22 16 19)) (mt_none)))
set_option maxRecDepth 100000 in
theorem smt98_8 (k : Nat) : ∀ f, mt98_8 k = some f → mo_Sim 98 k f := mt_leaf (ms_pushi (e := (.bipush (-2), 21, 0, 0, 0)) rfl (fun _ _ _ => rfl) (by decide) : mo_Sim 98 19 (ma_push (ma_ci (.negSucc 1)) 21)) (mt_leaf (ms_ret (e := (.ireturn, 22, 0, 0, 0)) rfl (Or.inl ⟨rfl, rfl, (fun _ _ _ => rfl)⟩) : mo_Sim 98 21 (ma_ret 0)) (mt_leaf (ms_ald (e := (.aload_n 0, 23, 0, 0, 0)) rfl (fun _ _ _ => rfl) : mo_Sim 98 22 (ma_lda 0 23)) (mt_none)))
set_option maxRecDepth 100000 in
theorem smt98_6 (k : Nat) : ∀ f, mt98_6 k = some f → mo_Sim 98 k f := mt_node (smt98_7 k) (smt98_8 k)
set_option maxRecDepth 100000 in
theorem smt98_2 (k : Nat) : ∀ f, mt98_2 k = some f → mo_Sim 98 k f := mt_node (smt98_3 k) (smt98_6 k)
set_option maxRecDepth 100000 in
theorem smt98_11 (k : Nat) : ∀ f, mt98_11 k = some f → mo_Sim 98 k f := mt_leaf (ms_getf (e := (.getfield 149, 26, 11, 15, 475)) rfl (fun _ _ _ => rfl) : mo_Sim 98 23 (ma_getf 11 15 26)) (mt_leaf (ms_pushi (e := (.bipush 12, 28, 0, 0, 0)) rfl (fun _ _ _ => rfl) (by decide) : mo_Sim 98 26 (ma_push (ma_ci (.ofNat 12)) 28)) (mt_leaf (ms_if2 (e := (.if_icmp .lt 6, 31, 34, 0, 0)) rfl (fun _ _ _ => rfl) : mo_Sim 98 28 (ma_if2 .lt 34 28 31)) (mt_none)))
set_option maxRecDepth 100000 in
theorem smt98_12 (k : Nat) : ∀ f, mt98_12 k = some f → mo_Sim 98 k f := mt_leaf (ms_pushi (e := (.bipush (-8), 33, 0, 0, 0)) rfl (fun _ _ _ => rfl) (by decide) : mo_Sim 98 31 (ma_push (ma_ci (.negSucc 7)) 33)) (mt_leaf (ms_ret (e := (.ireturn, 34, 0, 0, 0)) rfl (Or.inl ⟨rfl, rfl, (fun _ _ _ => rfl)⟩) : mo_Sim 98 33 (ma_ret 0)) (mt_leaf (ms_ald (e := (.aload_n 0, 35, 0, 0, 0)) rfl (fun _ _ _ => rfl) : mo_Sim 98 34 (ma_lda 0 35)) (mt_none)))
set_option maxRecDepth 100000 in
theorem smt98_10 (k : Nat) : ∀ f, mt98_10 k = some f → mo_Sim 98 k f := mt_node (smt98_11 k) (smt98_12 k)
set_option maxRecDepth 100000 in
theorem smt98_14 (k : Nat) : ∀ f, mt98_14 k = some f → mo_Sim 98 k f := mt_leaf (ms_getf (e := (.getfield 19, 38, 11, 1, 461)) rfl (fun _ _ _ => rfl) : mo_Sim 98 35 (ma_getf 11 1 38)) (mt_leaf (ms_ild (e := (.iload_n 2, 39, 0, 0, 0)) rfl (fun _ _ _ => rfl) : mo_Sim 98 38 (ma_load 0 2 39)) (mt_leaf (ms_invV (p := 1) (e := (.invokevirtual 110, 42, 85, 0, 538)) rfl rfl (fun _ _ _ => rfl) rfl rfl rfl (by decide) : mo_Sim 98 39 (ma_inv 85 2 2 10 42)) (mt_none)))
set_option maxRecDepth 100000 in
theorem smt98_15 (k : Nat) : ∀ f, mt98_15 k = some f → mo_Sim 98 k f := mt_leaf (ms_if0 (e := (.ifCond .ne 6, 45, 48, 0, 0)) rfl (fun _ _ _ => rfl) : mo_Sim 98 42 (ma_if0 .ne 48 42 45)) (mt_leaf (ms_pushi (e := (.bipush (-5), 47, 0, 0, 0)) rfl (fun _ _ _ => rfl) (by decide) : mo_Sim 98 45 (ma_push (ma_ci (.negSucc 4)) 47)) (mt_leaf (ms_ret (e := (.ireturn, 48, 0, 0, 0)) rfl (Or.inl ⟨rfl, rfl, (fun _ _ _ => rfl)⟩) : mo_Sim 98 47 (ma_ret 0)) (mt_leaf (ms_ald (e := (.aload_n 0, 49, 0, 0, 0)) rfl (fun _ _ _ => rfl) : mo_Sim 98 48 (ma_lda 0 49)) (mt_none))))
set_option maxRecDepth 100000 in
theorem smt98_13 (k : Nat) : ∀ f, mt98_13 k = some f → mo_Sim 98 k f := mt_node (smt98_14 k) (smt98_15 k)
set_option maxRecDepth 100000 in
theorem smt98_9 (k : Nat) : ∀ f, mt98_9 k = some f → mo_Sim 98 k f := mt_node (smt98_10 k) (smt98_13 k)
set_option maxRecDepth 100000 in
theorem smt98_1 (k : Nat) : ∀ f, mt98_1 k = some f → mo_Sim 98 k f := mt_node (smt98_2 k) (smt98_9 k)
set_option maxRecDepth 100000 in
theorem smt98_19 (k : Nat) : ∀ f, mt98_19 k = some f → mo_Sim 98 k f := mt_leaf (ms_ild (e := (.iload_n 1, 50, 0, 0, 0)) rfl (fun _ _ _ => rfl) : mo_Sim 98 49 (ma_load 0 1 50)) (mt_leaf (ms_ild (e := (.iload_n 2, 51, 0, 0, 0)) rfl (fun _ _ _ => rfl) : mo_Sim 98 50 (ma_load 0 2 51)) (mt_leaf (ms_invV (p := 2) (e := (.invokevirtual 152, 54, 128, 0, 588)) rfl rfl (fun _ _ _ => rfl) rfl rfl rfl (by decide) : mo_Sim 98 51 (ma_inv 128 3 10 11 54)) (mt_none)))
set_option maxRecDepth 100000 in
theorem smt98_20 (k : Nat) : ∀ f, mt98_20 k = some f → mo_Sim 98 k f := mt_leaf (ms_ist (e := (.istore_n 3, 55, 0, 0, 0)) rfl (fun _ _ _ => rfl) : mo_Sim 98 54 (ma_stor 0 3 55)) (mt_leaf (ms_ild (e := (.iload_n 3, 56, 0, 0, 0)) rfl (fun _ _ _ => rfl) : mo_Sim 98 55 (ma_load 0 3 56)) (mt_leaf (ms_if0 (e := (.ifCond .ge 5, 59, 61, 0, 0)) rfl (fun _ _ _ => rfl) : mo_Sim 98 56 (ma_if0 .ge 61 56 59)) (mt_none)))
set_option maxRecDepth 100000 in
theorem smt98_18 (k : Nat) : ∀ f, mt98_18 k = some f → mo_Sim 98 k f := mt_node (smt98_19 k) (smt98_20 k)
set_option maxRecDepth 100000 in
theorem smt98_22 (k : Nat) : ∀ f, mt98_22 k = some f → mo_Sim 98 k f := mt_leaf (ms_ild (e := (.iload_n 3, 60, 0, 0, 0)) rfl (fun _ _ _ => rfl) : mo_Sim 98 59 (ma_load 0 3 60)) (mt_leaf (ms_ret (e := (.ireturn, 61, 0, 0, 0)) rfl (Or.inl ⟨rfl, rfl, (fun _ _ _ => rfl)⟩) : mo_Sim 98 60 (ma_ret 0)) (mt_leaf (ms_ald (e := (.aload_n 0, 62, 0, 0, 0)) rfl (fun _ _ _ => rfl) : mo_Sim 98 61 (ma_lda 0 62)) (mt_none)))
set_option maxRecDepth 100000 in
theorem smt98_23 (k : Nat) : ∀ f, mt98_23 k = some f → mo_Sim 98 k f := mt_leaf (ms_getf (e := (.getfield 31, 65, 11, 3, 463)) rfl (fun _ _ _ => rfl) : mo_Sim 98 62 (ma_getf 11 3 65)) (mt_leaf (ms_ald (e := (.aload_n 0, 66, 0, 0, 0)) rfl (fun _ _ _ => rfl) : mo_Sim 98 65 (ma_lda 0 66)) (mt_leaf (ms_getf (e := (.getfield 149, 69, 11, 15, 475)) rfl (fun _ _ _ => rfl) : mo_Sim 98 66 (ma_getf 11 15 69)) (mt_leaf (ms_aald (e := (.aaload, 70, 0, 0, 0)) rfl (fun _ _ _ => rfl) : mo_Sim 98 69 (ma_aald 69 70)) (mt_none))))
set_option maxRecDepth 100000 in
theorem smt98_21 (k : Nat) : ∀ f, mt98_21 k = some f → mo_Sim 98 k f := mt_node (smt98_22 k) (smt98_23 k)
set_option maxRecDepth 100000 in
theorem smt98_17 (k : Nat) : ∀ f, mt98_17 k = some f → mo_Sim 98 k f := mt_node (smt98_18 k) (smt98_21 k)
set_option maxRecDepth 100000 in
theorem smt98_26 (k : Nat) : ∀ f, mt98_26 k = some f → mo_Sim 98 k f := mt_leaf (ms_ild (e := (.iload_n 1, 71, 0, 0, 0)) rfl (fun _ _ _ => rfl) : mo_Sim 98 70 (ma_load 0 1 71)) (mt_leaf (ms_ild (e := (.iload_n 3, 72, 0, 0, 0)) rfl (fun _ _ _ => rfl) : mo_Sim 98 71 (ma_load 0 3 72)) (mt_leaf (ms_ald (e := (.aload_n 0, 73, 0, 0, 0)) rfl (fun _ _ _ => rfl) : mo_Sim 98 72 (ma_lda 0 73)) (mt_none)))
set_option maxRecDepth 100000 in
theorem smt98_27 (k : Nat) : ∀ f, mt98_27 k = some f → mo_Sim 98 k f := mt_leaf (ms_getf (e := (.getfield 10, 76, 11, 0, 460)) rfl (fun _ _ _ => rfl) : mo_Sim 98 73 (ma_getf 11 0 76)) (mt_leaf (ms_invV (p := 3) (e := (.invokevirtual 156, 79, 36, 0, 592)) rfl rfl (fun _ _ _ => rfl) rfl rfl rfl (by decide) : mo_Sim 98 76 (ma_inv 36 4 6 4 79)) (mt_leaf (ms_ald (e := (.aload_n 0, 80, 0, 0, 0)) rfl (fun _ _ _ => rfl) : mo_Sim 98 79 (ma_lda 0 80)) (mt_none)))
set_option maxRecDepth 100000 in
theorem smt98_25 (k : Nat) : ∀ f, mt98_25 k = some f → mo_Sim 98 k f := mt_node (smt98_26 k) (smt98_27 k)
set_option maxRecDepth 100000 in
theorem smt98_29 (k : Nat) : ∀ f, mt98_29 k = some f → mo_Sim 98 k f := mt_leaf (ms_dup (e := (.dup, 81, 0, 0, 0)) rfl (fun _ _ _ => rfl) : mo_Sim 98 80 (ma_dup 81)) (mt_leaf (ms_getf (e := (.getfield 149, 84, 11, 15, 475)) rfl (fun _ _ _ => rfl) : mo_Sim 98 81 (ma_getf 11 15 84)) (mt_leaf (ms_dx1 (e := (.dup_x1, 85, 0, 0, 0)) rfl (fun _ _ _ => rfl) : mo_Sim 98 84 (ma_dx1 85)) (mt_none)))
set_option maxRecDepth 100000 in
theorem smt98_30 (k : Nat) : ∀ f, mt98_30 k = some f → mo_Sim 98 k f := mt_leaf (ms_pushi (e := (.iconst 1, 86, 0, 0, 0)) rfl (fun _ _ _ => rfl) (by decide) : mo_Sim 98 85 (ma_push (ma_ci (.ofNat 1)) 86)) (mt_leaf (ms_iadd (e := (.iadd, 87, 0, 0, 0)) rfl (fun _ _ _ => rfl) : mo_Sim 98 86 (ma_iadd 86 87)) (mt_leaf (ms_putf (e := (.putfield 149, 90, 11, 15, 475)) rfl rfl (fun _ _ _ => rfl) (Or.inl ⟨rfl, rfl⟩) : mo_Sim 98 87 (ma_putf 11 15 0 90)) (mt_leaf (ms_ret (e := (.ireturn, 91, 0, 0, 0)) rfl (Or.inl ⟨rfl, rfl, (fun _ _ _ => rfl)⟩) : mo_Sim 98 90 (ma_ret 0)) (mt_none))))
set_option maxRecDepth 100000 in
theorem smt98_28 (k : Nat) : ∀ f, mt98_28 k = some f → mo_Sim 98 k f := mt_node (smt98_29 k) (smt98_30 k)
set_option maxRecDepth 100000 in
theorem smt98_24 (k : Nat) : ∀ f, mt98_24 k = some f → mo_Sim 98 k f := mt_node (smt98_25 k) (smt98_28 k)
set_option maxRecDepth 100000 in
theorem smt98_16 (k : Nat) : ∀ f, mt98_16 k = some f → mo_Sim 98 k f := mt_node (smt98_17 k) (smt98_24 k)
set_option maxRecDepth 100000 in
theorem smt98_0 (k : Nat) : ∀ f, mt98_0 k = some f → mo_Sim 98 k f := mt_node (smt98_1 k) (smt98_16 k)
set_option maxRecDepth 100000 in
theorem smt99_3 (k : Nat) : ∀ f, mt99_3 k = some f → mo_Sim 99 k f := mt_leaf (ms_ald (e := (.aload_n 0, 1, 0, 0, 0)) rfl (fun _ _ _ => rfl) : mo_Sim 99 0 (ma_lda 0 1)) (mt_leaf (ms_ild (e := (.iload_n 1, 2, 0, 0, 0)) rfl (fun _ _ _ => rfl) : mo_Sim 99 1 (ma_load 0 1 2)) (mt_none))
set_option maxRecDepth 100000 in
theorem smt99_4 (k : Nat) : ∀ f, mt99_4 k = some f → mo_Sim 99 k f := mt_leaf (ms_invV (p := 1) (e := (.invokevirtual 159, 5, 125, 0, 609)) rfl rfl (fun _ _ _ => rfl) rfl rfl rfl (by decide) : mo_Sim 99 2 (ma_inv 125 2 2 11 5)) (mt_leaf (ms_if0 (e := (.ifCond .eq 20, 8, 25, 0, 0)) rfl (fun _ _ _ => rfl) : mo_Sim 99 5 (ma_if0 .eq 25 5 8)) (mt_leaf (ms_ild (e := (.iload_n 2, 9, 0, 0, 0)) rfl (fun _ _ _ => rfl) : mo_Sim 99 8 (ma_load 0 2 9)) (mt_none)))
set_option maxRecDepth 100000 in
theorem smt99_2 (k : Nat) : ∀ f, mt99_2 k = some f → mo_Sim 99 k f := mt_node (smt99_3 k) (smt99_4 k)
set_option maxRecDepth 100000 in
theorem smt99_6 (k : Nat) : ∀ f, mt99_6 k = some f → mo_Sim 99 k f := mt_leaf (ms_if0 (e := (.ifCond .lt 16, 12, 25, 0, 0)) rfl (fun _ _ _ => rfl) : mo_Sim 99 9 (ma_if0 .lt 25 9 12)) (mt_leaf (ms_ild (e := (.iload_n 2, 13, 0, 0, 0)) rfl (fun _ _ _ => rfl) : mo_Sim 99 12 (ma_load 0 2 13)) (mt_leaf (ms_ald (e := (.aload_n 0, 14, 0, 0, 0)) rfl (fun _ _ _ => rfl) : mo_Sim 99 13 (ma_lda 0 14)) (mt_none)))
set_option maxRecDepth 100000 in
theorem smt99_7 (k : Nat) : ∀ f, mt99_7 k = some f → mo_Sim 99 k f := mt_leaf (ms_getf (e := (.getfield 25, 17, 11, 2, 462)) rfl (fun _ _ _ => rfl) : mo_Sim 99 14 (ma_getf 11 2 17)) (mt_leaf (ms_ild (e := (.iload_n 1, 18, 0, 0, 0)) rfl (fun _ _ _ => rfl) : mo_Sim 99 17 (ma_load 0 1 18)) (mt_leaf (ms_aald (e := (.aaload, 19, 0, 0, 0)) rfl (fun _ _ _ => rfl) : mo_Sim 99 18 (ma_aald 18 19)) (mt_none)))
set_option maxRecDepth 100000 in
theorem smt99_5 (k : Nat) : ∀ f, mt99_5 k = some f → mo_Sim 99 k f := mt_node (smt99_6 k) (smt99_7 k)
set_option maxRecDepth 100000 in
theorem smt99_1 (k : Nat) : ∀ f, mt99_1 k = some f → mo_Sim 99 k f := mt_node (smt99_2 k) (smt99_5 k)
set_option maxRecDepth 100000 in
theorem smt99_10 (k : Nat) : ∀ f, mt99_10 k = some f → mo_Sim 99 k f := mt_leaf (ms_getf (e := (.getfield 162, 22, 0, 1, 394)) rfl (fun _ _ _ => rfl) : mo_Sim 99 19 (ma_getf 0 1 22)) (mt_leaf (ms_if2 (e := (.if_icmp .lt 5, 25, 27, 0, 0)) rfl (fun _ _ _ => rfl) : mo_Sim 99 22 (ma_if2 .lt 27 22 25)) (mt_leaf (ms_pushi (e := (.iconst (-1), 26, 0, 0, 0)) rfl (fun _ _ _ => rfl) (by decide) : mo_Sim 99 25 (ma_push (ma_ci (.negSucc 0)) 26)) (mt_none)))
set_option maxRecDepth 100000 in
theorem smt99_11 (k : Nat) : ∀ f, mt99_11 k = some f → mo_Sim 99 k f := mt_leaf (ms_ret (e := (.ireturn, 27, 0, 0, 0)) rfl (Or.inl ⟨rfl, rfl, (fun _ _ _ => rfl)⟩) : mo_Sim 99 26 (ma_ret 0)) (mt_leaf (ms_ald (e := (.aload_n 0, 28, 0, 0, 0)) rfl (fun _ _ _ => rfl) : mo_Sim 99 27 (ma_lda 0 28)) (mt_leaf (ms_getf (e := (.getfield 25, 31, 11, 2, 462)) rfl (fun _ _ _ => rfl) : mo_Sim 99 28 (ma_getf 11 2 31)) (mt_none)))
set_option maxRecDepth 100000 in
theorem smt99_9 (k : Nat) : ∀ f, mt99_9 k = some f → mo_Sim 99 k f := mt_node (smt99_10 k) (smt99_11 k)
set_option maxRecDepth 100000 in
theorem smt99_13 (k : Nat) : ∀ f, mt99_13 k = some f → mo_Sim 99 k f := mt_leaf (ms_ild (e := (.iload_n 1, 32, 0, 0, 0)) rfl (fun _ _ _ => rfl) : mo_Sim 99 31 (ma_load 0 1 32)) (mt_leaf (ms_aald (e := (.aaload, 33, 0, 0, 0)) rfl (fun _ _ _ => rfl) : mo_Sim 99 32 (ma_aald 32 33)) (mt_leaf (ms_getf (e := (.getfield 165, 36, 0, 2, 398)) rfl (fun _ _ _ => rfl) : mo_Sim 99 33 (ma_getf 0 2 36)) (mt_none)))
set_option maxRecDepth 100000 in
theorem smt99_14 (k : Nat) : ∀ f, mt99_14 k = some f → mo_Sim 99 k f := mt_leaf (ms_ild (e := (.iload_n 2, 37, 0, 0, 0)) rfl (fun _ _ _ => rfl) : mo_Sim 99 36 (ma_load 0 2 37)) (mt_leaf (ms_iald (e := (.iaload, 38, 0, 0, 0)) rfl (fun _ _ _ => rfl) : mo_Sim 99 37 (ma_iald 37 38)) (mt_leaf (ms_ret (e := (.ireturn, 39, 0, 0, 0)) rfl (Or.inl ⟨rfl, rfl, (fun _ _ _ => rfl)⟩) : mo_Sim 99 38 (ma_ret 0)) (mt_none)))
set_option maxRecDepth 100000 in
theorem smt99_12 (k : Nat) : ∀ f, mt99_12 k = some f → mo_Sim 99 k f := mt_node (smt99_13 k) (smt99_14 k)
set_option maxRecDepth 100000 in
theorem smt99_8 (k : Nat) : ∀ f, mt99_8 k = some f → mo_Sim 99 k f := mt_node (smt99_9 k) (smt99_12 k)
set_option maxRecDepth 100000 in
theorem smt99_0 (k : Nat) : ∀ f, mt99_0 k = some f → mo_Sim 99 k f := mt_node (smt99_1 k) (smt99_8 k)
set_option maxRecDepth 100000 in
theorem smt100_2 (k : Nat) : ∀ f, mt100_2 k = some f → mo_Sim 100 k f := mt_leaf (ms_ald (e := (.aload_n 0, 1, 0, 0, 0)) rfl (fun _ _ _ => rfl) : mo_Sim 100 0 (ma_lda 0 1)) (mt_leaf (ms_ild (e := (.iload_n 1, 2, 0, 0, 0)) rfl (fun _ _ _ => rfl) : mo_Sim 100 1 (ma_load 0 1 2)) (mt_leaf (ms_invV (p := 1) (e := (.invokevirtual 168, 5, 126, 0, 617)) rfl rfl (fun _ _ _ => rfl) rfl rfl rfl (by decide) : mo_Sim 100 2 (ma_inv 126 2 2 11 5)) (mt_none)))
set_option maxRecDepth 100000 in
theorem smt100_3 (k : Nat) : ∀ f, mt100_3 k = some f → mo_Sim 100 k f := mt_leaf (ms_if0 (e := (.ifCond .eq 16, 8, 21, 0, 0)) rfl (fun _ _ _ => rfl) : mo_Sim 100 5 (ma_if0 .eq 21 5 8)) (mt_leaf (ms_ald (e := (.aload_n 0, 9, 0, 0, 0)) rfl (fun _ _ _ => rfl) : mo_Sim 100 8 (ma_lda 0 9)) (mt_leaf (ms_getf (e := (.getfield 31, 12, 11, 3, 463)) rfl (fun _ _ _ => rfl) : mo_Sim 100 9 (ma_getf 11 3 12)) (mt_none)))
set_option maxRecDepth 100000 in
theorem smt100_1 (k : Nat) : ∀ f, mt100_1 k = some f → mo_Sim 100 k f := mt_node (smt100_2 k) (smt100_3 k)
set_option maxRecDepth 100000 in
theorem smt100_5 (k : Nat) : ∀ f, mt100_5 k = some f → mo_Sim 100 k f := mt_leaf (ms_ild (e := (.iload_n 1, 13, 0, 0, 0)) rfl (fun _ _ _ => rfl) : mo_Sim 100 12 (ma_load 0 1 13)) (mt_leaf (ms_aald (e := (.aaload, 14, 0, 0, 0)) rfl (fun _ _ _ => rfl) : mo_Sim 100 13 (ma_aald 13 14)) (mt_leaf (ms_getf (e := (.getfield 171, 17, 4, 1, 361)) rfl (fun _ _ _ => rfl) : mo_Sim 100 14 (ma_getf 4 1 17)) (mt_none)))
set_option maxRecDepth 100000 in
theorem smt100_6 (k : Nat) : ∀ f, mt100_6 k = some f → mo_Sim 100 k f := mt_leaf (ms_i2l (e := (.i2l, 18, 0, 0, 0)) rfl (fun _ _ _ => rfl) : mo_Sim 100 17 (ma_i2l 18)) (mt_leaf (ms_goto (e := (.goto 6, 21, 24, 0, 0)) rfl (fun _ _ _ => rfl) : mo_Sim 100 18 (ma_goto 24)) (mt_leaf (ms_pushl (e := (.ldc2_w 174, 24, 18446744073709551615, 0, 621)) rfl (fun _ _ _ => rfl) (by decide) : mo_Sim 100 21 (ma_push (ma_cl (.negSucc 0)) 24)) (mt_leaf (ms_ret (e := (.lreturn, 25, 0, 0, 0)) rfl (Or.inr (Or.inr (Or.inr ⟨rfl, rfl, (fun _ _ _ => rfl)⟩))) : mo_Sim 100 24 (ma_ret 3)) (mt_none))))
set_option maxRecDepth 100000 in
theorem smt100_4 (k : Nat) : ∀ f, mt100_4 k = some f → mo_Sim 100 k f := mt_node (smt100_5 k) (smt100_6 k)
set_option maxRecDepth 100000 in
theorem smt100_0 (k : Nat) : ∀ f, mt100_0 k = some f → mo_Sim 100 k f := mt_node (smt100_1 k) (smt100_4 k)
set_option maxRecDepth 100000 in
theorem smt101_3 (k : Nat) : ∀ f, mt101_3 k = some f → mo_Sim 101 k f := mt_leaf (ms_ald (e := (.aload_n 0, 1, 0, 0, 0)) rfl (fun _ _ _ => rfl) : mo_Sim 101 0 (ma_lda 0 1)) (mt_leaf (ms_ild (e := (.iload_n 1, 2, 0, 0, 0)) rfl (fun _ _ _ => rfl) : mo_Sim 101 1 (ma_load 0 1 2)) (mt_leaf (ms_invV (p := 1) (e := (.invokevirtual 159, 5, 125, 0, 609)) rfl rfl (fun _ _ _ => rfl) rfl rfl rfl (by decide) : mo_Sim 101 2 (ma_inv 125 2 2 11 5)) (mt_none)))
set_option maxRecDepth 100000 in
theorem smt101_4 (k : Nat) : ∀ f, mt101_4 k = some f → mo_Sim 101 k f := mt_leaf (ms_if0 (e := (.ifCond .eq 11, 8, 16, 0, 0)) rfl (fun _ _ _ => rfl) : mo_Sim 101 5 (ma_if0 .eq 16 5 8)) (mt_leaf (ms_ald (e := (.aload_n 0, 9, 0, 0, 0)) rfl (fun _ _ _ => rfl) : mo_Sim 101 8 (ma_lda 0 9)) (mt_leaf (ms_ild (e := (.iload_n 2, 10, 0, 0, 0)) rfl (fun _ _ _ => rfl) : mo_Sim 101 9 (ma_load 0 2 10)) (mt_leaf (ms_invV (p := 1) (e := (.invokevirtual 168, 13, 126, 0, 617)) rfl rfl (fun _ _ _ => rfl) rfl rfl rfl (by decide) : mo_Sim 101 10 (ma_inv 126 2 2 11 13)) (mt_none))))
set_option maxRecDepth 100000 in
theorem smt101_2 (k : Nat) : ∀ f, mt101_2 k = some f → mo_Sim 101 k f := mt_node (smt101_3 k) (smt101_4 k)
set_option maxRecDepth 100000 in
theorem smt101_6 (k : Nat) : ∀ f, mt101_6 k = some f → mo_Sim 101 k f := mt_leaf (ms_if0 (e := (.ifCond .ne 5, 16, 18, 0, 0)) rfl (fun _ _ _ => rfl) : mo_Sim 101 13 (ma_if0 .ne 18 13 16)) (mt_leaf (ms_pushi (e := (.iconst (-1), 17, 0, 0, 0)) rfl (fun _ _ _ => rfl) (by decide) : mo_Sim 101 16 (ma_push (ma_ci (.negSucc 0)) 17)) (mt_leaf (ms_ret (e := (.ireturn, 18, 0, 0, 0)) rfl (Or.inl ⟨rfl, rfl, (fun _ _ _ => rfl)⟩) : mo_Sim 101 17 (ma_ret 0)) (mt_none)))
set_option maxRecDepth 100000 in
theorem smt101_7 (k : Nat) : ∀ f, mt101_7 k = some f → mo_Sim 101 k f := mt_leaf (ms_ald (e := (.aload_n 0, 19, 0, 0, 0)) rfl (fun _ _ _ => rfl) : mo_Sim 101 18 (ma_lda 0 19)) (mt_leaf (ms_getf (e := (.getfield 31, 22, 11, 3, 463)) rfl (fun _ _ _ => rfl) : mo_Sim 101 19 (ma_getf 11 3 22)) (mt_leaf (ms_ild (e := (.iload_n 2, 23, 0, 0, 0)) rfl (fun _ _ _ => rfl) : mo_Sim 101 22 (ma_load 0 2 23)) (mt_leaf (ms_aald (e := (.aaload, 24, 0, 0, 0)) rfl (fun _ _ _ => rfl) : mo_Sim 101 23 (ma_aald 23 24)) (mt_none))))
set_option maxRecDepth 100000 in
theorem smt101_5 (k : Nat) : ∀ f, mt101_5 k = some f → mo_Sim 101 k f := mt_node (smt101_6 k) (smt101_7 k)
set_option maxRecDepth 100000 in
theorem smt101_1 (k : Nat) : ∀ f, mt101_1 k = some f → mo_Sim 101 k f := mt_node (smt101_2 k) (smt101_5 k)
set_option maxRecDepth 100000 in
theorem smt101_10 (k : Nat) : ∀ f, mt101_10 k = some f → mo_Sim 101 k f := mt_leaf (ms_ald (e := (.aload_n 0, 25, 0, 0, 0)) rfl (fun _ _ _ => rfl) : mo_Sim 101 24 (ma_lda 0 25)) (mt_leaf (ms_getf (e := (.getfield 25, 28, 11, 2, 462)) rfl (fun _ _ _ => rfl) : mo_Sim 101 25 (ma_getf 11 2 28)) (mt_leaf (ms_ild (e := (.iload_n 1, 29, 0, 0, 0)) rfl (fun _ _ _ => rfl) : mo_Sim 101 28 (ma_load 0 1 29)) (mt_none)))
set_option maxRecDepth 100000 in
theorem smt101_11 (k : Nat) : ∀ f, mt101_11 k = some f → mo_Sim 101 k f := mt_leaf (ms_aald (e := (.aaload, 30, 0, 0, 0)) rfl (fun _ _ _ => rfl) : mo_Sim 101 29 (ma_aald 29 30)) (mt_leaf (ms_ald (e := (.aload_n 0, 31, 0, 0, 0)) rfl (fun _ _ _ => rfl) : mo_Sim 101 30 (ma_lda 0 31)) (mt_leaf (ms_getf (e := (.getfield 10, 34, 11, 0, 460)) rfl (fun _ _ _ => rfl) : mo_Sim 101 31 (ma_getf 11 0 34)) (mt_leaf (ms_ald (e := (.aload_n 0, 35, 0, 0, 0)) rfl (fun _ _ _ => rfl) : mo_Sim 101 34 (ma_lda 0 35)) (mt_none))))
set_option maxRecDepth 100000 in
theorem smt101_9 (k : Nat) : ∀ f, mt101_9 k = some f → mo_Sim 101 k f := mt_node (smt101_10 k) (smt101_11 k)
set_option maxRecDepth 100000 in
theorem smt101_13 (k : Nat) : ∀ f, mt101_13 k = some f → mo_Sim 101 k f := mt_leaf (ms_getf (e := (.getfield 89, 38, 11, 12, 472)) rfl (fun _ _ _ => rfl) : mo_Sim 101 35 (ma_getf 11 12 38)) (mt_leaf (ms_invV (p := 3) (e := (.invokevirtual 176, 41, 38, 0, 626)) rfl rfl (fun _ _ _ => rfl) rfl rfl rfl (by decide) : mo_Sim 101 38 (ma_inv 38 4 9 4 41)) (mt_leaf (ms_if0 (e := (.ifCond .eq 7, 44, 48, 0, 0)) rfl (fun _ _ _ => rfl) : mo_Sim 101 41 (ma_if0 .eq 48 41 44)) (mt_none)))
set_option maxRecDepth 100000 in
theorem smt101_14 (k : Nat) : ∀ f, mt101_14 k = some f → mo_Sim 101 k f := mt_leaf (ms_pushi (e := (.iconst 1, 45, 0, 0, 0)) rfl (fun _ _ _ => rfl) (by decide) : mo_Sim 101 44 (ma_push (ma_ci (.ofNat 1)) 45)) (mt_leaf (ms_goto (e := (.goto 4, 48, 49, 0, 0)) rfl (fun _ _ _ => rfl) : mo_Sim 101 45 (ma_goto 49)) (mt_leaf (ms_pushi (e := (.iconst 0, 49, 0, 0, 0)) rfl (fun _ _ _ => rfl) (by decide) : mo_Sim 101 48 (ma_push (ma_ci (.ofNat 0)) 49)) (mt_leaf (ms_ret (e := (.ireturn, 50, 0, 0, 0)) rfl (Or.inl ⟨rfl, rfl, (fun _ _ _ => rfl)⟩) : mo_Sim 101 49 (ma_ret 0)) (mt_none))))
set_option maxRecDepth 100000 in
theorem smt101_12 (k : Nat) : ∀ f, mt101_12 k = some f → mo_Sim 101 k f := mt_node (smt101_13 k) (smt101_14 k)
set_option maxRecDepth 100000 in
theorem smt101_8 (k : Nat) : ∀ f, mt101_8 k = some f → mo_Sim 101 k f := mt_node (smt101_9 k) (smt101_12 k)
set_option maxRecDepth 100000 in
theorem smt101_0 (k : Nat) : ∀ f, mt101_0 k = some f → mo_Sim 101 k f := mt_node (smt101_1 k) (smt101_8 k)
set_option maxRecDepth 100000 in
theorem smt102_4 (k : Nat) : ∀ f, mt102_4 k = some f → mo_Sim 102 k f := mt_leaf (ms_ald (e := (.aload_n 0, 1, 0, 0, 0)) rfl (fun _ _ _ => rfl) : mo_Sim 102 0 (ma_lda 0 1)) (mt_leaf (ms_ild (e := (.iload_n 1, 2, 0, 0, 0)) rfl (fun _ _ _ => rfl) : mo_Sim 102 1 (ma_load 0 1 2)) (mt_leaf (ms_invV (p := 1) (e := (.invokevirtual 168, 5, 126, 0, 617)) rfl rfl (fun _ _ _ => rfl) rfl rfl rfl (by decide) : mo_Sim 102 2 (ma_inv 126 2 2 11 5)) (mt_none)))
set_option maxRecDepth 100000 in
theorem smt102_5 (k : Nat) : ∀ f, mt102_5 k = some f → mo_Sim 102 k f := mt_leaf (ms_if0 (e := (.ifCond .ne 7, 8, 12, 0, 0)) rfl (fun _ _ _ => rfl) : mo_Sim 102 5 (ma_if0 .ne 12 5 8)) (mt_leaf (ms_pushl (e := (.ldc2_w 174, 11, 18446744073709551615, 0, 621)) rfl (fun _ _ _ => rfl) (by decide) : mo_Sim 102 8 (ma_push (ma_cl (.negSucc 0)) 11)) (mt_leaf (ms_ret (e := (.lreturn, 12, 0, 0, 0)) rfl (Or.inr (Or.inr (Or.inr ⟨rfl, rfl, (fun _ _ _ => rfl)⟩))) : mo_Sim 102 11 (ma_ret 3)) (mt_leaf (ms_ald (e := (.aload_n 0, 13, 0, 0, 0)) rfl (fun _ _ _ => rfl) : mo_Sim 102 12 (ma_lda 0 13)) (mt_none))))
set_option maxRecDepth 100000 in
theorem smt102_3 (k : Nat) : ∀ f, mt102_3 k = some f → mo_Sim 102 k f := mt_node (smt102_4 k) (smt102_5 k)
set_option maxRecDepth 100000 in
theorem smt102_7 (k : Nat) : ∀ f, mt102_7 k = some f → mo_Sim 102 k f := mt_leaf (ms_getf (e := (.getfield 82, 16, 11, 11, 471)) rfl (fun _ _ _ => rfl) : mo_Sim 102 13 (ma_getf 11 11 16)) (mt_leaf (ms_ald (e := (.aload_n 0, 17, 0, 0, 0)) rfl (fun _ _ _ => rfl) : mo_Sim 102 16 (ma_lda 0 17)) (mt_leaf (ms_getf (e := (.getfield 31, 20, 11, 3, 463)) rfl (fun _ _ _ => rfl) : mo_Sim 102 17 (ma_getf 11 3 20)) (mt_leaf (ms_ild (e := (.iload_n 1, 21, 0, 0, 0)) rfl (fun _ _ _ => rfl) : mo_Sim 102 20 (ma_load 0 1 21)) (mt_none))))
set_option maxRecDepth 100000 in
theorem smt102_8 (k : Nat) : ∀ f, mt102_8 k = some f → mo_Sim 102 k f := mt_leaf (ms_aald (e := (.aaload, 22, 0, 0, 0)) rfl (fun _ _ _ => rfl) : mo_Sim 102 21 (ma_aald 21 22)) (mt_leaf (ms_getf (e := (.getfield 180, 25, 4, 0, 359)) rfl (fun _ _ _ => rfl) : mo_Sim 102 22 (ma_getf 4 0 25)) (mt_leaf (ms_ald (e := (.aload_n 0, 26, 0, 0, 0)) rfl (fun _ _ _ => rfl) : mo_Sim 102 25 (ma_lda 0 26)) (mt_leaf (ms_getf (e := (.getfield 31, 29, 11, 3, 463)) rfl (fun _ _ _ => rfl) : mo_Sim 102 26 (ma_getf 11 3 29)) (mt_none))))
set_option maxRecDepth 100000 in
theorem smt102_6 (k : Nat) : ∀ f, mt102_6 k = some f → mo_Sim 102 k f := mt_node (smt102_7 k) (smt102_8 k)
set_option maxRecDepth 100000 in
theorem smt102_2 (k : Nat) : ∀ f, mt102_2 k = some f → mo_Sim 102 k f := mt_node (smt102_3 k) (smt102_6 k)
set_option maxRecDepth 100000 in
theorem smt102_11 (k : Nat) : ∀ f, mt102_11 k = some f → mo_Sim 102 k f := mt_leaf (ms_ild (e := (.iload_n 1, 30, 0, 0, 0)) rfl (fun _ _ _ => rfl) : mo_Sim 102 29 (ma_load 0 1 30)) (mt_leaf (ms_aald (e := (.aaload, 31, 0, 0, 0)) rfl (fun _ _ _ => rfl) : mo_Sim 102 30 (ma_aald 30 31)) (mt_leaf (ms_getf (e := (.getfield 171, 34, 4, 1, 361)) rfl (fun _ _ _ => rfl) : mo_Sim 102 31 (ma_getf 4 1 34)) (mt_leaf (ms_ald (e := (.aload_n 0, 35, 0, 0, 0)) rfl (fun _ _ _ => rfl) : mo_Sim 102 34 (ma_lda 0 35)) (mt_none))))
set_option maxRecDepth 100000 in
theorem smt102_12 (k : Nat) : ∀ f, mt102_12 k = some f → mo_Sim 102 k f := mt_leaf (ms_getf (e := (.getfield 10, 38, 11, 0, 460)) rfl (fun _ _ _ => rfl) : mo_Sim 102 35 (ma_getf 11 0 38)) (mt_leaf (ms_invV (p := 3) (e := (.invokevirtual 156, 41, 36, 0, 592)) rfl rfl (fun _ _ _ => rfl) rfl rfl rfl (by decide) : mo_Sim 102 38 (ma_inv 36 4 6 4 41)) (mt_leaf (ms_pushi (e := (.iconst 1, 42, 0, 0, 0)) rfl (fun _ _ _ => rfl) (by decide) : mo_Sim 102 41 (ma_push (ma_ci (.ofNat 1)) 42)) (mt_leaf (ms_ist (e := (.istore_n 2, 43, 0, 0, 0)) rfl (fun _ _ _ => rfl) : mo_Sim 102 42 (ma_stor 0 2 43)) (mt_none))))
set_option maxRecDepth 100000 in
theorem smt102_10 (k : Nat) : ∀ f, mt102_10 k = some f → mo_Sim 102 k f := mt_node (smt102_11 k) (smt102_12 k)
set_option maxRecDepth 100000 in
theorem smt102_14 (k : Nat) : ∀ f, mt102_14 k = some f → mo_Sim 102 k f := mt_leaf (ms_pushi (e := (.iconst 0, 44, 0, 0, 0)) rfl (fun _ _ _ => rfl) (by decide) : mo_Sim 102 43 (ma_push (ma_ci (.ofNat 0)) 44)) (mt_leaf (ms_ist (e := (.istore_n 3, 45, 0, 0, 0)) rfl (fun _ _ _ => rfl) : mo_Sim 102 44 (ma_stor 0 3 45)) (mt_leaf (ms_ild (e := (.iload_n 3, 46, 0, 0, 0)) rfl (fun _ _ _ => rfl) : mo_Sim 102 45 (ma_load 0 3 46)) (mt_leaf (ms_pushi (e := (.bipush 27, 48, 0, 0, 0)) rfl (fun _ _ _ => rfl) (by decide) : mo_Sim 102 46 (ma_push (ma_ci (.ofNat 27)) 48)) (mt_none))))
set_option maxRecDepth 100000 in
theorem smt102_15 (k : Nat) : ∀ f, mt102_15 k = some f → mo_Sim 102 k f := mt_leaf (ms_if2 (e := (.if_icmp .gt 58, 51, 106, 0, 0)) rfl (fun _ _ _ => rfl) : mo_Sim 102 48 (ma_if2 .gt 106 48 51)) (mt_leaf (ms_ild (e := (.iload_n 2, 52, 0, 0, 0)) rfl (fun _ _ _ => rfl) : mo_Sim 102 51 (ma_load 0 2 52)) (mt_leaf (ms_if0 (e := (.ifCond .eq 54, 55, 106, 0, 0)) rfl (fun _ _ _ => rfl) : mo_Sim 102 52 (ma_if0 .eq 106 52 55)) (mt_leaf (ms_pushi (e := (.iconst 0, 56, 0, 0, 0)) rfl (fun _ _ _ => rfl) (by decide) : mo_Sim 102 55 (ma_push (ma_ci (.ofNat 0)) 56)) (mt_none))))
set_option maxRecDepth 100000 in
theorem smt102_13 (k : Nat) : ∀ f, mt102_13 k = some f → mo_Sim 102 k f := mt_node (smt102_14 k) (smt102_15 k)
set_option maxRecDepth 100000 in
theorem smt102_9 (k : Nat) : ∀ f, mt102_9 k = some f → mo_Sim 102 k f := mt_node (smt102_10 k) (smt102_13 k)
set_option maxRecDepth 100000 in
theorem smt102_1 (k : Nat) : ∀ f, mt102_1 k = some f → mo_Sim 102 k f := mt_node (smt102_2 k) (smt102_9 k)
set_option maxRecDepth 100000 in
theorem smt102_19 (k : Nat) : ∀ f, mt102_19 k = some f → mo_Sim 102 k f := mt_leaf (ms_ist (e := (.istore_n 2, 57, 0, 0, 0)) rfl (fun _ _ _ => rfl) : mo_Sim 102 56 (ma_stor 0 2 57)) (mt_leaf (ms_pushi (e := (.iconst 0, 58, 0, 0, 0)) rfl (fun _ _ _ => rfl) (by decide) : mo_Sim 102 57 (ma_push (ma_ci (.ofNat 0)) 58)) (mt_leaf (ms_ist (e := (.istore 4, 60, 0, 0, 0)) rfl (fun _ _ _ => rfl) : mo_Sim 102 58 (ma_stor 0 4 60)) (mt_leaf (ms_ild (e := (.iload 4, 62, 0, 0, 0)) rfl (fun _ _ _ => rfl) : mo_Sim 102 60 (ma_load 0 4 62)) (mt_none))))
set_option maxRecDepth 100000 in
theorem smt102_20 (k : Nat) : ∀ f, mt102_20 k = some f → mo_Sim 102 k f := mt_leaf (ms_ald (e := (.aload_n 0, 63, 0, 0, 0)) rfl (fun _ _ _ => rfl) : mo_Sim 102 62 (ma_lda 0 63)) (mt_leaf (ms_getf (e := (.getfield 123, 66, 11, 14, 474)) rfl (fun _ _ _ => rfl) : mo_Sim 102 63 (ma_getf 11 14 66)) (mt_leaf (ms_if2 (e := (.if_icmp .ge 34, 69, 100, 0, 0)) rfl (fun _ _ _ => rfl) : mo_Sim 102 66 (ma_if2 .ge 100 66 69)) (mt_leaf (ms_ild (e := (.iload_n 2, 70, 0, 0, 0)) rfl (fun _ _ _ => rfl) : mo_Sim 102 69 (ma_load 0 2 70)) (mt_none))))
set_option maxRecDepth 100000 in
theorem smt102_18 (k : Nat) : ∀ f, mt102_18 k = some f → mo_Sim 102 k f := mt_node (smt102_19 k) (smt102_20 k)
set_option maxRecDepth 100000 in
theorem smt102_22 (k : Nat) : ∀ f, mt102_22 k = some f → mo_Sim 102 k f := mt_leaf (ms_ald (e := (.aload_n 0, 71, 0, 0, 0)) rfl (fun _ _ _ => rfl) : mo_Sim 102 70 (ma_lda 0 71)) (mt_leaf (ms_getf (e := (.getfield 82, 74, 11, 11, 471)) rfl (fun _ _ _ => rfl) : mo_Sim 102 71 (ma_getf 11 11 74)) (mt_leaf (ms_ald (e := (.aload_n 0, 75, 0, 0, 0)) rfl (fun _ _ _ => rfl) : mo_Sim 102 74 (ma_lda 0 75)) (mt_leaf (ms_getf (e := (.getfield 25, 78, 11, 2, 462)) rfl (fun _ _ _ => rfl) : mo_Sim 102 75 (ma_getf 11 2 78)) (mt_none))))
set_option maxRecDepth 100000 in
theorem smt102_23 (k : Nat) : ∀ f, mt102_23 k = some f → mo_Sim 102 k f := mt_leaf (ms_ild (e := (.iload 4, 80, 0, 0, 0)) rfl (fun _ _ _ => rfl) : mo_Sim 102 78 (ma_load 0 4 80)) (mt_leaf (ms_aald (e := (.aaload, 81, 0, 0, 0)) rfl (fun _ _ _ => rfl) : mo_Sim 102 80 (ma_aald 80 81)) (mt_leaf (ms_ald (e := (.aload_n 0, 82, 0, 0, 0)) rfl (fun _ _ _ => rfl) : mo_Sim 102 81 (ma_lda 0 82)) (mt_leaf (ms_getf (e := (.getfield 10, 85, 11, 0, 460)) rfl (fun _ _ _ => rfl) : mo_Sim 102 82 (ma_getf 11 0 85)) (mt_none))))
set_option maxRecDepth 100000 in
theorem smt102_21 (k : Nat) : ∀ f, mt102_21 k = some f → mo_Sim 102 k f := mt_node (smt102_22 k) (smt102_23 k)
set_option maxRecDepth 100000 in
theorem smt102_17 (k : Nat) : ∀ f, mt102_17 k = some f → mo_Sim 102 k f := mt_node (smt102_18 k) (smt102_21 k)
set_option maxRecDepth 100000 in
theorem smt102_26 (k : Nat) : ∀ f, mt102_26 k = some f → mo_Sim 102 k f := mt_leaf (ms_ald (e := (.aload_n 0, 86, 0, 0, 0)) rfl (fun _ _ _ => rfl) : mo_Sim 102 85 (ma_lda 0 86)) (mt_leaf (ms_getf (e := (.getfield 89, 89, 11, 12, 472)) rfl (fun _ _ _ => rfl) : mo_Sim 102 86 (ma_getf 11 12 89)) (mt_leaf (ms_invV (p := 3) (e := (.invokevirtual 183, 92, 39, 0, 645)) rfl rfl (fun _ _ _ => rfl) rfl rfl rfl (by decide) : mo_Sim 102 89 (ma_inv 39 4 10 4 92)) (mt_leaf (ms_i2 (e := (.ior, 93, 0, 0, 0)) rfl (fun _ _ _ => rfl) hf_or : mo_Sim 102 92 (ma_i2 ma_for 92 93)) (mt_none))))
set_option maxRecDepth 100000 in
theorem smt102_27 (k : Nat) : ∀ f, mt102_27 k = some f → mo_Sim 102 k f := mt_leaf (ms_ist (e := (.istore_n 2, 94, 0, 0, 0)) rfl (fun _ _ _ => rfl) : mo_Sim 102 93 (ma_stor 0 2 94)) (mt_leaf (ms_iinc (e := (.iinc 4 1, 97, 0, 0, 0)) rfl (fun _ _ _ => rfl) (by decide) : mo_Sim 102 94 (ma_iinc 4 (.ofNat 1) 94 97)) (mt_leaf (ms_goto (e := (.goto (-37), 100, 60, 0, 0)) rfl (fun _ _ _ => rfl) : mo_Sim 102 97 (ma_goto 60)) (mt_leaf (ms_iinc (e := (.iinc 3 1, 103, 0, 0, 0)) rfl (fun _ _ _ => rfl) (by decide) : mo_Sim 102 100 (ma_iinc 3 (.ofNat 1) 100 103)) (mt_none))))
set_option maxRecDepth 100000 in
theorem smt102_25 (k : Nat) : ∀ f, mt102_25 k = some f → mo_Sim 102 k f := mt_node (smt102_26 k) (smt102_27 k)
set_option maxRecDepth 100000 in
theorem smt102_29 (k : Nat) : ∀ f, mt102_29 k = some f → mo_Sim 102 k f := mt_leaf (ms_goto (e := (.goto (-58), 106, 45, 0, 0)) rfl (fun _ _ _ => rfl) : mo_Sim 102 103 (ma_goto 45)) (mt_leaf (ms_ald (e := (.aload_n 0, 107, 0, 0, 0)) rfl (fun _ _ _ => rfl) : mo_Sim 102 106 (ma_lda 0 107)) (mt_leaf (ms_getf (e := (.getfield 82, 110, 11, 11, 471)) rfl (fun _ _ _ => rfl) : mo_Sim 102 107 (ma_getf 11 11 110)) (mt_leaf (ms_ald (e := (.aload_n 0, 111, 0, 0, 0)) rfl (fun _ _ _ => rfl) : mo_Sim 102 110 (ma_lda 0 111)) (mt_none))))
set_option maxRecDepth 100000 in
theorem smt102_30 (k : Nat) : ∀ f, mt102_30 k = some f → mo_Sim 102 k f := mt_leaf (ms_getf (e := (.getfield 10, 114, 11, 0, 460)) rfl (fun _ _ _ => rfl) : mo_Sim 102 111 (ma_getf 11 0 114)) (mt_leaf (ms_invV (p := 1) (e := (.invokevirtual 186, 117, 40, 0, 649)) rfl rfl (fun _ _ _ => rfl) rfl rfl rfl (by decide) : mo_Sim 102 114 (ma_inv 40 2 5 4 117)) (mt_leaf (ms_i2l (e := (.i2l, 118, 0, 0, 0)) rfl (fun _ _ _ => rfl) : mo_Sim 102 117 (ma_i2l 118)) (mt_leaf (ms_ret (e := (.lreturn, 119, 0, 0, 0)) rfl (Or.inr (Or.inr (Or.inr ⟨rfl, rfl, (fun _ _ _ => rfl)⟩))) : mo_Sim 102 118 (ma_ret 3)) (mt_none))))
set_option maxRecDepth 100000 in
theorem smt102_28 (k : Nat) : ∀ f, mt102_28 k = some f → mo_Sim 102 k f := mt_node (smt102_29 k) (smt102_30 k)
set_option maxRecDepth 100000 in
theorem smt102_24 (k : Nat) : ∀ f, mt102_24 k = some f → mo_Sim 102 k f := mt_node (smt102_25 k) (smt102_28 k)
set_option maxRecDepth 100000 in
theorem smt102_16 (k : Nat) : ∀ f, mt102_16 k = some f → mo_Sim 102 k f := mt_node (smt102_17 k) (smt102_24 k)
set_option maxRecDepth 100000 in
theorem smt102_0 (k : Nat) : ∀ f, mt102_0 k = some f → mo_Sim 102 k f := mt_node (smt102_1 k) (smt102_16 k)
set_option maxRecDepth 100000 in
theorem smt103_3 (k : Nat) : ∀ f, mt103_3 k = some f → mo_Sim 103 k f := mt_leaf (ms_ild (e := (.iload_n 1, 1, 0, 0, 0)) rfl (fun _ _ _ => rfl) : mo_Sim 103 0 (ma_load 0 1 1)) (mt_leaf (ms_pushi (e := (.iconst 1, 2, 0, 0, 0)) rfl (fun _ _ _ => rfl) (by decide) : mo_Sim 103 1 (ma_push (ma_ci (.ofNat 1)) 2)) (mt_leaf (ms_if2 (e := (.if_icmp .eq 10, 5, 12, 0, 0)) rfl (fun _ _ _ => rfl) : mo_Sim 103 2 (ma_if2 .eq 12 2 5)) (mt_leaf (ms_ild (e := (.iload_n 1, 6, 0, 0, 0)) rfl (fun _ _ _ => rfl) : mo_Sim 103 5 (ma_load 0 1 6)) (mt_none))))
set_option maxRecDepth 100000 in
theorem smt103_5 (k : Nat) : ∀ f, mt103_5 k = some f → mo_Sim 103 k f := mt_leaf (ms_pushi (e := (.iconst 2, 7, 0, 0, 0)) rfl (fun _ _ _ => rfl) (by decide) : mo_Sim 103 6 (ma_push (ma_ci (.ofNat 2)) 7)) (mt_leaf (ms_if2 (e := (.if_icmp .eq 5, 10, 12, 0, 0)) rfl (fun _ _ _ => rfl) : mo_Sim 103 7 (ma_if2 .eq 12 7 10)) (mt_none))
set_option maxRecDepth 100000 in
theorem smt103_6 (k : Nat) : ∀ f, mt103_6 k = some f → mo_Sim 103 k f := mt_leaf (ms_pushi (e := (.iconst (-1), 11, 0, 0, 0)) rfl (fun _ _ _ => rfl) (by decide) : mo_Sim 103 10 (ma_push (ma_ci (.negSucc 0)) 11)) (mt_leaf (ms_ret (e := (.ireturn, 12, 0, 0, 0)) rfl (Or.inl ⟨rfl, rfl, (fun _ _ _ => rfl)⟩) : mo_Sim 103 11 (ma_ret 0)) (mt_leaf (ms_pushi (e := (.iconst 1, 13, 0, 0, 0)) rfl (fun _ _ _ => rfl) (by decide) : mo_Sim 103 12 (ma_push (ma_ci (.ofNat 1)) 13)) (mt_none)))
set_option maxRecDepth 100000 in
theorem smt103_4 (k : Nat) : ∀ f, mt103_4 k = some f → mo_Sim 103 k f := mt_node (smt103_5 k) (smt103_6 k)
set_option maxRecDepth 100000 in
theorem smt103_2 (k : Nat) : ∀ f, mt103_2 k = some f → mo_Sim 103 k f := mt_node (smt103_3 k) (smt103_4 k)
set_option maxRecDepth 100000 in
theorem smt103_8 (k : Nat) : ∀ f, mt103_8 k = some f → mo_Sim 103 k f := mt_leaf (ms_ald (e := (.aload_n 0, 14, 0, 0, 0)) rfl (fun _ _ _ => rfl) : mo_Sim 103 13 (ma_lda 0 14)) (mt_leaf (ms_getf (e := (.getfield 10, 17, 11, 0, 460)) rfl (fun _ _ _ => rfl) : mo_Sim 103 14 (ma_getf 11 0 17)) (mt_leaf (ms_ild (e := (.iload_n 1, 18, 0, 0, 0)) rfl (fun _ _ _ => rfl) : mo_Sim 103 17 (ma_load 0 1 18)) (mt_leaf (ms_invV (p := 1) (e := (.invokevirtual 131, 21, 12, 0, 571)) rfl rfl (fun _ _ _ => rfl) rfl rfl rfl (by decide) : mo_Sim 103 18 (ma_inv 12 2 4 1 21)) (mt_none))))
set_option maxRecDepth 100000 in
theorem smt103_10 (k : Nat) : ∀ f, mt103_10 k = some f → mo_Sim 103 k f := mt_leaf (ms_i2 (e := (.ishl, 22, 0, 0, 0)) rfl (fun _ _ _ => rfl) hf_shl : mo_Sim 103 21 (ma_i2 ma_fshl 21 22)) (mt_leaf (ms_ist (e := (.istore_n 2, 23, 0, 0, 0)) rfl (fun _ _ _ => rfl) : mo_Sim 103 22 (ma_stor 0 2 23)) (mt_none))
set_option maxRecDepth 100000 in
theorem smt103_11 (k : Nat) : ∀ f, mt103_11 k = some f → mo_Sim 103 k f := mt_leaf (ms_pushi (e := (.iconst 0, 24, 0, 0, 0)) rfl (fun _ _ _ => rfl) (by decide) : mo_Sim 103 23 (ma_push (ma_ci (.ofNat 0)) 24)) (mt_leaf (ms_ist (e := (.istore_n 3, 25, 0, 0, 0)) rfl (fun _ _ _ => rfl) : mo_Sim 103 24 (ma_stor 0 3 25)) (mt_leaf (ms_pushi (e := (.iconst 0, 26, 0, 0, 0)) rfl (fun _ _ _ => rfl) (by decide) : mo_Sim 103 25 (ma_push (ma_ci (.ofNat 0)) 26)) (mt_none)))
set_option maxRecDepth 100000 in
theorem smt103_9 (k : Nat) : ∀ f, mt103_9 k = some f → mo_Sim 103 k f := mt_node (smt103_10 k) (smt103_11 k)
set_option maxRecDepth 100000 in
theorem smt103_7 (k : Nat) : ∀ f, mt103_7 k = some f → mo_Sim 103 k f := mt_node (smt103_8 k) (smt103_9 k)
set_option maxRecDepth 100000 in
theorem smt103_1 (k : Nat) : ∀ f, mt103_1 k = some f → mo_Sim 103 k f := mt_node (smt103_2 k) (smt103_7 k)
set_option maxRecDepth 100000 in
theorem smt103_14 (k : Nat) : ∀ f, mt103_14 k = some f → mo_Sim 103 k f := mt_leaf (ms_ist (e := (.istore 4, 28, 0, 0, 0)) rfl (fun _ _ _ => rfl) : mo_Sim 103 26 (ma_stor 0 4 28)) (mt_leaf (ms_ild (e := (.iload 4, 30, 0, 0, 0)) rfl (fun _ _ _ => rfl) : mo_Sim 103 28 (ma_load 0 4 30)) (mt_leaf (ms_ild (e := (.iload_n 2, 31, 0, 0, 0)) rfl (fun _ _ _ => rfl) : mo_Sim 103 30 (ma_load 0 2 31)) (mt_leaf (ms_if2 (e := (.if_icmp .ge 33, 34, 64, 0, 0)) rfl (fun _ _ _ => rfl) : mo_Sim 103 31 (ma_if2 .ge 64 31 34)) (mt_none))))
set_option maxRecDepth 100000 in
theorem smt103_16 (k : Nat) : ∀ f, mt103_16 k = some f → mo_Sim 103 k f := mt_leaf (ms_ald (e := (.aload_n 0, 35, 0, 0, 0)) rfl (fun _ _ _ => rfl) : mo_Sim 103 34 (ma_lda 0 35)) (mt_leaf (ms_getf (e := (.getfield 82, 38, 11, 11, 471)) rfl (fun _ _ _ => rfl) : mo_Sim 103 35 (ma_getf 11 11 38)) (mt_none))
set_option maxRecDepth 100000 in
theorem smt103_17 (k : Nat) : ∀ f, mt103_17 k = some f → mo_Sim 103 k f := mt_leaf (ms_ild (e := (.iload_n 1, 39, 0, 0, 0)) rfl (fun _ _ _ => rfl) : mo_Sim 103 38 (ma_load 0 1 39)) (mt_leaf (ms_ild (e := (.iload 4, 41, 0, 0, 0)) rfl (fun _ _ _ => rfl) : mo_Sim 103 39 (ma_load 0 4 41)) (mt_leaf (ms_ald (e := (.aload_n 0, 42, 0, 0, 0)) rfl (fun _ _ _ => rfl) : mo_Sim 103 41 (ma_lda 0 42)) (mt_none)))
set_option maxRecDepth 100000 in
theorem smt103_15 (k : Nat) : ∀ f, mt103_15 k = some f → mo_Sim 103 k f := mt_node (smt103_16 k) (smt103_17 k)
set_option maxRecDepth 100000 in
theorem smt103_13 (k : Nat) : ∀ f, mt103_13 k = some f → mo_Sim 103 k f := mt_node (smt103_14 k) (smt103_15 k)
set_option maxRecDepth 100000 in
theorem smt103_20 (k : Nat) : ∀ f, mt103_20 k = some f → mo_Sim 103 k f := mt_leaf (ms_getf (e := (.getfield 10, 45, 11, 0, 460)) rfl (fun _ _ _ => rfl) : mo_Sim 103 42 (ma_getf 11 0 45)) (mt_leaf (ms_invV (p := 3) (e := (.invokevirtual 156, 48, 36, 0, 592)) rfl rfl (fun _ _ _ => rfl) rfl rfl rfl (by decide) : mo_Sim 103 45 (ma_inv 36 4 6 4 48)) (mt_none))
set_option maxRecDepth 100000 in
theorem smt103_21 (k : Nat) : ∀ f, mt103_21 k = some f → mo_Sim 103 k f := mt_leaf (ms_ald (e := (.aload_n 0, 49, 0, 0, 0)) rfl (fun _ _ _ => rfl) : mo_Sim 103 48 (ma_lda 0 49)) (mt_leaf (ms_invV (p := 0) (e := (.invokevirtual 190, 52, 129, 0, 657)) rfl rfl (fun _ _ _ => rfl) rfl rfl rfl (by decide) : mo_Sim 103 49 (ma_inv 129 1 2 11 52)) (mt_leaf (ms_if0 (e := (.ifCond .eq 6, 55, 58, 0, 0)) rfl (fun _ _ _ => rfl) : mo_Sim 103 52 (ma_if0 .eq 58 52 55)) (mt_none)))
set_option maxRecDepth 100000 in
theorem smt103_19 (k : Nat) : ∀ f, mt103_19 k = some f → mo_Sim 103 k f := mt_node (smt103_20 k) (smt103_21 k)
set_option maxRecDepth 100000 in
theorem smt103_23 (k : Nat) : ∀ f, mt103_23 k = some f → mo_Sim 103 k f := mt_leaf (ms_iinc (e := (.iinc 3 1, 58, 0, 0, 0)) rfl (fun _ _ _ => rfl) (by decide) : mo_Sim 103 55 (ma_iinc 3 (.ofNat 1) 55 58)) (mt_leaf (ms_iinc (e := (.iinc 4 1, 61, 0, 0, 0)) rfl (fun _ _ _ => rfl) (by decide) : mo_Sim 103 58 (ma_iinc 4 (.ofNat 1) 58 61)) (mt_none))
set_option maxRecDepth 100000 in
theorem smt103_24 (k : Nat) : ∀ f, mt103_24 k = some f → mo_Sim 103 k f := mt_leaf (ms_goto (e := (.goto (-33), 64, 28, 0, 0)) rfl (fun _ _ _ => rfl) : mo_Sim 103 61 (ma_goto 28)) (mt_leaf (ms_ild (e := (.iload_n 3, 65, 0, 0, 0)) rfl (fun _ _ _ => rfl) : mo_Sim 103 64 (ma_load 0 3 65)) (mt_leaf (ms_ret (e := (.ireturn, 66, 0, 0, 0)) rfl (Or.inl ⟨rfl, rfl, (fun _ _ _ => rfl)⟩) : mo_Sim 103 65 (ma_ret 0)) (mt_none)))
set_option maxRecDepth 100000 in
theorem smt103_22 (k : Nat) : ∀ f, mt103_22 k = some f → mo_Sim 103 k f := mt_node (smt103_23 k) (smt103_24 k)
set_option maxRecDepth 100000 in
theorem smt103_18 (k : Nat) : ∀ f, mt103_18 k = some f → mo_Sim 103 k f := mt_node (smt103_19 k) (smt103_22 k)
set_option maxRecDepth 100000 in
theorem smt103_12 (k : Nat) : ∀ f, mt103_12 k = some f → mo_Sim 103 k f := mt_node (smt103_13 k) (smt103_18 k)
set_option maxRecDepth 100000 in
theorem smt103_0 (k : Nat) : ∀ f, mt103_0 k = some f → mo_Sim 103 k f := mt_node (smt103_1 k) (smt103_12 k)
set_option maxRecDepth 100000 in
theorem smt104_2 (k : Nat) : ∀ f, mt104_2 k = some f → mo_Sim 104 k f := mt_leaf (ms_ald (e := (.aload_n 0, 1, 0, 0, 0)) rfl (fun _ _ _ => rfl) : mo_Sim 104 0 (ma_lda 0 1)) (mt_leaf (ms_getf (e := (.getfield 10, 4, 11, 0, 460)) rfl (fun _ _ _ => rfl) : mo_Sim 104 1 (ma_getf 11 0 4)) (mt_leaf (ms_ild (e := (.iload_n 1, 5, 0, 0, 0)) rfl (fun _ _ _ => rfl) : mo_Sim 104 4 (ma_load 0 1 5)) (mt_leaf (ms_invV (p := 1) (e := (.invokevirtual 194, 8, 13, 0, 665)) rfl rfl (fun _ _ _ => rfl) rfl rfl rfl (by decide) : mo_Sim 104 5 (ma_inv 13 2 2 1 8)) (mt_none))))
set_option maxRecDepth 100000 in
theorem smt104_4 (k : Nat) : ∀ f, mt104_4 k = some f → mo_Sim 104 k f := mt_leaf (ms_if0 (e := (.ifCond .ne 5, 11, 13, 0, 0)) rfl (fun _ _ _ => rfl) : mo_Sim 104 8 (ma_if0 .ne 13 8 11)) (mt_leaf (ms_pushi (e := (.iconst (-1), 12, 0, 0, 0)) rfl (fun _ _ _ => rfl) (by decide) : mo_Sim 104 11 (ma_push (ma_ci (.negSucc 0)) 12)) (mt_none))
set_option maxRecDepth 100000 in
theorem smt104_5 (k : Nat) : ∀ f, mt104_5 k = some f → mo_Sim 104 k f := mt_leaf (ms_ret (e := (.ireturn, 13, 0, 0, 0)) rfl (Or.inl ⟨rfl, rfl, (fun _ _ _ => rfl)⟩) : mo_Sim 104 12 (ma_ret 0)) (mt_leaf (ms_ald (e := (.aload_n 0, 14, 0, 0, 0)) rfl (fun _ _ _ => rfl) : mo_Sim 104 13 (ma_lda 0 14)) (mt_leaf (ms_ild (e := (.iload_n 1, 15, 0, 0, 0)) rfl (fun _ _ _ => rfl) : mo_Sim 104 14 (ma_load 0 1 15)) (mt_none)))
set_option maxRecDepth 100000 in
theorem smt104_3 (k : Nat) : ∀ f, mt104_3 k = some f → mo_Sim 104 k f := mt_node (smt104_4 k) (smt104_5 k)
set_option maxRecDepth 100000 in
theorem smt104_1 (k : Nat) : ∀ f, mt104_1 k = some f → mo_Sim 104 k f := mt_node (smt104_2 k) (smt104_3 k)
set_option maxRecDepth 100000 in
theorem smt104_8 (k : Nat) : ∀ f, mt104_8 k = some f → mo_Sim 104 k f := mt_leaf (ms_invV (p := 1) (e := (.invokevirtual 197, 18, 130, 0, 669)) rfl rfl (fun _ _ _ => rfl) rfl rfl rfl (by decide) : mo_Sim 104 15 (ma_inv 130 2 3 11 18)) (mt_leaf (ms_ast0 (e := (.astore_n 2, 19, 0, 0, 0)) rfl (fun _ _ _ => rfl) : mo_Sim 104 18 (ma_sta 2 19)) (mt_none))
set_option maxRecDepth 100000 in
theorem smt104_9 (k : Nat) : ∀ f, mt104_9 k = some f → mo_Sim 104 k f := mt_leaf (ms_ald (e := (.aload_n 2, 20, 0, 0, 0)) rfl (fun _ _ _ => rfl) : mo_Sim 104 19 (ma_lda 2 20)) (mt_leaf (ms_getf (e := (.getfield 201, 23, 6, 1, 417)) rfl (fun _ _ _ => rfl) : mo_Sim 104 20 (ma_getf 6 1 23)) (mt_leaf (ms_if0 (e := (.ifCond .eq 8, 26, 31, 0, 0)) rfl (fun _ _ _ => rfl) : mo_Sim 104 23 (ma_if0 .eq 31 23 26)) (mt_none)))
set_option maxRecDepth 100000 in
theorem smt104_7 (k : Nat) : ∀ f, mt104_7 k = some f → mo_Sim 104 k f := mt_node (smt104_8 k) (smt104_9 k)
set_option maxRecDepth 100000 in
theorem smt104_11 (k : Nat) : ∀ f, mt104_11 k = some f → mo_Sim 104 k f := mt_leaf (ms_pushi (e := (.bipush (-8), 28, 0, 0, 0)) rfl (fun _ _ _ => rfl) (by decide) : mo_Sim 104 26 (ma_push (ma_ci (.negSucc 7)) 28)) (mt_leaf (ms_goto (e := (.goto 7, 31, 35, 0, 0)) rfl (fun _ _ _ => rfl) : mo_Sim 104 28 (ma_goto 35)) (mt_none))
set_option maxRecDepth 100000 in
theorem smt104_12 (k : Nat) : ∀ f, mt104_12 k = some f → mo_Sim 104 k f := mt_leaf (ms_ald (e := (.aload_n 2, 32, 0, 0, 0)) rfl (fun _ _ _ => rfl) : mo_Sim 104 31 (ma_lda 2 32)) (mt_leaf (ms_getf (e := (.getfield 205, 35, 6, 2, 420)) rfl (fun _ _ _ => rfl) : mo_Sim 104 32 (ma_getf 6 2 35)) (mt_leaf (ms_ret (e := (.ireturn, 36, 0, 0, 0)) rfl (Or.inl ⟨rfl, rfl, (fun _ _ _ => rfl)⟩) : mo_Sim 104 35 (ma_ret 0)) (mt_none)))
set_option maxRecDepth 100000 in
theorem smt104_10 (k : Nat) : ∀ f, mt104_10 k = some f → mo_Sim 104 k f := mt_node (smt104_11 k) (smt104_12 k)
set_option maxRecDepth 100000 in
theorem smt104_6 (k : Nat) : ∀ f, mt104_6 k = some f → mo_Sim 104 k f := mt_node (smt104_7 k) (smt104_10 k)
set_option maxRecDepth 100000 in
theorem smt104_0 (k : Nat) : ∀ f, mt104_0 k = some f → mo_Sim 104 k f := mt_node (smt104_1 k) (smt104_6 k)
set_option maxRecDepth 100000 in
theorem smt105_3 (k : Nat) : ∀ f, mt105_3 k = some f → mo_Sim 105 k f := mt_leaf (ms_ald (e := (.aload_n 0, 1, 0, 0, 0)) rfl (fun _ _ _ => rfl) : mo_Sim 105 0 (ma_lda 0 1)) (mt_leaf (ms_getf (e := (.getfield 10, 4, 11, 0, 460)) rfl (fun _ _ _ => rfl) : mo_Sim 105 1 (ma_getf 11 0 4)) (mt_leaf (ms_ild (e := (.iload_n 1, 5, 0, 0, 0)) rfl (fun _ _ _ => rfl) : mo_Sim 105 4 (ma_load 0 1 5)) (mt_leaf (ms_invV (p := 1) (e := (.invokevirtual 194, 8, 13, 0, 665)) rfl rfl (fun _ _ _ => rfl) rfl rfl rfl (by decide) : mo_Sim 105 5 (ma_inv 13 2 2 1 8)) (mt_none))))
set_option maxRecDepth 100000 in
theorem smt105_5 (k : Nat) : ∀ f, mt105_5 k = some f → mo_Sim 105 k f := mt_leaf (ms_if0 (e := (.ifCond .eq 12, 11, 20, 0, 0)) rfl (fun _ _ _ => rfl) : mo_Sim 105 8 (ma_if0 .eq 20 8 11)) (mt_leaf (ms_ild (e := (.iload_n 3, 12, 0, 0, 0)) rfl (fun _ _ _ => rfl) : mo_Sim 105 11 (ma_load 0 3 12)) (mt_none))
set_option maxRecDepth 100000 in
theorem smt105_6 (k : Nat) : ∀ f, mt105_6 k = some f → mo_Sim 105 k f := mt_leaf (ms_if0 (e := (.ifCond .eq 10, 15, 22, 0, 0)) rfl (fun _ _ _ => rfl) : mo_Sim 105 12 (ma_if0 .eq 22 12 15)) (mt_leaf (ms_ild (e := (.iload_n 3, 16, 0, 0, 0)) rfl (fun _ _ _ => rfl) : mo_Sim 105 15 (ma_load 0 3 16)) (mt_leaf (ms_pushi (e := (.iconst 1, 17, 0, 0, 0)) rfl (fun _ _ _ => rfl) (by decide) : mo_Sim 105 16 (ma_push (ma_ci (.ofNat 1)) 17)) (mt_none)))
set_option maxRecDepth 100000 in
theorem smt105_4 (k : Nat) : ∀ f, mt105_4 k = some f → mo_Sim 105 k f := mt_node (smt105_5 k) (smt105_6 k)
set_option maxRecDepth 100000 in
theorem smt105_2 (k : Nat) : ∀ f, mt105_2 k = some f → mo_Sim 105 k f := mt_node (smt105_3 k) (smt105_4 k)
set_option maxRecDepth 100000 in
theorem smt105_8 (k : Nat) : ∀ f, mt105_8 k = some f → mo_Sim 105 k f := mt_leaf (ms_if2 (e := (.if_icmp .eq 5, 20, 22, 0, 0)) rfl (fun _ _ _ => rfl) : mo_Sim 105 17 (ma_if2 .eq 22 17 20)) (mt_leaf (ms_pushi (e := (.iconst (-1), 21, 0, 0, 0)) rfl (fun _ _ _ => rfl) (by decide) : mo_Sim 105 20 (ma_push (ma_ci (.negSucc 0)) 21)) (mt_leaf (ms_ret (e := (.ireturn, 22, 0, 0, 0)) rfl (Or.inl ⟨rfl, rfl, (fun _ _ _ => rfl)⟩) : mo_Sim 105 21 (ma_ret 0)) (mt_leaf (ms_ald (e := (.aload_n 0, 23, 0, 0, 0)) rfl (fun _ _ _ => rfl) : mo_Sim 105 22 (ma_lda 0 23)) (mt_none))))
set_option maxRecDepth 100000 in
theorem smt105_10 (k : Nat) : ∀ f, mt105_10 k = some f → mo_Sim 105 k f := mt_leaf (ms_ild (e := (.iload_n 1, 24, 0, 0, 0)) rfl (fun _ _ _ => rfl) : mo_Sim 105 23 (ma_load 0 1 24)) (mt_leaf (ms_invV (p := 1) (e := (.invokevirtual 197, 27, 130, 0, 669)) rfl rfl (fun _ _ _ => rfl) rfl rfl rfl (by decide) : mo_Sim 105 24 (ma_inv 130 2 3 11 27)) (mt_none))
set_option maxRecDepth 100000 in
theorem smt105_11 (k : Nat) : ∀ f, mt105_11 k = some f → mo_Sim 105 k f := mt_leaf (ms_ast0 (e := (.astore 4, 29, 0, 0, 0)) rfl (fun _ _ _ => rfl) : mo_Sim 105 27 (ma_sta 4 29)) (mt_leaf (ms_ild (e := (.iload_n 2, 30, 0, 0, 0)) rfl (fun _ _ _ => rfl) : mo_Sim 105 29 (ma_load 0 2 30)) (mt_leaf (ms_if0 (e := (.ifCond .lt 12, 33, 42, 0, 0)) rfl (fun _ _ _ => rfl) : mo_Sim 105 30 (ma_if0 .lt 42 30 33)) (mt_none)))
set_option maxRecDepth 100000 in
theorem smt105_9 (k : Nat) : ∀ f, mt105_9 k = some f → mo_Sim 105 k f := mt_node (smt105_10 k) (smt105_11 k)
set_option maxRecDepth 100000 in
theorem smt105_7 (k : Nat) : ∀ f, mt105_7 k = some f → mo_Sim 105 k f := mt_node (smt105_8 k) (smt105_9 k)
set_option maxRecDepth 100000 in
theorem smt105_1 (k : Nat) : ∀ f, mt105_1 k = some f → mo_Sim 105 k f := mt_node (smt105_2 k) (smt105_7 k)
set_option maxRecDepth 100000 in
theorem smt105_14 (k : Nat) : ∀ f, mt105_14 k = some f → mo_Sim 105 k f := mt_leaf (ms_ild (e := (.iload_n 2, 34, 0, 0, 0)) rfl (fun _ _ _ => rfl) : mo_Sim 105 33 (ma_load 0 2 34)) (mt_leaf (ms_ald (e := (.aload 4, 36, 0, 0, 0)) rfl (fun _ _ _ => rfl) : mo_Sim 105 34 (ma_lda 4 36)) (mt_leaf (ms_getf (e := (.getfield 205, 39, 6, 2, 420)) rfl (fun _ _ _ => rfl) : mo_Sim 105 36 (ma_getf 6 2 39)) (mt_leaf (ms_if2 (e := (.if_icmp .lt 5, 42, 44, 0, 0)) rfl (fun _ _ _ => rfl) : mo_Sim 105 39 (ma_if2 .lt 44 39 42)) (mt_none))))
set_option maxRecDepth 100000 in
theorem smt105_16 (k : Nat) : ∀ f, mt105_16 k = some f → mo_Sim 105 k f := mt_leaf (ms_pushi (e := (.iconst (-1), 43, 0, 0, 0)) rfl (fun _ _ _ => rfl) (by decide) : mo_Sim 105 42 (ma_push (ma_ci (.negSucc 0)) 43)) (mt_leaf (ms_ret (e := (.ireturn, 44, 0, 0, 0)) rfl (Or.inl ⟨rfl, rfl, (fun _ _ _ => rfl)⟩) : mo_Sim 105 43 (ma_ret 0)) (mt_none))
set_option maxRecDepth 100000 in
theorem smt105_17 (k : Nat) : ∀ f, mt105_17 k = some f → mo_Sim 105 k f := mt_leaf (ms_ild (e := (.iload_n 3, 45, 0, 0, 0)) rfl (fun _ _ _ => rfl) : mo_Sim 105 44 (ma_load 0 3 45)) (mt_leaf (ms_if0 (e := (.ifCond .ne 13, 48, 58, 0, 0)) rfl (fun _ _ _ => rfl) : mo_Sim 105 45 (ma_if0 .ne 58 45 48)) (mt_leaf (ms_ald (e := (.aload 4, 50, 0, 0, 0)) rfl (fun _ _ _ => rfl) : mo_Sim 105 48 (ma_lda 4 50)) (mt_none)))
set_option maxRecDepth 100000 in
theorem smt105_15 (k : Nat) : ∀ f, mt105_15 k = some f → mo_Sim 105 k f := mt_node (smt105_16 k) (smt105_17 k)
set_option maxRecDepth 100000 in
theorem smt105_13 (k : Nat) : ∀ f, mt105_13 k = some f → mo_Sim 105 k f := mt_node (smt105_14 k) (smt105_15 k)
set_option maxRecDepth 100000 in
theorem smt105_19 (k : Nat) : ∀ f, mt105_19 k = some f → mo_Sim 105 k f := mt_leaf (ms_getf (e := (.getfield 208, 53, 6, 3, 423)) rfl (fun _ _ _ => rfl) : mo_Sim 105 50 (ma_getf 6 3 53)) (mt_leaf (ms_ild (e := (.iload_n 2, 54, 0, 0, 0)) rfl (fun _ _ _ => rfl) : mo_Sim 105 53 (ma_load 0 2 54)) (mt_leaf (ms_iald (e := (.iaload, 55, 0, 0, 0)) rfl (fun _ _ _ => rfl) : mo_Sim 105 54 (ma_iald 54 55)) (mt_leaf (ms_goto (e := (.goto 10, 58, 65, 0, 0)) rfl (fun _ _ _ => rfl) : mo_Sim 105 55 (ma_goto 65)) (mt_none))))
set_option maxRecDepth 100000 in
theorem smt105_21 (k : Nat) : ∀ f, mt105_21 k = some f → mo_Sim 105 k f := mt_leaf (ms_ald (e := (.aload 4, 60, 0, 0, 0)) rfl (fun _ _ _ => rfl) : mo_Sim 105 58 (ma_lda 4 60)) (mt_leaf (ms_getf (e := (.getfield 211, 63, 6, 4, 426)) rfl (fun _ _ _ => rfl) : mo_Sim 105 60 (ma_getf 6 4 63)) (mt_none))
set_option maxRecDepth 100000 in
theorem smt105_22 (k : Nat) : ∀ f, mt105_22 k = some f → mo_Sim 105 k f := mt_leaf (ms_ild (e := (.iload_n 2, 64, 0, 0, 0)) rfl (fun _ _ _ => rfl) : mo_Sim 105 63 (ma_load 0 2 64)) (mt_leaf (ms_iald (e := (.iaload, 65, 0, 0, 0)) rfl (fun _ _ _ => rfl) : mo_Sim 105 64 (ma_iald 64 65)) (mt_leaf (ms_ret (e := (.ireturn, 66, 0, 0, 0)) rfl (Or.inl ⟨rfl, rfl, (fun _ _ _ => rfl)⟩) : mo_Sim 105 65 (ma_ret 0)) (mt_none)))
set_option maxRecDepth 100000 in
theorem smt105_20 (k : Nat) : ∀ f, mt105_20 k = some f → mo_Sim 105 k f := mt_node (smt105_21 k) (smt105_22 k)
set_option maxRecDepth 100000 in
theorem smt105_18 (k : Nat) : ∀ f, mt105_18 k = some f → mo_Sim 105 k f := mt_node (smt105_19 k) (smt105_20 k)
set_option maxRecDepth 100000 in
theorem smt105_12 (k : Nat) : ∀ f, mt105_12 k = some f → mo_Sim 105 k f := mt_node (smt105_13 k) (smt105_18 k)
set_option maxRecDepth 100000 in
theorem smt105_0 (k : Nat) : ∀ f, mt105_0 k = some f → mo_Sim 105 k f := mt_node (smt105_1 k) (smt105_12 k)
set_option maxRecDepth 100000 in
theorem smt106_3 (k : Nat) : ∀ f, mt106_3 k = some f → mo_Sim 106 k f := mt_leaf (ms_ald (e := (.aload_n 0, 1, 0, 0, 0)) rfl (fun _ _ _ => rfl) : mo_Sim 106 0 (ma_lda 0 1)) (mt_leaf (ms_getf (e := (.getfield 10, 4, 11, 0, 460)) rfl (fun _ _ _ => rfl) : mo_Sim 106 1 (ma_getf 11 0 4)) (mt_leaf (ms_ild (e := (.iload_n 1, 5, 0, 0, 0)) rfl (fun _ _ _ => rfl) : mo_Sim 106 4 (ma_load 0 1 5)) (mt_none)))
set_option maxRecDepth 100000 in
theorem smt106_4 (k : Nat) : ∀ f, mt106_4 k = some f → mo_Sim 106 k f := mt_leaf (ms_invV (p := 1) (e := (.invokevirtual 194, 8, 13, 0, 665)) rfl rfl (fun _ _ _ => rfl) rfl rfl rfl (by decide) : mo_Sim 106 5 (ma_inv 13 2 2 1 8)) (mt_leaf (ms_if0 (e := (.ifCond .ne 5, 11, 13, 0, 0)) rfl (fun _ _ _ => rfl) : mo_Sim 106 8 (ma_if0 .ne 13 8 11)) (mt_leaf (ms_pushi (e := (.iconst (-1), 12, 0, 0, 0)) rfl (fun _ _ _ => rfl) (by decide) : mo_Sim 106 11 (ma_push (ma_ci (.negSucc 0)) 12)) (mt_leaf (ms_ret (e := (.ireturn, 13, 0, 0, 0)) rfl (Or.inl ⟨rfl, rfl, (fun _ _ _ => rfl)⟩) : mo_Sim 106 12 (ma_ret 0)) (mt_none))))
set_option maxRecDepth 100000 in
theorem smt106_2 (k : Nat) : ∀ f, mt106_2 k = some f → mo_Sim 106 k f := mt_node (smt106_3 k) (smt106_4 k)
set_option maxRecDepth 100000 in
theorem smt106_6 (k : Nat) : ∀ f, mt106_6 k = some f → mo_Sim 106 k f := mt_leaf (ms_ald (e := (.aload_n 0, 14, 0, 0, 0)) rfl (fun _ _ _ => rfl) : mo_Sim 106 13 (ma_lda 0 14)) (mt_leaf (ms_ild (e := (.iload_n 1, 15, 0, 0, 0)) rfl (fun _ _ _ => rfl) : mo_Sim 106 14 (ma_load 0 1 15)) (mt_leaf (ms_invV (p := 1) (e := (.invokevirtual 197, 18, 130, 0, 669)) rfl rfl (fun _ _ _ => rfl) rfl rfl rfl (by decide) : mo_Sim 106 15 (ma_inv 130 2 3 11 18)) (mt_leaf (ms_ast0 (e := (.astore_n 3, 19, 0, 0, 0)) rfl (fun _ _ _ => rfl) : mo_Sim 106 18 (ma_sta 3 19)) (mt_none))))
set_option maxRecDepth 100000 in
theorem smt106_7 (k : Nat) : ∀ f, mt106_7 k = some f → mo_Sim 106 k f := mt_leaf (ms_ald (e := (.aload_n 3, 20, 0, 0, 0)) rfl (fun _ _ _ => rfl) : mo_Sim 106 19 (ma_lda 3 20)) (mt_leaf (ms_getf (e := (.getfield 201, 23, 6, 1, 417)) rfl (fun _ _ _ => rfl) : mo_Sim 106 20 (ma_getf 6 1 23)) (mt_leaf (ms_if0 (e := (.ifCond .eq 6, 26, 29, 0, 0)) rfl (fun _ _ _ => rfl) : mo_Sim 106 23 (ma_if0 .eq 29 23 26)) (mt_leaf (ms_pushi (e := (.bipush (-8), 28, 0, 0, 0)) rfl (fun _ _ _ => rfl) (by decide) : mo_Sim 106 26 (ma_push (ma_ci (.negSucc 7)) 28)) (mt_none))))
set_option maxRecDepth 100000 in
theorem smt106_5 (k : Nat) : ∀ f, mt106_5 k = some f → mo_Sim 106 k f := mt_node (smt106_6 k) (smt106_7 k)
set_option maxRecDepth 100000 in
theorem smt106_1 (k : Nat) : ∀ f, mt106_1 k = some f → mo_Sim 106 k f := mt_node (smt106_2 k) (smt106_5 k)
set_option maxRecDepth 100000 in
theorem smt106_10 (k : Nat) : ∀ f, mt106_10 k = some f → mo_Sim 106 k f := mt_leaf (ms_ret (e := (.ireturn, 29, 0, 0, 0)) rfl (Or.inl ⟨rfl, rfl, (fun _ _ _ => rfl)⟩) : mo_Sim 106 28 (ma_ret 0)) (mt_leaf (ms_ild (e := (.iload_n 2, 30, 0, 0, 0)) rfl (fun _ _ _ => rfl) : mo_Sim 106 29 (ma_load 0 2 30)) (mt_leaf (ms_if0 (e := (.ifCond .lt 15, 33, 45, 0, 0)) rfl (fun _ _ _ => rfl) : mo_Sim 106 30 (ma_if0 .lt 45 30 33)) (mt_none)))
set_option maxRecDepth 100000 in
theorem smt106_11 (k : Nat) : ∀ f, mt106_11 k = some f → mo_Sim 106 k f := mt_leaf (ms_ild (e := (.iload_n 2, 34, 0, 0, 0)) rfl (fun _ _ _ => rfl) : mo_Sim 106 33 (ma_load 0 2 34)) (mt_leaf (ms_ald (e := (.aload_n 0, 35, 0, 0, 0)) rfl (fun _ _ _ => rfl) : mo_Sim 106 34 (ma_lda 0 35)) (mt_leaf (ms_getf (e := (.getfield 10, 38, 11, 0, 460)) rfl (fun _ _ _ => rfl) : mo_Sim 106 35 (ma_getf 11 0 38)) (mt_leaf (ms_ild (e := (.iload_n 1, 39, 0, 0, 0)) rfl (fun _ _ _ => rfl) : mo_Sim 106 38 (ma_load 0 1 39)) (mt_none))))
set_option maxRecDepth 100000 in
theorem smt106_9 (k : Nat) : ∀ f, mt106_9 k = some f → mo_Sim 106 k f := mt_node (smt106_10 k) (smt106_11 k)
set_option maxRecDepth 100000 in
theorem smt106_13 (k : Nat) : ∀ f, mt106_13 k = some f → mo_Sim 106 k f := mt_leaf (ms_invV (p := 1) (e := (.invokevirtual 214, 42, 14, 0, 784)) rfl rfl (fun _ _ _ => rfl) rfl rfl rfl (by decide) : mo_Sim 106 39 (ma_inv 14 2 2 1 42)) (mt_leaf (ms_if2 (e := (.if_icmp .lt 5, 45, 47, 0, 0)) rfl (fun _ _ _ => rfl) : mo_Sim 106 42 (ma_if2 .lt 47 42 45)) (mt_leaf (ms_pushi (e := (.iconst (-1), 46, 0, 0, 0)) rfl (fun _ _ _ => rfl) (by decide) : mo_Sim 106 45 (ma_push (ma_ci (.negSucc 0)) 46)) (mt_leaf (ms_ret (e := (.ireturn, 47, 0, 0, 0)) rfl (Or.inl ⟨rfl, rfl, (fun _ _ _ => rfl)⟩) : mo_Sim 106 46 (ma_ret 0)) (mt_none))))
set_option maxRecDepth 100000 in
theorem smt106_14 (k : Nat) : ∀ f, mt106_14 k = some f → mo_Sim 106 k f := mt_leaf (ms_ald (e := (.aload_n 3, 48, 0, 0, 0)) rfl (fun _ _ _ => rfl) : mo_Sim 106 47 (ma_lda 3 48)) (mt_leaf (ms_ild (e := (.iload_n 2, 49, 0, 0, 0)) rfl (fun _ _ _ => rfl) : mo_Sim 106 48 (ma_load 0 2 49)) (mt_leaf (ms_invV (p := 1) (e := (.invokevirtual 216, 52, 47, 0, 785)) rfl rfl (fun _ _ _ => rfl) rfl rfl rfl (by decide) : mo_Sim 106 49 (ma_inv 47 2 3 6 52)) (mt_leaf (ms_ret (e := (.ireturn, 53, 0, 0, 0)) rfl (Or.inl ⟨rfl, rfl, (fun _ _ _ => rfl)⟩) : mo_Sim 106 52 (ma_ret 0)) (mt_none))))
set_option maxRecDepth 100000 in
theorem smt106_12 (k : Nat) : ∀ f, mt106_12 k = some f → mo_Sim 106 k f := mt_node (smt106_13 k) (smt106_14 k)
set_option maxRecDepth 100000 in
theorem smt106_8 (k : Nat) : ∀ f, mt106_8 k = some f → mo_Sim 106 k f := mt_node (smt106_9 k) (smt106_12 k)
set_option maxRecDepth 100000 in
theorem smt106_0 (k : Nat) : ∀ f, mt106_0 k = some f → mo_Sim 106 k f := mt_node (smt106_1 k) (smt106_8 k)
set_option maxRecDepth 100000 in
theorem smt107_2 (k : Nat) : ∀ f, mt107_2 k = some f → mo_Sim 107 k f := mt_leaf (ms_ald (e := (.aload_n 0, 1, 0, 0, 0)) rfl (fun _ _ _ => rfl) : mo_Sim 107 0 (ma_lda 0 1)) (mt_leaf (ms_getf (e := (.getfield 10, 4, 11, 0, 460)) rfl (fun _ _ _ => rfl) : mo_Sim 107 1 (ma_getf 11 0 4)) (mt_leaf (ms_ild (e := (.iload_n 2, 5, 0, 0, 0)) rfl (fun _ _ _ => rfl) : mo_Sim 107 4 (ma_load 0 2 5)) (mt_none)))
set_option maxRecDepth 100000 in
theorem smt107_3 (k : Nat) : ∀ f, mt107_3 k = some f → mo_Sim 107 k f := mt_leaf (ms_invV (p := 1) (e := (.invokevirtual 194, 8, 13, 0, 665)) rfl rfl (fun _ _ _ => rfl) rfl rfl rfl (by decide) : mo_Sim 107 5 (ma_inv 13 2 2 1 8)) (mt_leaf (ms_if0 (e := (.ifCond .ne 5, 11, 13, 0, 0)) rfl (fun _ _ _ => rfl) : mo_Sim 107 8 (ma_if0 .ne 13 8 11)) (mt_leaf (ms_pushi (e := (.iconst (-1), 12, 0, 0, 0)) rfl (fun _ _ _ => rfl) (by decide) : mo_Sim 107 11 (ma_push (ma_ci (.negSucc 0)) 12)) (mt_leaf (ms_ret (e := (.ireturn, 13, 0, 0, 0)) rfl (Or.inl ⟨rfl, rfl, (fun _ _ _ => rfl)⟩) : mo_Sim 107 12 (ma_ret 0)) (mt_none))))
set_option maxRecDepth 100000 in
theorem smt107_1 (k : Nat) : ∀ f, mt107_1 k = some f → mo_Sim 107 k f := mt_node (smt107_2 k) (smt107_3 k)
set_option maxRecDepth 100000 in
theorem smt107_5 (k : Nat) : ∀ f, mt107_5 k = some f → mo_Sim 107 k f := mt_leaf (ms_ald (e := (.aload_n 0, 14, 0, 0, 0)) rfl (fun _ _ _ => rfl) : mo_Sim 107 13 (ma_lda 0 14)) (mt_leaf (ms_ild (e := (.iload_n 1, 15, 0, 0, 0)) rfl (fun _ _ _ => rfl) : mo_Sim 107 14 (ma_load 0 1 15)) (mt_leaf (ms_ild (e := (.iload_n 2, 16, 0, 0, 0)) rfl (fun _ _ _ => rfl) : mo_Sim 107 15 (ma_load 0 2 16)) (mt_leaf (ms_invV (p := 2) (e := (.invokevirtual 219, 19, 132, 0, 793)) rfl rfl (fun _ _ _ => rfl) rfl rfl rfl (by decide) : mo_Sim 107 16 (ma_inv 132 3 4 11 19)) (mt_none))))
set_option maxRecDepth 100000 in
theorem smt107_6 (k : Nat) : ∀ f, mt107_6 k = some f → mo_Sim 107 k f := mt_leaf (ms_ald (e := (.aload_n 0, 20, 0, 0, 0)) rfl (fun _ _ _ => rfl) : mo_Sim 107 19 (ma_lda 0 20)) (mt_leaf (ms_getf (e := (.getfield 74, 23, 11, 9, 469)) rfl (fun _ _ _ => rfl) : mo_Sim 107 20 (ma_getf 11 9 23)) (mt_leaf (ms_getf (e := (.getfield 223, 26, 3, 1, 347)) rfl (fun _ _ _ => rfl) : mo_Sim 107 23 (ma_getf 3 1 26)) (mt_leaf (ms_ret (e := (.ireturn, 27, 0, 0, 0)) rfl (Or.inl ⟨rfl, rfl, (fun _ _ _ => rfl)⟩) : mo_Sim 107 26 (ma_ret 0)) (mt_none))))
set_option maxRecDepth 100000 in
theorem smt107_4 (k : Nat) : ∀ f, mt107_4 k = some f → mo_Sim 107 k f := mt_node (smt107_5 k) (smt107_6 k)
set_option maxRecDepth 100000 in
theorem smt107_0 (k : Nat) : ∀ f, mt107_0 k = some f → mo_Sim 107 k f := mt_node (smt107_1 k) (smt107_4 k)
set_option maxRecDepth 100000 in
theorem smt108_2 (k : Nat) : ∀ f, mt108_2 k = some f → mo_Sim 108 k f := mt_leaf (ms_ald (e := (.aload_n 0, 1, 0, 0, 0)) rfl (fun _ _ _ => rfl) : mo_Sim 108 0 (ma_lda 0 1)) (mt_leaf (ms_getf (e := (.getfield 10, 4, 11, 0, 460)) rfl (fun _ _ _ => rfl) : mo_Sim 108 1 (ma_getf 11 0 4)) (mt_leaf (ms_ild (e := (.iload_n 2, 5, 0, 0, 0)) rfl (fun _ _ _ => rfl) : mo_Sim 108 4 (ma_load 0 2 5)) (mt_leaf (ms_invV (p := 1) (e := (.invokevirtual 194, 8, 13, 0, 665)) rfl rfl (fun _ _ _ => rfl) rfl rfl rfl (by decide) : mo_Sim 108 5 (ma_inv 13 2 2 1 8)) (mt_none))))
set_option maxRecDepth 100000 in
theorem smt108_3 (k : Nat) : ∀ f, mt108_3 k = some f → mo_Sim 108 k f := mt_leaf (ms_if0 (e := (.ifCond .ne 5, 11, 13, 0, 0)) rfl (fun _ _ _ => rfl) : mo_Sim 108 8 (ma_if0 .ne 13 8 11)) (mt_leaf (ms_pushi (e := (.iconst (-1), 12, 0, 0, 0)) rfl (fun _ _ _ => rfl) (by decide) : mo_Sim 108 11 (ma_push (ma_ci (.negSucc 0)) 12)) (mt_leaf (ms_ret (e := (.ireturn, 13, 0, 0, 0)) rfl (Or.inl ⟨rfl, rfl, (fun _ _ _ => rfl)⟩) : mo_Sim 108 12 (ma_ret 0)) (mt_leaf (ms_ald (e := (.aload_n 0, 14, 0, 0, 0)) rfl (fun _ _ _ => rfl) : mo_Sim 108 13 (ma_lda 0 14)) (mt_none))))
set_option maxRecDepth 100000 in
theorem smt108_1 (k : Nat) : ∀ f, mt108_1 k = some f → mo_Sim 108 k f := mt_node (smt108_2 k) (smt108_3 k)
set_option maxRecDepth 100000 in
theorem smt108_5 (k : Nat) : ∀ f, mt108_5 k = some f → mo_Sim 108 k f := mt_leaf (ms_ild (e := (.iload_n 1, 15, 0, 0, 0)) rfl (fun _ _ _ => rfl) : mo_Sim 108 14 (ma_load 0 1 15)) (mt_leaf (ms_ild (e := (.iload_n 2, 16, 0, 0, 0)) rfl (fun _ _ _ => rfl) : mo_Sim 108 15 (ma_load 0 2 16)) (mt_leaf (ms_invV (p := 2) (e := (.invokevirtual 219, 19, 132, 0, 793)) rfl rfl (fun _ _ _ => rfl) rfl rfl rfl (by decide) : mo_Sim 108 16 (ma_inv 132 3 4 11 19)) (mt_leaf (ms_ald (e := (.aload_n 0, 20, 0, 0, 0)) rfl (fun _ _ _ => rfl) : mo_Sim 108 19 (ma_lda 0 20)) (mt_none))))
set_option maxRecDepth 100000 in
theorem smt108_6 (k : Nat) : ∀ f, mt108_6 k = some f → mo_Sim 108 k f := mt_leaf (ms_getf (e := (.getfield 74, 23, 11, 9, 469)) rfl (fun _ _ _ => rfl) : mo_Sim 108 20 (ma_getf 11 9 23)) (mt_leaf (ms_ild (e := (.iload_n 3, 24, 0, 0, 0)) rfl (fun _ _ _ => rfl) : mo_Sim 108 23 (ma_load 0 3 24)) (mt_leaf (ms_invV (p := 1) (e := (.invokevirtual 224, 27, 33, 0, 867)) rfl rfl (fun _ _ _ => rfl) rfl rfl rfl (by decide) : mo_Sim 108 24 (ma_inv 33 2 5 3 27)) (mt_leaf (ms_ret (e := (.ireturn, 28, 0, 0, 0)) rfl (Or.inl ⟨rfl, rfl, (fun _ _ _ => rfl)⟩) : mo_Sim 108 27 (ma_ret 0)) (mt_none))))
set_option maxRecDepth 100000 in
theorem smt108_4 (k : Nat) : ∀ f, mt108_4 k = some f → mo_Sim 108 k f := mt_node (smt108_5 k) (smt108_6 k)
set_option maxRecDepth 100000 in
theorem smt108_0 (k : Nat) : ∀ f, mt108_0 k = some f → mo_Sim 108 k f := mt_node (smt108_1 k) (smt108_4 k)
set_option maxRecDepth 100000 in
theorem smt109_2 (k : Nat) : ∀ f, mt109_2 k = some f → mo_Sim 109 k f := mt_leaf (ms_pushi (e := (.iconst 0, 1, 0, 0, 0)) rfl (fun _ _ _ => rfl) (by decide) : mo_Sim 109 0 (ma_push (ma_ci (.ofNat 0)) 1)) (mt_leaf (ms_ist (e := (.istore_n 1, 2, 0, 0, 0)) rfl (fun _ _ _ => rfl) : mo_Sim 109 1 (ma_stor 0 1 2)) (mt_leaf (ms_pushi (e := (.iconst 1, 3, 0, 0, 0)) rfl (fun _ _ _ => rfl) (by decide) : mo_Sim 109 2 (ma_push (ma_ci (.ofNat 1)) 3)) (mt_leaf (ms_ist (e := (.istore_n 2, 4, 0, 0, 0)) rfl (fun _ _ _ => rfl) : mo_Sim 109 3 (ma_stor 0 2 4)) (mt_none))))
set_option maxRecDepth 100000 in
theorem smt109_4 (k : Nat) : ∀ f, mt109_4 k = some f → mo_Sim 109 k f := mt_leaf (ms_ild (e := (.iload_n 2, 5, 0, 0, 0)) rfl (fun _ _ _ => rfl) : mo_Sim 109 4 (ma_load 0 2 5)) (mt_leaf (ms_ald (e := (.aload_n 0, 6, 0, 0, 0)) rfl (fun _ _ _ => rfl) : mo_Sim 109 5 (ma_lda 0 6)) (mt_none))
set_option maxRecDepth 100000 in
theorem smt109_5 (k : Nat) : ∀ f, mt109_5 k = some f → mo_Sim 109 k f := mt_leaf (ms_getf (e := (.getfield 10, 9, 11, 0, 460)) rfl (fun _ _ _ => rfl) : mo_Sim 109 6 (ma_getf 11 0 9)) (mt_leaf (ms_invV (p := 0) (e := (.invokevirtual 227, 12, 15, 0, 685)) rfl rfl (fun _ _ _ => rfl) rfl rfl rfl (by decide) : mo_Sim 109 9 (ma_inv 15 1 1 1 12)) (mt_leaf (ms_if2 (e := (.if_icmp .gt 20, 15, 32, 0, 0)) rfl (fun _ _ _ => rfl) : mo_Sim 109 12 (ma_if2 .gt 32 12 15)) (mt_none)))
set_option maxRecDepth 100000 in
theorem smt109_3 (k : Nat) : ∀ f, mt109_3 k = some f → mo_Sim 109 k f := mt_node (smt109_4 k) (smt109_5 k)
set_option maxRecDepth 100000 in
theorem smt109_1 (k : Nat) : ∀ f, mt109_1 k = some f → mo_Sim 109 k f := mt_node (smt109_2 k) (smt109_3 k)
set_option maxRecDepth 100000 in
theorem smt109_7 (k : Nat) : ∀ f, mt109_7 k = some f → mo_Sim 109 k f := mt_leaf (ms_ald (e := (.aload_n 0, 16, 0, 0, 0)) rfl (fun _ _ _ => rfl) : mo_Sim 109 15 (ma_lda 0 16)) (mt_leaf (ms_ild (e := (.iload_n 2, 17, 0, 0, 0)) rfl (fun _ _ _ => rfl) : mo_Sim 109 16 (ma_load 0 2 17)) (mt_leaf (ms_invV (p := 1) (e := (.invokevirtual 230, 20, 135, 0, 689)) rfl rfl (fun _ _ _ => rfl) rfl rfl rfl (by decide) : mo_Sim 109 17 (ma_inv 135 2 3 11 20)) (mt_leaf (ms_if0 (e := (.ifCond .eq 6, 23, 26, 0, 0)) rfl (fun _ _ _ => rfl) : mo_Sim 109 20 (ma_if0 .eq 26 20 23)) (mt_none))))
set_option maxRecDepth 100000 in
theorem smt109_9 (k : Nat) : ∀ f, mt109_9 k = some f → mo_Sim 109 k f := mt_leaf (ms_iinc (e := (.iinc 1 1, 26, 0, 0, 0)) rfl (fun _ _ _ => rfl) (by decide) : mo_Sim 109 23 (ma_iinc 1 (.ofNat 1) 23 26)) (mt_leaf (ms_iinc (e := (.iinc 2 1, 29, 0, 0, 0)) rfl (fun _ _ _ => rfl) (by decide) : mo_Sim 109 26 (ma_iinc 2 (.ofNat 1) 26 29)) (mt_none))
set_option maxRecDepth 100000 in
theorem smt109_10 (k : Nat) : ∀ f, mt109_10 k = some f → mo_Sim 109 k f := mt_leaf (ms_goto (e := (.goto (-25), 32, 4, 0, 0)) rfl (fun _ _ _ => rfl) : mo_Sim 109 29 (ma_goto 4)) (mt_leaf (ms_ild (e := (.iload_n 1, 33, 0, 0, 0)) rfl (fun _ _ _ => rfl) : mo_Sim 109 32 (ma_load 0 1 33)) (mt_leaf (ms_ret (e := (.ireturn, 34, 0, 0, 0)) rfl (Or.inl ⟨rfl, rfl, (fun _ _ _ => rfl)⟩) : mo_Sim 109 33 (ma_ret 0)) (mt_none)))
set_option maxRecDepth 100000 in
theorem smt109_8 (k : Nat) : ∀ f, mt109_8 k = some f → mo_Sim 109 k f := mt_node (smt109_9 k) (smt109_10 k)
set_option maxRecDepth 100000 in
theorem smt109_6 (k : Nat) : ∀ f, mt109_6 k = some f → mo_Sim 109 k f := mt_node (smt109_7 k) (smt109_8 k)
set_option maxRecDepth 100000 in
theorem smt109_0 (k : Nat) : ∀ f, mt109_0 k = some f → mo_Sim 109 k f := mt_node (smt109_1 k) (smt109_6 k)
set_option maxRecDepth 100000 in
theorem smt110_2 (k : Nat) : ∀ f, mt110_2 k = some f → mo_Sim 110 k f := mt_leaf (ms_ild (e := (.iload_n 1, 1, 0, 0, 0)) rfl (fun _ _ _ => rfl) : mo_Sim 110 0 (ma_load 0 1 1)) (mt_leaf (ms_pushi (e := (.iconst 1, 2, 0, 0, 0)) rfl (fun _ _ _ => rfl) (by decide) : mo_Sim 110 1 (ma_push (ma_ci (.ofNat 1)) 2)) (mt_leaf (ms_if2 (e := (.if_icmp .lt 14, 5, 16, 0, 0)) rfl (fun _ _ _ => rfl) : mo_Sim 110 2 (ma_if2 .lt 16 2 5)) (mt_none)))
set_option maxRecDepth 100000 in
theorem smt110_3 (k : Nat) : ∀ f, mt110_3 k = some f → mo_Sim 110 k f := mt_leaf (ms_ild (e := (.iload_n 1, 6, 0, 0, 0)) rfl (fun _ _ _ => rfl) : mo_Sim 110 5 (ma_load 0 1 6)) (mt_leaf (ms_ald (e := (.aload_n 0, 7, 0, 0, 0)) rfl (fun _ _ _ => rfl) : mo_Sim 110 6 (ma_lda 0 7)) (mt_leaf (ms_getf (e := (.getfield 10, 10, 11, 0, 460)) rfl (fun _ _ _ => rfl) : mo_Sim 110 7 (ma_getf 11 0 10)) (mt_leaf (ms_invV (p := 0) (e := (.invokevirtual 227, 13, 15, 0, 685)) rfl rfl (fun _ _ _ => rfl) rfl rfl rfl (by decide) : mo_Sim 110 10 (ma_inv 15 1 1 1 13)) (mt_none))))
set_option maxRecDepth 100000 in
theorem smt110_1 (k : Nat) : ∀ f, mt110_1 k = some f → mo_Sim 110 k f := mt_node (smt110_2 k) (smt110_3 k)
set_option maxRecDepth 100000 in
theorem smt110_5 (k : Nat) : ∀ f, mt110_5 k = some f → mo_Sim 110 k f := mt_leaf (ms_if2 (e := (.if_icmp .le 5, 16, 18, 0, 0)) rfl (fun _ _ _ => rfl) : mo_Sim 110 13 (ma_if2 .le 18 13 16)) (mt_leaf (ms_pushi (e := (.iconst (-1), 17, 0, 0, 0)) rfl (fun _ _ _ => rfl) (by decide) : mo_Sim 110 16 (ma_push (ma_ci (.negSucc 0)) 17)) (mt_leaf (ms_ret (e := (.ireturn, 18, 0, 0, 0)) rfl (Or.inl ⟨rfl, rfl, (fun _ _ _ => rfl)⟩) : mo_Sim 110 17 (ma_ret 0)) (mt_none)))
set_option maxRecDepth 100000 in
theorem smt110_6 (k : Nat) : ∀ f, mt110_6 k = some f → mo_Sim 110 k f := mt_leaf (ms_ald (e := (.aload_n 0, 19, 0, 0, 0)) rfl (fun _ _ _ => rfl) : mo_Sim 110 18 (ma_lda 0 19)) (mt_leaf (ms_ild (e := (.iload_n 1, 20, 0, 0, 0)) rfl (fun _ _ _ => rfl) : mo_Sim 110 19 (ma_load 0 1 20)) (mt_leaf (ms_invV (p := 1) (e := (.invokevirtual 233, 23, 136, 0, 681)) rfl rfl (fun _ _ _ => rfl) rfl rfl rfl (by decide) : mo_Sim 110 20 (ma_inv 136 2 4 11 23)) (mt_leaf (ms_ret (e := (.ireturn, 24, 0, 0, 0)) rfl (Or.inl ⟨rfl, rfl, (fun _ _ _ => rfl)⟩) : mo_Sim 110 23 (ma_ret 0)) (mt_none))))
set_option maxRecDepth 100000 in
theorem smt110_4 (k : Nat) : ∀ f, mt110_4 k = some f → mo_Sim 110 k f := mt_node (smt110_5 k) (smt110_6 k)
set_option maxRecDepth 100000 in
theorem smt110_0 (k : Nat) : ∀ f, mt110_0 k = some f → mo_Sim 110 k f := mt_node (smt110_1 k) (smt110_4 k)
set_option maxRecDepth 100000 in
theorem smt111_3 (k : Nat) : ∀ f, mt111_3 k = some f → mo_Sim 111 k f := mt_leaf (ms_ald (e := (.aload_n 0, 1, 0, 0, 0)) rfl (fun _ _ _ => rfl) : mo_Sim 111 0 (ma_lda 0 1)) (mt_leaf (ms_invV (p := 0) (e := (.invokevirtual 236, 4, 137, 0, 893)) rfl rfl (fun _ _ _ => rfl) rfl rfl rfl (by decide) : mo_Sim 111 1 (ma_inv 137 1 1 11 4)) (mt_none))
set_option maxRecDepth 100000 in
theorem smt111_4 (k : Nat) : ∀ f, mt111_4 k = some f → mo_Sim 111 k f := mt_leaf (ms_ast0 (e := (.astore_n 1, 5, 0, 0, 0)) rfl (fun _ _ _ => rfl) : mo_Sim 111 4 (ma_sta 1 5)) (mt_leaf (ms_pushi (e := (.iconst 0, 6, 0, 0, 0)) rfl (fun _ _ _ => rfl) (by decide) : mo_Sim 111 5 (ma_push (ma_ci (.ofNat 0)) 6)) (mt_leaf (ms_ist (e := (.istore_n 2, 7, 0, 0, 0)) rfl (fun _ _ _ => rfl) : mo_Sim 111 6 (ma_stor 0 2 7)) (mt_none)))
set_option maxRecDepth 100000 in
theorem smt111_2 (k : Nat) : ∀ f, mt111_2 k = some f → mo_Sim 111 k f := mt_node (smt111_3 k) (smt111_4 k)
set_option maxRecDepth 100000 in
theorem smt111_6 (k : Nat) : ∀ f, mt111_6 k = some f → mo_Sim 111 k f := mt_leaf (ms_pushi (e := (.iconst 0, 8, 0, 0, 0)) rfl (fun _ _ _ => rfl) (by decide) : mo_Sim 111 7 (ma_push (ma_ci (.ofNat 0)) 8)) (mt_leaf (ms_ist (e := (.istore_n 3, 9, 0, 0, 0)) rfl (fun _ _ _ => rfl) : mo_Sim 111 8 (ma_stor 0 3 9)) (mt_leaf (ms_ild (e := (.iload_n 3, 10, 0, 0, 0)) rfl (fun _ _ _ => rfl) : mo_Sim 111 9 (ma_load 0 3 10)) (mt_none)))
set_option maxRecDepth 100000 in
theorem smt111_7 (k : Nat) : ∀ f, mt111_7 k = some f → mo_Sim 111 k f := mt_leaf (ms_ald (e := (.aload_n 1, 11, 0, 0, 0)) rfl (fun _ _ _ => rfl) : mo_Sim 111 10 (ma_lda 1 11)) (mt_leaf (ms_alen (e := (.arraylength, 12, 0, 0, 0)) rfl (fun _ _ _ => rfl) : mo_Sim 111 11 (ma_alen 12)) (mt_leaf (ms_if2 (e := (.if_icmp .ge 22, 15, 34, 0, 0)) rfl (fun _ _ _ => rfl) : mo_Sim 111 12 (ma_if2 .ge 34 12 15)) (mt_none)))
set_option maxRecDepth 100000 in
theorem smt111_5 (k : Nat) : ∀ f, mt111_5 k = some f → mo_Sim 111 k f := mt_node (smt111_6 k) (smt111_7 k)
set_option maxRecDepth 100000 in
theorem smt111_1 (k : Nat) : ∀ f, mt111_1 k = some f → mo_Sim 111 k f := mt_node (smt111_2 k) (smt111_5 k)
set_option maxRecDepth 100000 in
theorem smt111_10 (k : Nat) : ∀ f, mt111_10 k = some f → mo_Sim 111 k f := mt_leaf (ms_ald (e := (.aload_n 0, 16, 0, 0, 0)) rfl (fun _ _ _ => rfl) : mo_Sim 111 15 (ma_lda 0 16)) (mt_leaf (ms_ald (e := (.aload_n 1, 17, 0, 0, 0)) rfl (fun _ _ _ => rfl) : mo_Sim 111 16 (ma_lda 1 17)) (mt_none))
set_option maxRecDepth 100000 in
theorem smt111_11 (k : Nat) : ∀ f, mt111_11 k = some f → mo_Sim 111 k f := mt_leaf (ms_ild (e := (.iload_n 3, 18, 0, 0, 0)) rfl (fun _ _ _ => rfl) : mo_Sim 111 17 (ma_load 0 3 18)) (mt_leaf (ms_iald (e := (.iaload, 19, 0, 0, 0)) rfl (fun _ _ _ => rfl) : mo_Sim 111 18 (ma_iald 18 19)) (mt_leaf (ms_invV (p := 1) (e := (.invokevirtual 240, 22, 138, 0, 901)) rfl rfl (fun _ _ _ => rfl) rfl rfl rfl (by decide) : mo_Sim 111 19 (ma_inv 138 2 3 11 22)) (mt_none)))
set_option maxRecDepth 100000 in
theorem smt111_9 (k : Nat) : ∀ f, mt111_9 k = some f → mo_Sim 111 k f := mt_node (smt111_10 k) (smt111_11 k)
set_option maxRecDepth 100000 in
theorem smt111_13 (k : Nat) : ∀ f, mt111_13 k = some f → mo_Sim 111 k f := mt_leaf (ms_if0 (e := (.ifCond .eq 6, 25, 28, 0, 0)) rfl (fun _ _ _ => rfl) : mo_Sim 111 22 (ma_if0 .eq 28 22 25)) (mt_leaf (ms_iinc (e := (.iinc 2 1, 28, 0, 0, 0)) rfl (fun _ _ _ => rfl) (by decide) : mo_Sim 111 25 (ma_iinc 2 (.ofNat 1) 25 28)) (mt_leaf (ms_iinc (e := (.iinc 3 1, 31, 0, 0, 0)) rfl (fun _ _ _ => rfl) (by decide) : mo_Sim 111 28 (ma_iinc 3 (.ofNat 1) 28 31)) (mt_none)))
set_option maxRecDepth 100000 in
theorem smt111_14 (k : Nat) : ∀ f, mt111_14 k = some f → mo_Sim 111 k f := mt_leaf (ms_goto (e := (.goto (-22), 34, 9, 0, 0)) rfl (fun _ _ _ => rfl) : mo_Sim 111 31 (ma_goto 9)) (mt_leaf (ms_ild (e := (.iload_n 2, 35, 0, 0, 0)) rfl (fun _ _ _ => rfl) : mo_Sim 111 34 (ma_load 0 2 35)) (mt_leaf (ms_ret (e := (.ireturn, 36, 0, 0, 0)) rfl (Or.inl ⟨rfl, rfl, (fun _ _ _ => rfl)⟩) : mo_Sim 111 35 (ma_ret 0)) (mt_none)))
set_option maxRecDepth 100000 in
theorem smt111_12 (k : Nat) : ∀ f, mt111_12 k = some f → mo_Sim 111 k f := mt_node (smt111_13 k) (smt111_14 k)
set_option maxRecDepth 100000 in
theorem smt111_8 (k : Nat) : ∀ f, mt111_8 k = some f → mo_Sim 111 k f := mt_node (smt111_9 k) (smt111_12 k)
set_option maxRecDepth 100000 in
theorem smt111_0 (k : Nat) : ∀ f, mt111_0 k = some f → mo_Sim 111 k f := mt_node (smt111_1 k) (smt111_8 k)
