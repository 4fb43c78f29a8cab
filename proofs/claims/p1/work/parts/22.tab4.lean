set_option maxRecDepth 100000 in
theorem smt112_3 (k : Nat) : ∀ f, mt112_3 k = some f → mo_Sim 112 k f := mt_leaf (ms_ald (e := (.aload_n 0, 1, 0, 0, 0)) rfl (fun _ _ _ => rfl) : mo_Sim 112 0 (ma_lda 0 1)) (mt_leaf (ms_invV (p := 0) (e := (.invokevirtual 236, 4, 137, 0, 893)) rfl rfl (fun _ _ _ => rfl) rfl rfl rfl (by decide) : mo_Sim 112 1 (ma_inv 137 1 1 11 4)) (mt_leaf (ms_ast0 (e := (.astore_n 2, 5, 0, 0, 0)) rfl (fun _ _ _ => rfl) : mo_Sim 112 4 (ma_sta 2 5)) (mt_none)))
set_option maxRecDepth 100000 in
theorem smt112_4 (k : Nat) : ∀ f, mt112_4 k = some f → mo_Sim 112 k f := mt_leaf (ms_pushi (e := (.iconst 0, 6, 0, 0, 0)) rfl (fun _ _ _ => rfl) (by decide) : mo_Sim 112 5 (ma_push (ma_ci (.ofNat 0)) 6)) (mt_leaf (ms_ist (e := (.istore_n 3, 7, 0, 0, 0)) rfl (fun _ _ _ => rfl) : mo_Sim 112 6 (ma_stor 0 3 7)) (mt_leaf (ms_pushi (e := (.iconst 0, 8, 0, 0, 0)) rfl (fun _ _ _ => rfl) (by decide) : mo_Sim 112 7 (ma_push (ma_ci (.ofNat 0)) 8)) (mt_leaf (ms_ist (e := (.istore 4, 10, 0, 0, 0)) rfl (fun _ _ _ => rfl) : mo_Sim 112 8 (ma_stor 0 4 10)) (mt_none))))
set_option maxRecDepth 100000 in
theorem smt112_2 (k : Nat) : ∀ f, mt112_2 k = some f → mo_Sim 112 k f := mt_node (smt112_3 k) (smt112_4 k)
set_option maxRecDepth 100000 in
theorem smt112_6 (k : Nat) : ∀ f, mt112_6 k = some f → mo_Sim 112 k f := mt_leaf (ms_ild (e := (.iload 4, 12, 0, 0, 0)) rfl (fun _ _ _ => rfl) : mo_Sim 112 10 (ma_load 0 4 12)) (mt_leaf (ms_ald (e := (.aload_n 2, 13, 0, 0, 0)) rfl (fun _ _ _ => rfl) : mo_Sim 112 12 (ma_lda 2 13)) (mt_leaf (ms_alen (e := (.arraylength, 14, 0, 0, 0)) rfl (fun _ _ _ => rfl) : mo_Sim 112 13 (ma_alen 14)) (mt_none)))
set_option maxRecDepth 100000 in
theorem smt112_7 (k : Nat) : ∀ f, mt112_7 k = some f → mo_Sim 112 k f := mt_leaf (ms_if2 (e := (.if_icmp .ge 33, 17, 47, 0, 0)) rfl (fun _ _ _ => rfl) : mo_Sim 112 14 (ma_if2 .ge 47 14 17)) (mt_leaf (ms_ald (e := (.aload_n 0, 18, 0, 0, 0)) rfl (fun _ _ _ => rfl) : mo_Sim 112 17 (ma_lda 0 18)) (mt_leaf (ms_ald (e := (.aload_n 2, 19, 0, 0, 0)) rfl (fun _ _ _ => rfl) : mo_Sim 112 18 (ma_lda 2 19)) (mt_leaf (ms_ild (e := (.iload 4, 21, 0, 0, 0)) rfl (fun _ _ _ => rfl) : mo_Sim 112 19 (ma_load 0 4 21)) (mt_none))))
set_option maxRecDepth 100000 in
theorem smt112_5 (k : Nat) : ∀ f, mt112_5 k = some f → mo_Sim 112 k f := mt_node (smt112_6 k) (smt112_7 k)
set_option maxRecDepth 100000 in
theorem smt112_1 (k : Nat) : ∀ f, mt112_1 k = some f → mo_Sim 112 k f := mt_node (smt112_2 k) (smt112_5 k)
set_option maxRecDepth 100000 in
theorem smt112_10 (k : Nat) : ∀ f, mt112_10 k = some f → mo_Sim 112 k f := mt_leaf (ms_iald (e := (.iaload, 22, 0, 0, 0)) rfl (fun _ _ _ => rfl) : mo_Sim 112 21 (ma_iald 21 22)) (mt_leaf (ms_invV (p := 1) (e := (.invokevirtual 240, 25, 138, 0, 901)) rfl rfl (fun _ _ _ => rfl) rfl rfl rfl (by decide) : mo_Sim 112 22 (ma_inv 138 2 3 11 25)) (mt_leaf (ms_if0 (e := (.ifCond .eq 16, 28, 41, 0, 0)) rfl (fun _ _ _ => rfl) : mo_Sim 112 25 (ma_if0 .eq 41 25 28)) (mt_none)))
set_option maxRecDepth 100000 in
theorem smt112_11 (k : Nat) : ∀ f, mt112_11 k = some f → mo_Sim 112 k f := mt_leaf (ms_ild (e := (.iload_n 3, 29, 0, 0, 0)) rfl (fun _ _ _ => rfl) : mo_Sim 112 28 (ma_load 0 3 29)) (mt_leaf (ms_ild (e := (.iload_n 1, 30, 0, 0, 0)) rfl (fun _ _ _ => rfl) : mo_Sim 112 29 (ma_load 0 1 30)) (mt_leaf (ms_if2 (e := (.if_icmp .ne 8, 33, 38, 0, 0)) rfl (fun _ _ _ => rfl) : mo_Sim 112 30 (ma_if2 .ne 38 30 33)) (mt_leaf (ms_ald (e := (.aload_n 2, 34, 0, 0, 0)) rfl (fun _ _ _ => rfl) : mo_Sim 112 33 (ma_lda 2 34)) (mt_none))))
set_option maxRecDepth 100000 in
theorem smt112_9 (k : Nat) : ∀ f, mt112_9 k = some f → mo_Sim 112 k f := mt_node (smt112_10 k) (smt112_11 k)
set_option maxRecDepth 100000 in
theorem smt112_13 (k : Nat) : ∀ f, mt112_13 k = some f → mo_Sim 112 k f := mt_leaf (ms_ild (e := (.iload 4, 36, 0, 0, 0)) rfl (fun _ _ _ => rfl) : mo_Sim 112 34 (ma_load 0 4 36)) (mt_leaf (ms_iald (e := (.iaload, 37, 0, 0, 0)) rfl (fun _ _ _ => rfl) : mo_Sim 112 36 (ma_iald 36 37)) (mt_leaf (ms_ret (e := (.ireturn, 38, 0, 0, 0)) rfl (Or.inl ⟨rfl, rfl, (fun _ _ _ => rfl)⟩) : mo_Sim 112 37 (ma_ret 0)) (mt_leaf (ms_iinc (e := (.iinc 3 1, 41, 0, 0, 0)) rfl (fun _ _ _ => rfl) (by decide) : mo_Sim 112 38 (ma_iinc 3 (.ofNat 1) 38 41)) (mt_none))))
set_option maxRecDepth 100000 in
theorem smt112_14 (k : Nat) : ∀ f, mt112_14 k = some f → mo_Sim 112 k f := mt_leaf (ms_iinc (e := (.iinc 4 1, 44, 0, 0, 0)) rfl (fun _ _ _ => rfl) (by decide) : mo_Sim 112 41 (ma_iinc 4 (.ofNat 1) 41 44)) (mt_leaf (ms_goto (e := (.goto (-34), 47, 10, 0, 0)) rfl (fun _ _ _ => rfl) : mo_Sim 112 44 (ma_goto 10)) (mt_leaf (ms_pushi (e := (.iconst (-1), 48, 0, 0, 0)) rfl (fun _ _ _ => rfl) (by decide) : mo_Sim 112 47 (ma_push (ma_ci (.negSucc 0)) 48)) (mt_leaf (ms_ret (e := (.ireturn, 49, 0, 0, 0)) rfl (Or.inl ⟨rfl, rfl, (fun _ _ _ => rfl)⟩) : mo_Sim 112 48 (ma_ret 0)) (mt_none))))
set_option maxRecDepth 100000 in
theorem smt112_12 (k : Nat) : ∀ f, mt112_12 k = some f → mo_Sim 112 k f := mt_node (smt112_13 k) (smt112_14 k)
set_option maxRecDepth 100000 in
theorem smt112_8 (k : Nat) : ∀ f, mt112_8 k = some f → mo_Sim 112 k f := mt_node (smt112_9 k) (smt112_12 k)
set_option maxRecDepth 100000 in
theorem smt112_0 (k : Nat) : ∀ f, mt112_0 k = some f → mo_Sim 112 k f := mt_node (smt112_1 k) (smt112_8 k)
set_option maxRecDepth 100000 in
theorem smt113_2 (k : Nat) : ∀ f, mt113_2 k = some f → mo_Sim 113 k f := mt_leaf (ms_ald (e := (.aload_n 0, 1, 0, 0, 0)) rfl (fun _ _ _ => rfl) : mo_Sim 113 0 (ma_lda 0 1)) (mt_leaf (ms_ild (e := (.iload_n 1, 2, 0, 0, 0)) rfl (fun _ _ _ => rfl) : mo_Sim 113 1 (ma_load 0 1 2)) (mt_leaf (ms_invV (p := 1) (e := (.invokevirtual 159, 5, 125, 0, 609)) rfl rfl (fun _ _ _ => rfl) rfl rfl rfl (by decide) : mo_Sim 113 2 (ma_inv 125 2 2 11 5)) (mt_leaf (ms_if0 (e := (.ifCond .eq 14, 8, 19, 0, 0)) rfl (fun _ _ _ => rfl) : mo_Sim 113 5 (ma_if0 .eq 19 5 8)) (mt_none))))
set_option maxRecDepth 100000 in
theorem smt113_3 (k : Nat) : ∀ f, mt113_3 k = some f → mo_Sim 113 k f := mt_leaf (ms_ald (e := (.aload_n 0, 9, 0, 0, 0)) rfl (fun _ _ _ => rfl) : mo_Sim 113 8 (ma_lda 0 9)) (mt_leaf (ms_getf (e := (.getfield 10, 12, 11, 0, 460)) rfl (fun _ _ _ => rfl) : mo_Sim 113 9 (ma_getf 11 0 12)) (mt_leaf (ms_getf (e := (.getfield 135, 15, 1, 0, 112)) rfl (fun _ _ _ => rfl) : mo_Sim 113 12 (ma_getf 1 0 15)) (mt_leaf (ms_pushi (e := (.iconst 3, 16, 0, 0, 0)) rfl (fun _ _ _ => rfl) (by decide) : mo_Sim 113 15 (ma_push (ma_ci (.ofNat 3)) 16)) (mt_none))))
set_option maxRecDepth 100000 in
theorem smt113_1 (k : Nat) : ∀ f, mt113_1 k = some f → mo_Sim 113 k f := mt_node (smt113_2 k) (smt113_3 k)
set_option maxRecDepth 100000 in
theorem smt113_5 (k : Nat) : ∀ f, mt113_5 k = some f → mo_Sim 113 k f := mt_leaf (ms_if2 (e := (.if_icmp .ne 5, 19, 21, 0, 0)) rfl (fun _ _ _ => rfl) : mo_Sim 113 16 (ma_if2 .ne 21 16 19)) (mt_leaf (ms_pushi (e := (.iconst (-1), 20, 0, 0, 0)) rfl (fun _ _ _ => rfl) (by decide) : mo_Sim 113 19 (ma_push (ma_ci (.negSucc 0)) 20)) (mt_leaf (ms_ret (e := (.ireturn, 21, 0, 0, 0)) rfl (Or.inl ⟨rfl, rfl, (fun _ _ _ => rfl)⟩) : mo_Sim 113 20 (ma_ret 0)) (mt_leaf (ms_ald (e := (.aload_n 0, 22, 0, 0, 0)) rfl (fun _ _ _ => rfl) : mo_Sim 113 21 (ma_lda 0 22)) (mt_none))))
set_option maxRecDepth 100000 in
theorem smt113_7 (k : Nat) : ∀ f, mt113_7 k = some f → mo_Sim 113 k f := mt_leaf (ms_getf (e := (.getfield 25, 25, 11, 2, 462)) rfl (fun _ _ _ => rfl) : mo_Sim 113 22 (ma_getf 11 2 25)) (mt_leaf (ms_ild (e := (.iload_n 1, 26, 0, 0, 0)) rfl (fun _ _ _ => rfl) : mo_Sim 113 25 (ma_load 0 1 26)) (mt_none))
set_option maxRecDepth 100000 in
theorem smt113_8 (k : Nat) : ∀ f, mt113_8 k = some f → mo_Sim 113 k f := mt_leaf (ms_aald (e := (.aaload, 27, 0, 0, 0)) rfl (fun _ _ _ => rfl) : mo_Sim 113 26 (ma_aald 26 27)) (mt_leaf (ms_invV (p := 0) (e := (.invokevirtual 243, 30, 5, 0, 920)) rfl rfl (fun _ _ _ => rfl) rfl rfl rfl (by decide) : mo_Sim 113 27 (ma_inv 5 1 2 0 30)) (mt_leaf (ms_ret (e := (.ireturn, 31, 0, 0, 0)) rfl (Or.inl ⟨rfl, rfl, (fun _ _ _ => rfl)⟩) : mo_Sim 113 30 (ma_ret 0)) (mt_none)))
set_option maxRecDepth 100000 in
theorem smt113_6 (k : Nat) : ∀ f, mt113_6 k = some f → mo_Sim 113 k f := mt_node (smt113_7 k) (smt113_8 k)
set_option maxRecDepth 100000 in
theorem smt113_4 (k : Nat) : ∀ f, mt113_4 k = some f → mo_Sim 113 k f := mt_node (smt113_5 k) (smt113_6 k)
set_option maxRecDepth 100000 in
theorem smt113_0 (k : Nat) : ∀ f, mt113_0 k = some f → mo_Sim 113 k f := mt_node (smt113_1 k) (smt113_4 k)
set_option maxRecDepth 100000 in
theorem smt114_3 (k : Nat) : ∀ f, mt114_3 k = some f → mo_Sim 114 k f := mt_leaf (ms_ald (e := (.aload_n 0, 1, 0, 0, 0)) rfl (fun _ _ _ => rfl) : mo_Sim 114 0 (ma_lda 0 1)) (mt_leaf (ms_getf (e := (.getfield 10, 4, 11, 0, 460)) rfl (fun _ _ _ => rfl) : mo_Sim 114 1 (ma_getf 11 0 4)) (mt_leaf (ms_getf (e := (.getfield 135, 7, 1, 0, 112)) rfl (fun _ _ _ => rfl) : mo_Sim 114 4 (ma_getf 1 0 7)) (mt_none)))
set_option maxRecDepth 100000 in
theorem smt114_4 (k : Nat) : ∀ f, mt114_4 k = some f → mo_Sim 114 k f := mt_leaf (ms_pushi (e := (.iconst 3, 8, 0, 0, 0)) rfl (fun _ _ _ => rfl) (by decide) : mo_Sim 114 7 (ma_push (ma_ci (.ofNat 3)) 8)) (mt_leaf (ms_if2 (e := (.if_icmp .ne 5, 11, 13, 0, 0)) rfl (fun _ _ _ => rfl) : mo_Sim 114 8 (ma_if2 .ne 13 8 11)) (mt_leaf (ms_pushi (e := (.iconst (-1), 12, 0, 0, 0)) rfl (fun _ _ _ => rfl) (by decide) : mo_Sim 114 11 (ma_push (ma_ci (.negSucc 0)) 12)) (mt_leaf (ms_ret (e := (.ireturn, 13, 0, 0, 0)) rfl (Or.inl ⟨rfl, rfl, (fun _ _ _ => rfl)⟩) : mo_Sim 114 12 (ma_ret 0)) (mt_none))))
set_option maxRecDepth 100000 in
theorem smt114_2 (k : Nat) : ∀ f, mt114_2 k = some f → mo_Sim 114 k f := mt_node (smt114_3 k) (smt114_4 k)
set_option maxRecDepth 100000 in
theorem smt114_6 (k : Nat) : ∀ f, mt114_6 k = some f → mo_Sim 114 k f := mt_leaf (ms_pushi (e := (.bipush 31, 15, 0, 0, 0)) rfl (fun _ _ _ => rfl) (by decide) : mo_Sim 114 13 (ma_push (ma_ci (.ofNat 31)) 15)) (mt_leaf (ms_ist (e := (.istore_n 1, 16, 0, 0, 0)) rfl (fun _ _ _ => rfl) : mo_Sim 114 15 (ma_stor 0 1 16)) (mt_leaf (ms_pushi (e := (.iconst 0, 17, 0, 0, 0)) rfl (fun _ _ _ => rfl) (by decide) : mo_Sim 114 16 (ma_push (ma_ci (.ofNat 0)) 17)) (mt_leaf (ms_ist (e := (.istore_n 2, 18, 0, 0, 0)) rfl (fun _ _ _ => rfl) : mo_Sim 114 17 (ma_stor 0 2 18)) (mt_none))))
set_option maxRecDepth 100000 in
theorem smt114_7 (k : Nat) : ∀ f, mt114_7 k = some f → mo_Sim 114 k f := mt_leaf (ms_ild (e := (.iload_n 2, 19, 0, 0, 0)) rfl (fun _ _ _ => rfl) : mo_Sim 114 18 (ma_load 0 2 19)) (mt_leaf (ms_ald (e := (.aload_n 0, 20, 0, 0, 0)) rfl (fun _ _ _ => rfl) : mo_Sim 114 19 (ma_lda 0 20)) (mt_leaf (ms_getf (e := (.getfield 123, 23, 11, 14, 474)) rfl (fun _ _ _ => rfl) : mo_Sim 114 20 (ma_getf 11 14 23)) (mt_leaf (ms_if2 (e := (.if_icmp .ge 21, 26, 44, 0, 0)) rfl (fun _ _ _ => rfl) : mo_Sim 114 23 (ma_if2 .ge 44 23 26)) (mt_none))))
set_option maxRecDepth 100000 in
theorem smt114_5 (k : Nat) : ∀ f, mt114_5 k = some f → mo_Sim 114 k f := mt_node (smt114_6 k) (smt114_7 k)
set_option maxRecDepth 100000 in
theorem smt114_1 (k : Nat) : ∀ f, mt114_1 k = some f → mo_Sim 114 k f := mt_node (smt114_2 k) (smt114_5 k)
set_option maxRecDepth 100000 in
theorem smt114_10 (k : Nat) : ∀ f, mt114_10 k = some f → mo_Sim 114 k f := mt_leaf (ms_ild (e := (.iload_n 1, 27, 0, 0, 0)) rfl (fun _ _ _ => rfl) : mo_Sim 114 26 (ma_load 0 1 27)) (mt_leaf (ms_ald (e := (.aload_n 0, 28, 0, 0, 0)) rfl (fun _ _ _ => rfl) : mo_Sim 114 27 (ma_lda 0 28)) (mt_leaf (ms_getf (e := (.getfield 25, 31, 11, 2, 462)) rfl (fun _ _ _ => rfl) : mo_Sim 114 28 (ma_getf 11 2 31)) (mt_leaf (ms_ild (e := (.iload_n 2, 32, 0, 0, 0)) rfl (fun _ _ _ => rfl) : mo_Sim 114 31 (ma_load 0 2 32)) (mt_none))))
set_option maxRecDepth 100000 in
theorem smt114_11 (k : Nat) : ∀ f, mt114_11 k = some f → mo_Sim 114 k f := mt_leaf (ms_aald (e := (.aaload, 33, 0, 0, 0)) rfl (fun _ _ _ => rfl) : mo_Sim 114 32 (ma_aald 32 33)) (mt_leaf (ms_invV (p := 0) (e := (.invokevirtual 243, 36, 5, 0, 920)) rfl rfl (fun _ _ _ => rfl) rfl rfl rfl (by decide) : mo_Sim 114 33 (ma_inv 5 1 2 0 36)) (mt_leaf (ms_iand (e := (.iand, 37, 0, 0, 0)) rfl (fun _ _ _ => rfl) : mo_Sim 114 36 (ma_iand 36 37)) (mt_leaf (ms_ist (e := (.istore_n 1, 38, 0, 0, 0)) rfl (fun _ _ _ => rfl) : mo_Sim 114 37 (ma_stor 0 1 38)) (mt_none))))
set_option maxRecDepth 100000 in
theorem smt114_9 (k : Nat) : ∀ f, mt114_9 k = some f → mo_Sim 114 k f := mt_node (smt114_10 k) (smt114_11 k)
set_option maxRecDepth 100000 in
theorem smt114_13 (k : Nat) : ∀ f, mt114_13 k = some f → mo_Sim 114 k f := mt_leaf (ms_iinc (e := (.iinc 2 1, 41, 0, 0, 0)) rfl (fun _ _ _ => rfl) (by decide) : mo_Sim 114 38 (ma_iinc 2 (.ofNat 1) 38 41)) (mt_leaf (ms_goto (e := (.goto (-23), 44, 18, 0, 0)) rfl (fun _ _ _ => rfl) : mo_Sim 114 41 (ma_goto 18)) (mt_leaf (ms_ild (e := (.iload_n 1, 45, 0, 0, 0)) rfl (fun _ _ _ => rfl) : mo_Sim 114 44 (ma_load 0 1 45)) (mt_leaf (ms_if0 (e := (.ifCond .ne 7, 48, 52, 0, 0)) rfl (fun _ _ _ => rfl) : mo_Sim 114 45 (ma_if0 .ne 52 45 48)) (mt_none))))
set_option maxRecDepth 100000 in
theorem smt114_14 (k : Nat) : ∀ f, mt114_14 k = some f → mo_Sim 114 k f := mt_leaf (ms_pushi (e := (.iconst 1, 49, 0, 0, 0)) rfl (fun _ _ _ => rfl) (by decide) : mo_Sim 114 48 (ma_push (ma_ci (.ofNat 1)) 49)) (mt_leaf (ms_goto (e := (.goto 4, 52, 53, 0, 0)) rfl (fun _ _ _ => rfl) : mo_Sim 114 49 (ma_goto 53)) (mt_leaf (ms_pushi (e := (.iconst 0, 53, 0, 0, 0)) rfl (fun _ _ _ => rfl) (by decide) : mo_Sim 114 52 (ma_push (ma_ci (.ofNat 0)) 53)) (mt_leaf (ms_ret (e := (.ireturn, 54, 0, 0, 0)) rfl (Or.inl ⟨rfl, rfl, (fun _ _ _ => rfl)⟩) : mo_Sim 114 53 (ma_ret 0)) (mt_none))))
set_option maxRecDepth 100000 in
theorem smt114_12 (k : Nat) : ∀ f, mt114_12 k = some f → mo_Sim 114 k f := mt_node (smt114_13 k) (smt114_14 k)
set_option maxRecDepth 100000 in
theorem smt114_8 (k : Nat) : ∀ f, mt114_8 k = some f → mo_Sim 114 k f := mt_node (smt114_9 k) (smt114_12 k)
set_option maxRecDepth 100000 in
theorem smt114_0 (k : Nat) : ∀ f, mt114_0 k = some f → mo_Sim 114 k f := mt_node (smt114_1 k) (smt114_8 k)
set_option maxRecDepth 100000 in
theorem smt115_2 (k : Nat) : ∀ f, mt115_2 k = some f → mo_Sim 115 k f := mt_leaf (ms_ild (e := (.iload_n 1, 1, 0, 0, 0)) rfl (fun _ _ _ => rfl) : mo_Sim 115 0 (ma_load 0 1 1)) (mt_leaf (ms_pushi (e := (.iconst 1, 2, 0, 0, 0)) rfl (fun _ _ _ => rfl) (by decide) : mo_Sim 115 1 (ma_push (ma_ci (.ofNat 1)) 2)) (mt_leaf (ms_if2 (e := (.if_icmp .lt 9, 5, 11, 0, 0)) rfl (fun _ _ _ => rfl) : mo_Sim 115 2 (ma_if2 .lt 11 2 5)) (mt_leaf (ms_ild (e := (.iload_n 1, 6, 0, 0, 0)) rfl (fun _ _ _ => rfl) : mo_Sim 115 5 (ma_load 0 1 6)) (mt_none))))
set_option maxRecDepth 100000 in
theorem smt115_3 (k : Nat) : ∀ f, mt115_3 k = some f → mo_Sim 115 k f := mt_leaf (ms_pushi (e := (.bipush 8, 8, 0, 0, 0)) rfl (fun _ _ _ => rfl) (by decide) : mo_Sim 115 6 (ma_push (ma_ci (.ofNat 8)) 8)) (mt_leaf (ms_if2 (e := (.if_icmp .le 5, 11, 13, 0, 0)) rfl (fun _ _ _ => rfl) : mo_Sim 115 8 (ma_if2 .le 13 8 11)) (mt_leaf (ms_pushi (e := (.iconst 0, 12, 0, 0, 0)) rfl (fun _ _ _ => rfl) (by decide) : mo_Sim 115 11 (ma_push (ma_ci (.ofNat 0)) 12)) (mt_leaf (ms_ret (e := (.ireturn, 13, 0, 0, 0)) rfl (Or.inr (Or.inl ⟨rfl, rfl, (fun _ _ _ => rfl)⟩)) : mo_Sim 115 12 (ma_ret 1)) (mt_none))))
set_option maxRecDepth 100000 in
theorem smt115_1 (k : Nat) : ∀ f, mt115_1 k = some f → mo_Sim 115 k f := mt_node (smt115_2 k) (smt115_3 k)
set_option maxRecDepth 100000 in
theorem smt115_5 (k : Nat) : ∀ f, mt115_5 k = some f → mo_Sim 115 k f := mt_leaf (ms_ald (e := (.aload_n 0, 14, 0, 0, 0)) rfl (fun _ _ _ => rfl) : mo_Sim 115 13 (ma_lda 0 14)) (mt_leaf (ms_getf (e := (.getfield 51, 17, 11, 6, 466)) rfl (fun _ _ _ => rfl) : mo_Sim 115 14 (ma_getf 11 6 17)) (mt_leaf (ms_ild (e := (.iload_n 1, 18, 0, 0, 0)) rfl (fun _ _ _ => rfl) : mo_Sim 115 17 (ma_load 0 1 18)) (mt_leaf (ms_invV (p := 1) (e := (.invokevirtual 246, 21, 74, 0, 456)) rfl rfl (fun _ _ _ => rfl) rfl rfl rfl (by decide) : mo_Sim 115 18 (ma_inv 74 2 2 9 21)) (mt_none))))
set_option maxRecDepth 100000 in
theorem smt115_7 (k : Nat) : ∀ f, mt115_7 k = some f → mo_Sim 115 k f := mt_leaf (ms_ald (e := (.aload_n 0, 22, 0, 0, 0)) rfl (fun _ _ _ => rfl) : mo_Sim 115 21 (ma_lda 0 22)) (mt_leaf (ms_pushi (e := (.iconst 0, 23, 0, 0, 0)) rfl (fun _ _ _ => rfl) (by decide) : mo_Sim 115 22 (ma_push (ma_ci (.ofNat 0)) 23)) (mt_none))
set_option maxRecDepth 100000 in
theorem smt115_8 (k : Nat) : ∀ f, mt115_8 k = some f → mo_Sim 115 k f := mt_leaf (ms_putf (e := (.putfield 249, 26, 11, 18, 478)) rfl rfl (fun _ _ _ => rfl) (Or.inr (Or.inl ⟨rfl, rfl⟩)) : mo_Sim 115 23 (ma_putf 11 18 1 26)) (mt_leaf (ms_pushi (e := (.iconst 1, 27, 0, 0, 0)) rfl (fun _ _ _ => rfl) (by decide) : mo_Sim 115 26 (ma_push (ma_ci (.ofNat 1)) 27)) (mt_leaf (ms_ret (e := (.ireturn, 28, 0, 0, 0)) rfl (Or.inr (Or.inl ⟨rfl, rfl, (fun _ _ _ => rfl)⟩)) : mo_Sim 115 27 (ma_ret 1)) (mt_none)))
set_option maxRecDepth 100000 in
theorem smt115_6 (k : Nat) : ∀ f, mt115_6 k = some f → mo_Sim 115 k f := mt_node (smt115_7 k) (smt115_8 k)
set_option maxRecDepth 100000 in
theorem smt115_4 (k : Nat) : ∀ f, mt115_4 k = some f → mo_Sim 115 k f := mt_node (smt115_5 k) (smt115_6 k)
set_option maxRecDepth 100000 in
theorem smt115_0 (k : Nat) : ∀ f, mt115_0 k = some f → mo_Sim 115 k f := mt_node (smt115_1 k) (smt115_4 k)
set_option maxRecDepth 100000 in
theorem smt116_4 (k : Nat) : ∀ f, mt116_4 k = some f → mo_Sim 116 k f := mt_leaf (ms_ald (e := (.aload_n 0, 1, 0, 0, 0)) rfl (fun _ _ _ => rfl) : mo_Sim 116 0 (ma_lda 0 1)) (mt_leaf (ms_ild (e := (.iload_n 1, 2, 0, 0, 0)) rfl (fun _ _ _ => rfl) : mo_Sim 116 1 (ma_load 0 1 2)) (mt_leaf (ms_invV (p := 1) (e := (.invokevirtual 168, 5, 126, 0, 617)) rfl rfl (fun _ _ _ => rfl) rfl rfl rfl (by decide) : mo_Sim 116 2 (ma_inv 126 2 2 11 5)) (mt_none)))
set_option maxRecDepth 100000 in
theorem smt116_5 (k : Nat) : ∀ f, mt116_5 k = some f → mo_Sim 116 k f := mt_leaf (ms_if0 (e := (.ifCond .ne 6, 8, 11, 0, 0)) rfl (fun _ _ _ => rfl) : mo_Sim 116 5 (ma_if0 .ne 11 5 8)) (mt_leaf (ms_pushi (e := (.bipush (-2), 10, 0, 0, 0)) rfl (fun _ _ _ => rfl) (by decide) : mo_Sim 116 8 (ma_push (ma_ci (.negSucc 1)) 10)) (mt_leaf (ms_ret (e := (.ireturn, 11, 0, 0, 0)) rfl (Or.inl ⟨rfl, rfl, (fun _ _ _ => rfl)⟩) : mo_Sim 116 10 (ma_ret 0)) (mt_leaf (ms_ald (e := (.aload_n 0, 12, 0, 0, 0)) rfl (fun _ _ _ => rfl) : mo_Sim 116 11 (ma_lda 0 12)) (mt_none))))
set_option maxRecDepth 100000 in
theorem smt116_3 (k : Nat) : ∀ f, mt116_3 k = some f → mo_Sim 116 k f := mt_node (smt116_4 k) (smt116_5 k)
set_option maxRecDepth 100000 in
theorem smt116_7 (k : Nat) : ∀ f, mt116_7 k = some f → mo_Sim 116 k f := mt_leaf (ms_getf (e := (.getfield 31, 15, 11, 3, 463)) rfl (fun _ _ _ => rfl) : mo_Sim 116 12 (ma_getf 11 3 15)) (mt_leaf (ms_ild (e := (.iload_n 1, 16, 0, 0, 0)) rfl (fun _ _ _ => rfl) : mo_Sim 116 15 (ma_load 0 1 16)) (mt_leaf (ms_aald (e := (.aaload, 17, 0, 0, 0)) rfl (fun _ _ _ => rfl) : mo_Sim 116 16 (ma_aald 16 17)) (mt_leaf (ms_getf (e := (.getfield 180, 20, 4, 0, 359)) rfl (fun _ _ _ => rfl) : mo_Sim 116 17 (ma_getf 4 0 20)) (mt_none))))
set_option maxRecDepth 100000 in
theorem smt116_8 (k : Nat) : ∀ f, mt116_8 k = some f → mo_Sim 116 k f := mt_leaf (ms_ist (e := (.istore 5, 22, 0, 0, 0)) rfl (fun _ _ _ => rfl) : mo_Sim 116 20 (ma_stor 0 5 22)) (mt_leaf (ms_ild (e := (.iload 5, 24, 0, 0, 0)) rfl (fun _ _ _ => rfl) : mo_Sim 116 22 (ma_load 0 5 24)) (mt_leaf (ms_pushi (e := (.iconst 1, 25, 0, 0, 0)) rfl (fun _ _ _ => rfl) (by decide) : mo_Sim 116 24 (ma_push (ma_ci (.ofNat 1)) 25)) (mt_leaf (ms_if2 (e := (.if_icmp .le 7, 28, 32, 0, 0)) rfl (fun _ _ _ => rfl) : mo_Sim 116 25 (ma_if2 .le 32 25 28)) (mt_none))))
set_option maxRecDepth 100000 in
theorem smt116_6 (k : Nat) : ∀ f, mt116_6 k = some f → mo_Sim 116 k f := mt_node (smt116_7 k) (smt116_8 k)
set_option maxRecDepth 100000 in
theorem smt116_2 (k : Nat) : ∀ f, mt116_2 k = some f → mo_Sim 116 k f := mt_node (smt116_3 k) (smt116_6 k)
set_option maxRecDepth 100000 in
theorem smt116_11 (k : Nat) : ∀ f, mt116_11 k = some f → mo_Sim 116 k f := mt_leaf (ms_ild (e := (.iload_n 3, 29, 0, 0, 0)) rfl (fun _ _ _ => rfl) : mo_Sim 116 28 (ma_load 0 3 29)) (mt_leaf (ms_goto (e := (.goto 4, 32, 33, 0, 0)) rfl (fun _ _ _ => rfl) : mo_Sim 116 29 (ma_goto 33)) (mt_leaf (ms_ild (e := (.iload_n 2, 33, 0, 0, 0)) rfl (fun _ _ _ => rfl) : mo_Sim 116 32 (ma_load 0 2 33)) (mt_none)))
set_option maxRecDepth 100000 in
theorem smt116_12 (k : Nat) : ∀ f, mt116_12 k = some f → mo_Sim 116 k f := mt_leaf (ms_ist (e := (.istore 6, 35, 0, 0, 0)) rfl (fun _ _ _ => rfl) : mo_Sim 116 33 (ma_stor 0 6 35)) (mt_leaf (ms_ild (e := (.iload 5, 37, 0, 0, 0)) rfl (fun _ _ _ => rfl) : mo_Sim 116 35 (ma_load 0 5 37)) (mt_leaf (ms_pushi (e := (.iconst 2, 38, 0, 0, 0)) rfl (fun _ _ _ => rfl) (by decide) : mo_Sim 116 37 (ma_push (ma_ci (.ofNat 2)) 38)) (mt_leaf (ms_if2 (e := (.if_icmp .le 8, 41, 46, 0, 0)) rfl (fun _ _ _ => rfl) : mo_Sim 116 38 (ma_if2 .le 46 38 41)) (mt_none))))
set_option maxRecDepth 100000 in
theorem smt116_10 (k : Nat) : ∀ f, mt116_10 k = some f → mo_Sim 116 k f := mt_node (smt116_11 k) (smt116_12 k)
set_option maxRecDepth 100000 in
theorem smt116_14 (k : Nat) : ∀ f, mt116_14 k = some f → mo_Sim 116 k f := mt_leaf (ms_ild (e := (.iload 4, 43, 0, 0, 0)) rfl (fun _ _ _ => rfl) : mo_Sim 116 41 (ma_load 0 4 43)) (mt_leaf (ms_goto (e := (.goto 5, 46, 48, 0, 0)) rfl (fun _ _ _ => rfl) : mo_Sim 116 43 (ma_goto 48)) (mt_leaf (ms_ild (e := (.iload 6, 48, 0, 0, 0)) rfl (fun _ _ _ => rfl) : mo_Sim 116 46 (ma_load 0 6 48)) (mt_leaf (ms_ist (e := (.istore 7, 50, 0, 0, 0)) rfl (fun _ _ _ => rfl) : mo_Sim 116 48 (ma_stor 0 7 50)) (mt_none))))
set_option maxRecDepth 100000 in
theorem smt116_15 (k : Nat) : ∀ f, mt116_15 k = some f → mo_Sim 116 k f := mt_leaf (ms_ald (e := (.aload_n 0, 51, 0, 0, 0)) rfl (fun _ _ _ => rfl) : mo_Sim 116 50 (ma_lda 0 51)) (mt_leaf (ms_getf (e := (.getfield 51, 54, 11, 6, 466)) rfl (fun _ _ _ => rfl) : mo_Sim 116 51 (ma_getf 11 6 54)) (mt_leaf (ms_ild (e := (.iload_n 2, 55, 0, 0, 0)) rfl (fun _ _ _ => rfl) : mo_Sim 116 54 (ma_load 0 2 55)) (mt_leaf (ms_invV (p := 1) (e := (.invokevirtual 252, 58, 75, 0, 948)) rfl rfl (fun _ _ _ => rfl) rfl rfl rfl (by decide) : mo_Sim 116 55 (ma_inv 75 2 2 9 58)) (mt_none))))
set_option maxRecDepth 100000 in
theorem smt116_13 (k : Nat) : ∀ f, mt116_13 k = some f → mo_Sim 116 k f := mt_node (smt116_14 k) (smt116_15 k)
set_option maxRecDepth 100000 in
theorem smt116_9 (k : Nat) : ∀ f, mt116_9 k = some f → mo_Sim 116 k f := mt_node (smt116_10 k) (smt116_13 k)
set_option maxRecDepth 100000 in
theorem smt116_1 (k : Nat) : ∀ f, mt116_1 k = some f → mo_Sim 116 k f := mt_node (smt116_2 k) (smt116_9 k)
set_option maxRecDepth 100000 in
theorem smt116_19 (k : Nat) : ∀ f, mt116_19 k = some f → mo_Sim 116 k f := mt_leaf (ms_if0 (e := (.ifCond .eq 27, 61, 85, 0, 0)) rfl (fun _ _ _ => rfl) : mo_Sim 116 58 (ma_if0 .eq 85 58 61)) (mt_leaf (ms_ald (e := (.aload_n 0, 62, 0, 0, 0)) rfl (fun _ _ _ => rfl) : mo_Sim 116 61 (ma_lda 0 62)) (mt_leaf (ms_getf (e := (.getfield 51, 65, 11, 6, 466)) rfl (fun _ _ _ => rfl) : mo_Sim 116 62 (ma_getf 11 6 65)) (mt_none)))
set_option maxRecDepth 100000 in
theorem smt116_20 (k : Nat) : ∀ f, mt116_20 k = some f → mo_Sim 116 k f := mt_leaf (ms_ild (e := (.iload 6, 67, 0, 0, 0)) rfl (fun _ _ _ => rfl) : mo_Sim 116 65 (ma_load 0 6 67)) (mt_leaf (ms_invV (p := 1) (e := (.invokevirtual 252, 70, 75, 0, 948)) rfl rfl (fun _ _ _ => rfl) rfl rfl rfl (by decide) : mo_Sim 116 67 (ma_inv 75 2 2 9 70)) (mt_leaf (ms_if0 (e := (.ifCond .eq 15, 73, 85, 0, 0)) rfl (fun _ _ _ => rfl) : mo_Sim 116 70 (ma_if0 .eq 85 70 73)) (mt_leaf (ms_ald (e := (.aload_n 0, 74, 0, 0, 0)) rfl (fun _ _ _ => rfl) : mo_Sim 116 73 (ma_lda 0 74)) (mt_none))))
set_option maxRecDepth 100000 in
theorem smt116_18 (k : Nat) : ∀ f, mt116_18 k = some f → mo_Sim 116 k f := mt_node (smt116_19 k) (smt116_20 k)
set_option maxRecDepth 100000 in
theorem smt116_22 (k : Nat) : ∀ f, mt116_22 k = some f → mo_Sim 116 k f := mt_leaf (ms_getf (e := (.getfield 51, 77, 11, 6, 466)) rfl (fun _ _ _ => rfl) : mo_Sim 116 74 (ma_getf 11 6 77)) (mt_leaf (ms_ild (e := (.iload 7, 79, 0, 0, 0)) rfl (fun _ _ _ => rfl) : mo_Sim 116 77 (ma_load 0 7 79)) (mt_leaf (ms_invV (p := 1) (e := (.invokevirtual 252, 82, 75, 0, 948)) rfl rfl (fun _ _ _ => rfl) rfl rfl rfl (by decide) : mo_Sim 116 79 (ma_inv 75 2 2 9 82)) (mt_leaf (ms_if0 (e := (.ifCond .ne 6, 85, 88, 0, 0)) rfl (fun _ _ _ => rfl) : mo_Sim 116 82 (ma_if0 .ne 88 82 85)) (mt_none))))
set_option maxRecDepth 100000 in
theorem smt116_23 (k : Nat) : ∀ f, mt116_23 k = some f → mo_Sim 116 k f := mt_leaf (ms_pushi (e := (.bipush (-2), 87, 0, 0, 0)) rfl (fun _ _ _ => rfl) (by decide) : mo_Sim 116 85 (ma_push (ma_ci (.negSucc 1)) 87)) (mt_leaf (ms_ret (e := (.ireturn, 88, 0, 0, 0)) rfl (Or.inl ⟨rfl, rfl, (fun _ _ _ => rfl)⟩) : mo_Sim 116 87 (ma_ret 0)) (mt_leaf (ms_ald (e := (.aload_n 0, 89, 0, 0, 0)) rfl (fun _ _ _ => rfl) : mo_Sim 116 88 (ma_lda 0 89)) (mt_leaf (ms_getf (e := (.getfield 51, 92, 11, 6, 466)) rfl (fun _ _ _ => rfl) : mo_Sim 116 89 (ma_getf 11 6 92)) (mt_none))))
set_option maxRecDepth 100000 in
theorem smt116_21 (k : Nat) : ∀ f, mt116_21 k = some f → mo_Sim 116 k f := mt_node (smt116_22 k) (smt116_23 k)
set_option maxRecDepth 100000 in
theorem smt116_17 (k : Nat) : ∀ f, mt116_17 k = some f → mo_Sim 116 k f := mt_node (smt116_18 k) (smt116_21 k)
set_option maxRecDepth 100000 in
theorem smt116_26 (k : Nat) : ∀ f, mt116_26 k = some f → mo_Sim 116 k f := mt_leaf (ms_getf (e := (.getfield 255, 95, 9, 1, 250)) rfl (fun _ _ _ => rfl) : mo_Sim 116 92 (ma_getf 9 1 95)) (mt_leaf (ms_pushi (e := (.bipush 30, 97, 0, 0, 0)) rfl (fun _ _ _ => rfl) (by decide) : mo_Sim 116 95 (ma_push (ma_ci (.ofNat 30)) 97)) (mt_leaf (ms_if2 (e := (.if_icmp .lt 6, 100, 103, 0, 0)) rfl (fun _ _ _ => rfl) : mo_Sim 116 97 (ma_if2 .lt 103 97 100)) (mt_leaf (ms_pushi (e := (.bipush (-8), 102, 0, 0, 0)) rfl (fun _ _ _ => rfl) (by decide) : mo_Sim 116 100 (ma_push (ma_ci (.negSucc 7)) 102)) (mt_none))))
set_option maxRecDepth 100000 in
theorem smt116_27 (k : Nat) : ∀ f, mt116_27 k = some f → mo_Sim 116 k f := mt_leaf (ms_ret (e := (.ireturn, 103, 0, 0, 0)) rfl (Or.inl ⟨rfl, rfl, (fun _ _ _ => rfl)⟩) : mo_Sim 116 102 (ma_ret 0)) (mt_leaf (ms_ald (e := (.aload_n 0, 104, 0, 0, 0)) rfl (fun _ _ _ => rfl) : mo_Sim 116 103 (ma_lda 0 104)) (mt_leaf (ms_pushi (e := (.iconst 0, 105, 0, 0, 0)) rfl (fun _ _ _ => rfl) (by decide) : mo_Sim 116 104 (ma_push (ma_ci (.ofNat 0)) 105)) (mt_leaf (ms_putf (e := (.putfield 249, 108, 11, 18, 478)) rfl rfl (fun _ _ _ => rfl) (Or.inr (Or.inl ⟨rfl, rfl⟩)) : mo_Sim 116 105 (ma_putf 11 18 1 108)) (mt_none))))
set_option maxRecDepth 100000 in
theorem smt116_25 (k : Nat) : ∀ f, mt116_25 k = some f → mo_Sim 116 k f := mt_node (smt116_26 k) (smt116_27 k)
set_option maxRecDepth 100000 in
theorem smt116_29 (k : Nat) : ∀ f, mt116_29 k = some f → mo_Sim 116 k f := mt_leaf (ms_ald (e := (.aload_n 0, 109, 0, 0, 0)) rfl (fun _ _ _ => rfl) : mo_Sim 116 108 (ma_lda 0 109)) (mt_leaf (ms_getf (e := (.getfield 51, 112, 11, 6, 466)) rfl (fun _ _ _ => rfl) : mo_Sim 116 109 (ma_getf 11 6 112)) (mt_leaf (ms_ild (e := (.iload_n 1, 113, 0, 0, 0)) rfl (fun _ _ _ => rfl) : mo_Sim 116 112 (ma_load 0 1 113)) (mt_leaf (ms_ild (e := (.iload_n 2, 114, 0, 0, 0)) rfl (fun _ _ _ => rfl) : mo_Sim 116 113 (ma_load 0 2 114)) (mt_none))))
set_option maxRecDepth 100000 in
theorem smt116_30 (k : Nat) : ∀ f, mt116_30 k = some f → mo_Sim 116 k f := mt_leaf (ms_ild (e := (.iload 6, 116, 0, 0, 0)) rfl (fun _ _ _ => rfl) : mo_Sim 116 114 (ma_load 0 6 116)) (mt_leaf (ms_ild (e := (.iload 7, 118, 0, 0, 0)) rfl (fun _ _ _ => rfl) : mo_Sim 116 116 (ma_load 0 7 118)) (mt_leaf (ms_invV (p := 4) (e := (.invokevirtual 256, 121, 76, 0, 952)) rfl rfl (fun _ _ _ => rfl) rfl rfl rfl (by decide) : mo_Sim 116 118 (ma_inv 76 5 5 9 121)) (mt_leaf (ms_ret (e := (.ireturn, 122, 0, 0, 0)) rfl (Or.inl ⟨rfl, rfl, (fun _ _ _ => rfl)⟩) : mo_Sim 116 121 (ma_ret 0)) (mt_none))))
set_option maxRecDepth 100000 in
theorem smt116_28 (k : Nat) : ∀ f, mt116_28 k = some f → mo_Sim 116 k f := mt_node (smt116_29 k) (smt116_30 k)
set_option maxRecDepth 100000 in
theorem smt116_24 (k : Nat) : ∀ f, mt116_24 k = some f → mo_Sim 116 k f := mt_node (smt116_25 k) (smt116_28 k)
set_option maxRecDepth 100000 in
theorem smt116_16 (k : Nat) : ∀ f, mt116_16 k = some f → mo_Sim 116 k f := mt_node (smt116_17 k) (smt116_24 k)
set_option maxRecDepth 100000 in
theorem smt116_0 (k : Nat) : ∀ f, mt116_0 k = some f → mo_Sim 116 k f := mt_node (smt116_1 k) (smt116_16 k)
set_option maxRecDepth 100000 in
theorem smt117_3 (k : Nat) : ∀ f, mt117_3 k = some f → mo_Sim 117 k f := mt_leaf (ms_ald (e := (.aload_n 0, 1, 0, 0, 0)) rfl (fun _ _ _ => rfl) : mo_Sim 117 0 (ma_lda 0 1)) (mt_leaf (ms_getf (e := (.getfield 51, 4, 11, 6, 466)) rfl (fun _ _ _ => rfl) : mo_Sim 117 1 (ma_getf 11 6 4)) (mt_none))
set_option maxRecDepth 100000 in
theorem smt117_4 (k : Nat) : ∀ f, mt117_4 k = some f → mo_Sim 117 k f := mt_leaf (ms_ild (e := (.iload_n 1, 5, 0, 0, 0)) rfl (fun _ _ _ => rfl) : mo_Sim 117 4 (ma_load 0 1 5)) (mt_leaf (ms_invV (p := 1) (e := (.invokevirtual 252, 8, 75, 0, 948)) rfl rfl (fun _ _ _ => rfl) rfl rfl rfl (by decide) : mo_Sim 117 5 (ma_inv 75 2 2 9 8)) (mt_leaf (ms_if0 (e := (.ifCond .ne 5, 11, 13, 0, 0)) rfl (fun _ _ _ => rfl) : mo_Sim 117 8 (ma_if0 .ne 13 8 11)) (mt_none)))
set_option maxRecDepth 100000 in
theorem smt117_2 (k : Nat) : ∀ f, mt117_2 k = some f → mo_Sim 117 k f := mt_node (smt117_3 k) (smt117_4 k)
set_option maxRecDepth 100000 in
theorem smt117_6 (k : Nat) : ∀ f, mt117_6 k = some f → mo_Sim 117 k f := mt_leaf (ms_pushi (e := (.iconst (-1), 12, 0, 0, 0)) rfl (fun _ _ _ => rfl) (by decide) : mo_Sim 117 11 (ma_push (ma_ci (.negSucc 0)) 12)) (mt_leaf (ms_ret (e := (.ireturn, 13, 0, 0, 0)) rfl (Or.inl ⟨rfl, rfl, (fun _ _ _ => rfl)⟩) : mo_Sim 117 12 (ma_ret 0)) (mt_none))
set_option maxRecDepth 100000 in
theorem smt117_7 (k : Nat) : ∀ f, mt117_7 k = some f → mo_Sim 117 k f := mt_leaf (ms_ald (e := (.aload_n 0, 14, 0, 0, 0)) rfl (fun _ _ _ => rfl) : mo_Sim 117 13 (ma_lda 0 14)) (mt_leaf (ms_getf (e := (.getfield 51, 17, 11, 6, 466)) rfl (fun _ _ _ => rfl) : mo_Sim 117 14 (ma_getf 11 6 17)) (mt_leaf (ms_ald (e := (.aload_n 0, 18, 0, 0, 0)) rfl (fun _ _ _ => rfl) : mo_Sim 117 17 (ma_lda 0 18)) (mt_none)))
set_option maxRecDepth 100000 in
theorem smt117_5 (k : Nat) : ∀ f, mt117_5 k = some f → mo_Sim 117 k f := mt_node (smt117_6 k) (smt117_7 k)
set_option maxRecDepth 100000 in
theorem smt117_1 (k : Nat) : ∀ f, mt117_1 k = some f → mo_Sim 117 k f := mt_node (smt117_2 k) (smt117_5 k)
set_option maxRecDepth 100000 in
theorem smt117_10 (k : Nat) : ∀ f, mt117_10 k = some f → mo_Sim 117 k f := mt_leaf (ms_getf (e := (.getfield 31, 21, 11, 3, 463)) rfl (fun _ _ _ => rfl) : mo_Sim 117 18 (ma_getf 11 3 21)) (mt_leaf (ms_ald (e := (.aload_n 0, 22, 0, 0, 0)) rfl (fun _ _ _ => rfl) : mo_Sim 117 21 (ma_lda 0 22)) (mt_none))
set_option maxRecDepth 100000 in
theorem smt117_11 (k : Nat) : ∀ f, mt117_11 k = some f → mo_Sim 117 k f := mt_leaf (ms_getf (e := (.getfield 10, 25, 11, 0, 460)) rfl (fun _ _ _ => rfl) : mo_Sim 117 22 (ma_getf 11 0 25)) (mt_leaf (ms_invV (p := 2) (e := (.invokevirtual 260, 28, 78, 0, 960)) rfl rfl (fun _ _ _ => rfl) rfl rfl rfl (by decide) : mo_Sim 117 25 (ma_inv 78 3 6 9 28)) (mt_leaf (ms_ald (e := (.aload_n 0, 29, 0, 0, 0)) rfl (fun _ _ _ => rfl) : mo_Sim 117 28 (ma_lda 0 29)) (mt_none)))
set_option maxRecDepth 100000 in
theorem smt117_9 (k : Nat) : ∀ f, mt117_9 k = some f → mo_Sim 117 k f := mt_node (smt117_10 k) (smt117_11 k)
set_option maxRecDepth 100000 in
theorem smt117_13 (k : Nat) : ∀ f, mt117_13 k = some f → mo_Sim 117 k f := mt_leaf (ms_getf (e := (.getfield 51, 32, 11, 6, 466)) rfl (fun _ _ _ => rfl) : mo_Sim 117 29 (ma_getf 11 6 32)) (mt_leaf (ms_getf (e := (.getfield 264, 35, 9, 6, 260)) rfl (fun _ _ _ => rfl) : mo_Sim 117 32 (ma_getf 9 6 35)) (mt_none))
set_option maxRecDepth 100000 in
theorem smt117_14 (k : Nat) : ∀ f, mt117_14 k = some f → mo_Sim 117 k f := mt_leaf (ms_ild (e := (.iload_n 1, 36, 0, 0, 0)) rfl (fun _ _ _ => rfl) : mo_Sim 117 35 (ma_load 0 1 36)) (mt_leaf (ms_iald (e := (.iaload, 37, 0, 0, 0)) rfl (fun _ _ _ => rfl) : mo_Sim 117 36 (ma_iald 36 37)) (mt_leaf (ms_ret (e := (.ireturn, 38, 0, 0, 0)) rfl (Or.inl ⟨rfl, rfl, (fun _ _ _ => rfl)⟩) : mo_Sim 117 37 (ma_ret 0)) (mt_none)))
set_option maxRecDepth 100000 in
theorem smt117_12 (k : Nat) : ∀ f, mt117_12 k = some f → mo_Sim 117 k f := mt_node (smt117_13 k) (smt117_14 k)
set_option maxRecDepth 100000 in
theorem smt117_8 (k : Nat) : ∀ f, mt117_8 k = some f → mo_Sim 117 k f := mt_node (smt117_9 k) (smt117_12 k)
set_option maxRecDepth 100000 in
theorem smt117_0 (k : Nat) : ∀ f, mt117_0 k = some f → mo_Sim 117 k f := mt_node (smt117_1 k) (smt117_8 k)
set_option maxRecDepth 100000 in
theorem smt118_1 (k : Nat) : ∀ f, mt118_1 k = some f → mo_Sim 118 k f := mt_leaf (ms_ald (e := (.aload_n 0, 1, 0, 0, 0)) rfl (fun _ _ _ => rfl) : mo_Sim 118 0 (ma_lda 0 1)) (mt_leaf (ms_invV (p := 0) (e := (.invokevirtual 267, 4, 134, 0, 986)) rfl rfl (fun _ _ _ => rfl) rfl rfl rfl (by decide) : mo_Sim 118 1 (ma_inv 134 1 2 11 4)) (mt_leaf (ms_ald (e := (.aload_n 0, 5, 0, 0, 0)) rfl (fun _ _ _ => rfl) : mo_Sim 118 4 (ma_lda 0 5)) (mt_none)))
set_option maxRecDepth 100000 in
theorem smt118_2 (k : Nat) : ∀ f, mt118_2 k = some f → mo_Sim 118 k f := mt_leaf (ms_getf (e := (.getfield 78, 8, 11, 10, 470)) rfl (fun _ _ _ => rfl) : mo_Sim 118 5 (ma_getf 11 10 8)) (mt_leaf (ms_getf (e := (.getfield 223, 11, 3, 1, 347)) rfl (fun _ _ _ => rfl) : mo_Sim 118 8 (ma_getf 3 1 11)) (mt_leaf (ms_ret (e := (.ireturn, 12, 0, 0, 0)) rfl (Or.inl ⟨rfl, rfl, (fun _ _ _ => rfl)⟩) : mo_Sim 118 11 (ma_ret 0)) (mt_none)))
set_option maxRecDepth 100000 in
theorem smt118_0 (k : Nat) : ∀ f, mt118_0 k = some f → mo_Sim 118 k f := mt_node (smt118_1 k) (smt118_2 k)
set_option maxRecDepth 100000 in
theorem smt119_1 (k : Nat) : ∀ f, mt119_1 k = some f → mo_Sim 119 k f := mt_leaf (ms_ald (e := (.aload_n 0, 1, 0, 0, 0)) rfl (fun _ _ _ => rfl) : mo_Sim 119 0 (ma_lda 0 1)) (mt_leaf (ms_invV (p := 0) (e := (.invokevirtual 267, 4, 134, 0, 986)) rfl rfl (fun _ _ _ => rfl) rfl rfl rfl (by decide) : mo_Sim 119 1 (ma_inv 134 1 2 11 4)) (mt_leaf (ms_ald (e := (.aload_n 0, 5, 0, 0, 0)) rfl (fun _ _ _ => rfl) : mo_Sim 119 4 (ma_lda 0 5)) (mt_none)))
set_option maxRecDepth 100000 in
theorem smt119_2 (k : Nat) : ∀ f, mt119_2 k = some f → mo_Sim 119 k f := mt_leaf (ms_getf (e := (.getfield 78, 8, 11, 10, 470)) rfl (fun _ _ _ => rfl) : mo_Sim 119 5 (ma_getf 11 10 8)) (mt_leaf (ms_ild (e := (.iload_n 1, 9, 0, 0, 0)) rfl (fun _ _ _ => rfl) : mo_Sim 119 8 (ma_load 0 1 9)) (mt_leaf (ms_invV (p := 1) (e := (.invokevirtual 224, 12, 33, 0, 867)) rfl rfl (fun _ _ _ => rfl) rfl rfl rfl (by decide) : mo_Sim 119 9 (ma_inv 33 2 5 3 12)) (mt_leaf (ms_ret (e := (.ireturn, 13, 0, 0, 0)) rfl (Or.inl ⟨rfl, rfl, (fun _ _ _ => rfl)⟩) : mo_Sim 119 12 (ma_ret 0)) (mt_none))))
set_option maxRecDepth 100000 in
theorem smt119_0 (k : Nat) : ∀ f, mt119_0 k = some f → mo_Sim 119 k f := mt_node (smt119_1 k) (smt119_2 k)
set_option maxRecDepth 100000 in
theorem smt120_4 (k : Nat) : ∀ f, mt120_4 k = some f → mo_Sim 120 k f := mt_leaf (ms_ild (e := (.iload_n 1, 1, 0, 0, 0)) rfl (fun _ _ _ => rfl) : mo_Sim 120 0 (ma_load 0 1 1)) (mt_leaf (ms_if0 (e := (.ifCond .ne 17, 4, 18, 0, 0)) rfl (fun _ _ _ => rfl) : mo_Sim 120 1 (ma_if0 .ne 18 1 4)) (mt_leaf (ms_ald (e := (.aload_n 0, 5, 0, 0, 0)) rfl (fun _ _ _ => rfl) : mo_Sim 120 4 (ma_lda 0 5)) (mt_none)))
set_option maxRecDepth 100000 in
theorem smt120_5 (k : Nat) : ∀ f, mt120_5 k = some f → mo_Sim 120 k f := mt_leaf (ms_getf (e := (.getfield 65, 8, 11, 8, 468)) rfl (fun _ _ _ => rfl) : mo_Sim 120 5 (ma_getf 11 8 8)) (mt_leaf (ms_ald (e := (.aload_n 0, 9, 0, 0, 0)) rfl (fun _ _ _ => rfl) : mo_Sim 120 8 (ma_lda 0 9)) (mt_leaf (ms_getf (e := (.getfield 10, 12, 11, 0, 460)) rfl (fun _ _ _ => rfl) : mo_Sim 120 9 (ma_getf 11 0 12)) (mt_leaf (ms_invV (p := 1) (e := (.invokevirtual 270, 15, 21, 0, 999)) rfl rfl (fun _ _ _ => rfl) rfl rfl rfl (by decide) : mo_Sim 120 12 (ma_inv 21 2 4 2 15)) (mt_none))))
set_option maxRecDepth 100000 in
theorem smt120_3 (k : Nat) : ∀ f, mt120_3 k = some f → mo_Sim 120 k f := mt_node (smt120_4 k) (smt120_5 k)
set_option maxRecDepth 100000 in
theorem smt120_7 (k : Nat) : ∀ f, mt120_7 k = some f → mo_Sim 120 k f := mt_leaf (ms_goto (e := (.goto 45, 18, 60, 0, 0)) rfl (fun _ _ _ => rfl) : mo_Sim 120 15 (ma_goto 60)) (mt_leaf (ms_ild (e := (.iload_n 1, 19, 0, 0, 0)) rfl (fun _ _ _ => rfl) : mo_Sim 120 18 (ma_load 0 1 19)) (mt_leaf (ms_pushi (e := (.iconst 1, 20, 0, 0, 0)) rfl (fun _ _ _ => rfl) (by decide) : mo_Sim 120 19 (ma_push (ma_ci (.ofNat 1)) 20)) (mt_leaf (ms_if2 (e := (.if_icmp .ne 17, 23, 37, 0, 0)) rfl (fun _ _ _ => rfl) : mo_Sim 120 20 (ma_if2 .ne 37 20 23)) (mt_none))))
set_option maxRecDepth 100000 in
theorem smt120_8 (k : Nat) : ∀ f, mt120_8 k = some f → mo_Sim 120 k f := mt_leaf (ms_ald (e := (.aload_n 0, 24, 0, 0, 0)) rfl (fun _ _ _ => rfl) : mo_Sim 120 23 (ma_lda 0 24)) (mt_leaf (ms_getf (e := (.getfield 65, 27, 11, 8, 468)) rfl (fun _ _ _ => rfl) : mo_Sim 120 24 (ma_getf 11 8 27)) (mt_leaf (ms_ald (e := (.aload_n 0, 28, 0, 0, 0)) rfl (fun _ _ _ => rfl) : mo_Sim 120 27 (ma_lda 0 28)) (mt_leaf (ms_getf (e := (.getfield 10, 31, 11, 0, 460)) rfl (fun _ _ _ => rfl) : mo_Sim 120 28 (ma_getf 11 0 31)) (mt_none))))
set_option maxRecDepth 100000 in
theorem smt120_6 (k : Nat) : ∀ f, mt120_6 k = some f → mo_Sim 120 k f := mt_node (smt120_7 k) (smt120_8 k)
set_option maxRecDepth 100000 in
theorem smt120_2 (k : Nat) : ∀ f, mt120_2 k = some f → mo_Sim 120 k f := mt_node (smt120_3 k) (smt120_6 k)
set_option maxRecDepth 100000 in
theorem smt120_11 (k : Nat) : ∀ f, mt120_11 k = some f → mo_Sim 120 k f := mt_leaf (ms_invV (p := 1) (e := (.invokevirtual 274, 34, 22, 0, 1003)) rfl rfl (fun _ _ _ => rfl) rfl rfl rfl (by decide) : mo_Sim 120 31 (ma_inv 22 2 6 2 34)) (mt_leaf (ms_goto (e := (.goto 26, 37, 60, 0, 0)) rfl (fun _ _ _ => rfl) : mo_Sim 120 34 (ma_goto 60)) (mt_leaf (ms_ild (e := (.iload_n 1, 38, 0, 0, 0)) rfl (fun _ _ _ => rfl) : mo_Sim 120 37 (ma_load 0 1 38)) (mt_leaf (ms_pushi (e := (.iconst 2, 39, 0, 0, 0)) rfl (fun _ _ _ => rfl) (by decide) : mo_Sim 120 38 (ma_push (ma_ci (.ofNat 2)) 39)) (mt_none))))
set_option maxRecDepth 100000 in
theorem smt120_12 (k : Nat) : ∀ f, mt120_12 k = some f → mo_Sim 120 k f := mt_leaf (ms_if2 (e := (.if_icmp .ne 17, 42, 56, 0, 0)) rfl (fun _ _ _ => rfl) : mo_Sim 120 39 (ma_if2 .ne 56 39 42)) (mt_leaf (ms_ald (e := (.aload_n 0, 43, 0, 0, 0)) rfl (fun _ _ _ => rfl) : mo_Sim 120 42 (ma_lda 0 43)) (mt_leaf (ms_getf (e := (.getfield 65, 46, 11, 8, 468)) rfl (fun _ _ _ => rfl) : mo_Sim 120 43 (ma_getf 11 8 46)) (mt_leaf (ms_ald (e := (.aload_n 0, 47, 0, 0, 0)) rfl (fun _ _ _ => rfl) : mo_Sim 120 46 (ma_lda 0 47)) (mt_none))))
set_option maxRecDepth 100000 in
theorem smt120_10 (k : Nat) : ∀ f, mt120_10 k = some f → mo_Sim 120 k f := mt_node (smt120_11 k) (smt120_12 k)
set_option maxRecDepth 100000 in
theorem smt120_14 (k : Nat) : ∀ f, mt120_14 k = some f → mo_Sim 120 k f := mt_leaf (ms_getf (e := (.getfield 10, 50, 11, 0, 460)) rfl (fun _ _ _ => rfl) : mo_Sim 120 47 (ma_getf 11 0 50)) (mt_leaf (ms_invV (p := 1) (e := (.invokevirtual 277, 53, 23, 0, 1007)) rfl rfl (fun _ _ _ => rfl) rfl rfl rfl (by decide) : mo_Sim 120 50 (ma_inv 23 2 4 2 53)) (mt_leaf (ms_goto (e := (.goto 7, 56, 60, 0, 0)) rfl (fun _ _ _ => rfl) : mo_Sim 120 53 (ma_goto 60)) (mt_leaf (ms_pushl (e := (.ldc2_w 174, 59, 18446744073709551615, 0, 621)) rfl (fun _ _ _ => rfl) (by decide) : mo_Sim 120 56 (ma_push (ma_cl (.negSucc 0)) 59)) (mt_none))))
set_option maxRecDepth 100000 in
theorem smt120_15 (k : Nat) : ∀ f, mt120_15 k = some f → mo_Sim 120 k f := mt_leaf (ms_ret (e := (.lreturn, 60, 0, 0, 0)) rfl (Or.inr (Or.inr (Or.inr ⟨rfl, rfl, (fun _ _ _ => rfl)⟩))) : mo_Sim 120 59 (ma_ret 3)) (mt_leaf (ms_ald (e := (.aload_n 0, 61, 0, 0, 0)) rfl (fun _ _ _ => rfl) : mo_Sim 120 60 (ma_lda 0 61)) (mt_leaf (ms_getf (e := (.getfield 58, 64, 11, 7, 467)) rfl (fun _ _ _ => rfl) : mo_Sim 120 61 (ma_getf 11 7 64)) (mt_leaf (ms_ald (e := (.aload_n 0, 65, 0, 0, 0)) rfl (fun _ _ _ => rfl) : mo_Sim 120 64 (ma_lda 0 65)) (mt_none))))
set_option maxRecDepth 100000 in
theorem smt120_13 (k : Nat) : ∀ f, mt120_13 k = some f → mo_Sim 120 k f := mt_node (smt120_14 k) (smt120_15 k)
set_option maxRecDepth 100000 in
theorem smt120_9 (k : Nat) : ∀ f, mt120_9 k = some f → mo_Sim 120 k f := mt_node (smt120_10 k) (smt120_13 k)
set_option maxRecDepth 100000 in
theorem smt120_1 (k : Nat) : ∀ f, mt120_1 k = some f → mo_Sim 120 k f := mt_node (smt120_2 k) (smt120_9 k)
set_option maxRecDepth 100000 in
theorem smt120_19 (k : Nat) : ∀ f, mt120_19 k = some f → mo_Sim 120 k f := mt_leaf (ms_getf (e := (.getfield 10, 68, 11, 0, 460)) rfl (fun _ _ _ => rfl) : mo_Sim 120 65 (ma_getf 11 0 68)) (mt_leaf (ms_getf (e := (.getfield 135, 71, 1, 0, 112)) rfl (fun _ _ _ => rfl) : mo_Sim 120 68 (ma_getf 1 0 71)) (mt_leaf (ms_ald (e := (.aload_n 0, 72, 0, 0, 0)) rfl (fun _ _ _ => rfl) : mo_Sim 120 71 (ma_lda 0 72)) (mt_none)))
set_option maxRecDepth 100000 in
theorem smt120_20 (k : Nat) : ∀ f, mt120_20 k = some f → mo_Sim 120 k f := mt_leaf (ms_getf (e := (.getfield 65, 75, 11, 8, 468)) rfl (fun _ _ _ => rfl) : mo_Sim 120 72 (ma_getf 11 8 75)) (mt_leaf (ms_getf (e := (.getfield 280, 78, 2, 2, 319)) rfl (fun _ _ _ => rfl) : mo_Sim 120 75 (ma_getf 2 2 78)) (mt_leaf (ms_invV (p := 2) (e := (.invokevirtual 283, 81, 64, 0, 810)) rfl rfl (fun _ _ _ => rfl) rfl rfl rfl (by decide) : mo_Sim 120 78 (ma_inv 64 3 3 8 81)) (mt_leaf (ms_ald (e := (.aload_n 0, 82, 0, 0, 0)) rfl (fun _ _ _ => rfl) : mo_Sim 120 81 (ma_lda 0 82)) (mt_none))))
set_option maxRecDepth 100000 in
theorem smt120_18 (k : Nat) : ∀ f, mt120_18 k = some f → mo_Sim 120 k f := mt_node (smt120_19 k) (smt120_20 k)
set_option maxRecDepth 100000 in
theorem smt120_22 (k : Nat) : ∀ f, mt120_22 k = some f → mo_Sim 120 k f := mt_leaf (ms_ald (e := (.aload_n 0, 83, 0, 0, 0)) rfl (fun _ _ _ => rfl) : mo_Sim 120 82 (ma_lda 0 83)) (mt_leaf (ms_getf (e := (.getfield 51, 86, 11, 6, 466)) rfl (fun _ _ _ => rfl) : mo_Sim 120 83 (ma_getf 11 6 86)) (mt_leaf (ms_invV (p := 0) (e := (.invokevirtual 285, 89, 77, 0, 1014)) rfl rfl (fun _ _ _ => rfl) rfl rfl rfl (by decide) : mo_Sim 120 86 (ma_inv 77 1 3 9 89)) (mt_leaf (ms_invV (p := 1) (e := (.invokevirtual 288, 92, 133, 0, 816)) rfl rfl (fun _ _ _ => rfl) rfl rfl rfl (by decide) : mo_Sim 120 89 (ma_inv 133 2 3 11 92)) (mt_none))))
set_option maxRecDepth 100000 in
theorem smt120_23 (k : Nat) : ∀ f, mt120_23 k = some f → mo_Sim 120 k f := mt_leaf (ms_ald (e := (.aload_n 0, 93, 0, 0, 0)) rfl (fun _ _ _ => rfl) : mo_Sim 120 92 (ma_lda 0 93)) (mt_leaf (ms_getf (e := (.getfield 58, 96, 11, 7, 467)) rfl (fun _ _ _ => rfl) : mo_Sim 120 93 (ma_getf 11 7 96)) (mt_leaf (ms_invV (p := 0) (e := (.invokevirtual 291, 99, 67, 0, 837)) rfl rfl (fun _ _ _ => rfl) rfl rfl rfl (by decide) : mo_Sim 120 96 (ma_inv 67 1 8 8 99)) (mt_leaf (ms_ald (e := (.aload_n 0, 100, 0, 0, 0)) rfl (fun _ _ _ => rfl) : mo_Sim 120 99 (ma_lda 0 100)) (mt_none))))
set_option maxRecDepth 100000 in
theorem smt120_21 (k : Nat) : ∀ f, mt120_21 k = some f → mo_Sim 120 k f := mt_node (smt120_22 k) (smt120_23 k)
set_option maxRecDepth 100000 in
theorem smt120_17 (k : Nat) : ∀ f, mt120_17 k = some f → mo_Sim 120 k f := mt_node (smt120_18 k) (smt120_21 k)
set_option maxRecDepth 100000 in
theorem smt120_26 (k : Nat) : ∀ f, mt120_26 k = some f → mo_Sim 120 k f := mt_leaf (ms_getf (e := (.getfield 58, 103, 11, 7, 467)) rfl (fun _ _ _ => rfl) : mo_Sim 120 100 (ma_getf 11 7 103)) (mt_leaf (ms_ald (e := (.aload_n 0, 104, 0, 0, 0)) rfl (fun _ _ _ => rfl) : mo_Sim 120 103 (ma_lda 0 104)) (mt_leaf (ms_getf (e := (.getfield 65, 107, 11, 8, 468)) rfl (fun _ _ _ => rfl) : mo_Sim 120 104 (ma_getf 11 8 107)) (mt_leaf (ms_invV (p := 1) (e := (.invokevirtual 294, 110, 69, 0, 1018)) rfl rfl (fun _ _ _ => rfl) rfl rfl rfl (by decide) : mo_Sim 120 107 (ma_inv 69 2 3 8 110)) (mt_none))))
set_option maxRecDepth 100000 in
theorem smt120_27 (k : Nat) : ∀ f, mt120_27 k = some f → mo_Sim 120 k f := mt_leaf (ms_if0 (e := (.ifCond .eq 24, 113, 134, 0, 0)) rfl (fun _ _ _ => rfl) : mo_Sim 120 110 (ma_if0 .eq 134 110 113)) (mt_leaf (ms_ald (e := (.aload_n 0, 114, 0, 0, 0)) rfl (fun _ _ _ => rfl) : mo_Sim 120 113 (ma_lda 0 114)) (mt_leaf (ms_getf (e := (.getfield 65, 117, 11, 8, 468)) rfl (fun _ _ _ => rfl) : mo_Sim 120 114 (ma_getf 11 8 117)) (mt_leaf (ms_ald (e := (.aload_n 0, 118, 0, 0, 0)) rfl (fun _ _ _ => rfl) : mo_Sim 120 117 (ma_lda 0 118)) (mt_none))))
set_option maxRecDepth 100000 in
theorem smt120_25 (k : Nat) : ∀ f, mt120_25 k = some f → mo_Sim 120 k f := mt_node (smt120_26 k) (smt120_27 k)
set_option maxRecDepth 100000 in
theorem smt120_29 (k : Nat) : ∀ f, mt120_29 k = some f → mo_Sim 120 k f := mt_leaf (ms_getf (e := (.getfield 58, 121, 11, 7, 467)) rfl (fun _ _ _ => rfl) : mo_Sim 120 118 (ma_getf 11 7 121)) (mt_leaf (ms_getf (e := (.getfield 298, 124, 8, 0, 283)) rfl (fun _ _ _ => rfl) : mo_Sim 120 121 (ma_getf 8 0 124)) (mt_leaf (ms_ald (e := (.aload_n 0, 125, 0, 0, 0)) rfl (fun _ _ _ => rfl) : mo_Sim 120 124 (ma_lda 0 125)) (mt_leaf (ms_getf (e := (.getfield 10, 128, 11, 0, 460)) rfl (fun _ _ _ => rfl) : mo_Sim 120 125 (ma_getf 11 0 128)) (mt_none))))
set_option maxRecDepth 100000 in
theorem smt120_30 (k : Nat) : ∀ f, mt120_30 k = some f → mo_Sim 120 k f := mt_leaf (ms_invV (p := 2) (e := (.invokevirtual 301, 131, 26, 0, 1033)) rfl rfl (fun _ _ _ => rfl) rfl rfl rfl (by decide) : mo_Sim 120 128 (ma_inv 26 3 6 2 131)) (mt_leaf (ms_goto (e := (.goto 6, 134, 137, 0, 0)) rfl (fun _ _ _ => rfl) : mo_Sim 120 131 (ma_goto 137)) (mt_leaf (ms_pushl (e := (.ldc2_w 305, 137, 18446744073709551609, 0, 1037)) rfl (fun _ _ _ => rfl) (by decide) : mo_Sim 120 134 (ma_push (ma_cl (.negSucc 6)) 137)) (mt_leaf (ms_ret (e := (.lreturn, 138, 0, 0, 0)) rfl (Or.inr (Or.inr (Or.inr ⟨rfl, rfl, (fun _ _ _ => rfl)⟩))) : mo_Sim 120 137 (ma_ret 3)) (mt_none))))
set_option maxRecDepth 100000 in
theorem smt120_28 (k : Nat) : ∀ f, mt120_28 k = some f → mo_Sim 120 k f := mt_node (smt120_29 k) (smt120_30 k)
set_option maxRecDepth 100000 in
theorem smt120_24 (k : Nat) : ∀ f, mt120_24 k = some f → mo_Sim 120 k f := mt_node (smt120_25 k) (smt120_28 k)
set_option maxRecDepth 100000 in
theorem smt120_16 (k : Nat) : ∀ f, mt120_16 k = some f → mo_Sim 120 k f := mt_node (smt120_17 k) (smt120_24 k)
set_option maxRecDepth 100000 in
theorem smt120_0 (k : Nat) : ∀ f, mt120_0 k = some f → mo_Sim 120 k f := mt_node (smt120_1 k) (smt120_16 k)
set_option maxRecDepth 100000 in
theorem smt121_3 (k : Nat) : ∀ f, mt121_3 k = some f → mo_Sim 121 k f := mt_leaf (ms_ild (e := (.iload_n 1, 1, 0, 0, 0)) rfl (fun _ _ _ => rfl) : mo_Sim 121 0 (ma_load 0 1 1)) (mt_leaf (ms_isw (nx := 40) (e := (.tableswitch 81 0 5 #[39, 47, 52, 57, 65, 73], 40, 0, 0, 0)) rfl (fun _ _ _ => rfl) (by decide) (by decide) (by decide) : mo_Sim 121 1 (ma_sw [40, 48, 53, 58, 66, 74] 82 1)) (mt_leaf (ms_ald (e := (.aload_n 0, 41, 0, 0, 0)) rfl (fun _ _ _ => rfl) : mo_Sim 121 40 (ma_lda 0 41)) (mt_none)))
set_option maxRecDepth 100000 in
theorem smt121_4 (k : Nat) : ∀ f, mt121_4 k = some f → mo_Sim 121 k f := mt_leaf (ms_getf (e := (.getfield 10, 44, 11, 0, 460)) rfl (fun _ _ _ => rfl) : mo_Sim 121 41 (ma_getf 11 0 44)) (mt_leaf (ms_getf (e := (.getfield 135, 47, 1, 0, 112)) rfl (fun _ _ _ => rfl) : mo_Sim 121 44 (ma_getf 1 0 47)) (mt_leaf (ms_ret (e := (.ireturn, 48, 0, 0, 0)) rfl (Or.inl ⟨rfl, rfl, (fun _ _ _ => rfl)⟩) : mo_Sim 121 47 (ma_ret 0)) (mt_none)))
set_option maxRecDepth 100000 in
theorem smt121_2 (k : Nat) : ∀ f, mt121_2 k = some f → mo_Sim 121 k f := mt_node (smt121_3 k) (smt121_4 k)
set_option maxRecDepth 100000 in
theorem smt121_6 (k : Nat) : ∀ f, mt121_6 k = some f → mo_Sim 121 k f := mt_leaf (ms_ald (e := (.aload_n 0, 49, 0, 0, 0)) rfl (fun _ _ _ => rfl) : mo_Sim 121 48 (ma_lda 0 49)) (mt_leaf (ms_getf (e := (.getfield 123, 52, 11, 14, 474)) rfl (fun _ _ _ => rfl) : mo_Sim 121 49 (ma_getf 11 14 52)) (mt_leaf (ms_ret (e := (.ireturn, 53, 0, 0, 0)) rfl (Or.inl ⟨rfl, rfl, (fun _ _ _ => rfl)⟩) : mo_Sim 121 52 (ma_ret 0)) (mt_none)))
set_option maxRecDepth 100000 in
theorem smt121_7 (k : Nat) : ∀ f, mt121_7 k = some f → mo_Sim 121 k f := mt_leaf (ms_ald (e := (.aload_n 0, 54, 0, 0, 0)) rfl (fun _ _ _ => rfl) : mo_Sim 121 53 (ma_lda 0 54)) (mt_leaf (ms_getf (e := (.getfield 149, 57, 11, 15, 475)) rfl (fun _ _ _ => rfl) : mo_Sim 121 54 (ma_getf 11 15 57)) (mt_leaf (ms_ret (e := (.ireturn, 58, 0, 0, 0)) rfl (Or.inl ⟨rfl, rfl, (fun _ _ _ => rfl)⟩) : mo_Sim 121 57 (ma_ret 0)) (mt_leaf (ms_ald (e := (.aload_n 0, 59, 0, 0, 0)) rfl (fun _ _ _ => rfl) : mo_Sim 121 58 (ma_lda 0 59)) (mt_none))))
set_option maxRecDepth 100000 in
theorem smt121_5 (k : Nat) : ∀ f, mt121_5 k = some f → mo_Sim 121 k f := mt_node (smt121_6 k) (smt121_7 k)
set_option maxRecDepth 100000 in
theorem smt121_1 (k : Nat) : ∀ f, mt121_1 k = some f → mo_Sim 121 k f := mt_node (smt121_2 k) (smt121_5 k)
set_option maxRecDepth 100000 in
theorem smt121_10 (k : Nat) : ∀ f, mt121_10 k = some f → mo_Sim 121 k f := mt_leaf (ms_getf (e := (.getfield 51, 62, 11, 6, 466)) rfl (fun _ _ _ => rfl) : mo_Sim 121 59 (ma_getf 11 6 62)) (mt_leaf (ms_getf (e := (.getfield 307, 65, 9, 0, 248)) rfl (fun _ _ _ => rfl) : mo_Sim 121 62 (ma_getf 9 0 65)) (mt_leaf (ms_ret (e := (.ireturn, 66, 0, 0, 0)) rfl (Or.inl ⟨rfl, rfl, (fun _ _ _ => rfl)⟩) : mo_Sim 121 65 (ma_ret 0)) (mt_none)))
set_option maxRecDepth 100000 in
theorem smt121_11 (k : Nat) : ∀ f, mt121_11 k = some f → mo_Sim 121 k f := mt_leaf (ms_ald (e := (.aload_n 0, 67, 0, 0, 0)) rfl (fun _ _ _ => rfl) : mo_Sim 121 66 (ma_lda 0 67)) (mt_leaf (ms_getf (e := (.getfield 51, 70, 11, 6, 466)) rfl (fun _ _ _ => rfl) : mo_Sim 121 67 (ma_getf 11 6 70)) (mt_leaf (ms_getf (e := (.getfield 255, 73, 9, 1, 250)) rfl (fun _ _ _ => rfl) : mo_Sim 121 70 (ma_getf 9 1 73)) (mt_none)))
set_option maxRecDepth 100000 in
theorem smt121_9 (k : Nat) : ∀ f, mt121_9 k = some f → mo_Sim 121 k f := mt_node (smt121_10 k) (smt121_11 k)
set_option maxRecDepth 100000 in
theorem smt121_13 (k : Nat) : ∀ f, mt121_13 k = some f → mo_Sim 121 k f := mt_leaf (ms_ret (e := (.ireturn, 74, 0, 0, 0)) rfl (Or.inl ⟨rfl, rfl, (fun _ _ _ => rfl)⟩) : mo_Sim 121 73 (ma_ret 0)) (mt_leaf (ms_ald (e := (.aload_n 0, 75, 0, 0, 0)) rfl (fun _ _ _ => rfl) : mo_Sim 121 74 (ma_lda 0 75)) (mt_leaf (ms_getf (e := (.getfield 19, 78, 11, 1, 461)) rfl (fun _ _ _ => rfl) : mo_Sim 121 75 (ma_getf 11 1 78)) (mt_none)))
set_option maxRecDepth 100000 in
theorem smt121_14 (k : Nat) : ∀ f, mt121_14 k = some f → mo_Sim 121 k f := mt_leaf (ms_invV (p := 0) (e := (.invokevirtual 310, 81, 90, 0, 1042)) rfl rfl (fun _ _ _ => rfl) rfl rfl rfl (by decide) : mo_Sim 121 78 (ma_inv 90 1 3 10 81)) (mt_leaf (ms_ret (e := (.ireturn, 82, 0, 0, 0)) rfl (Or.inl ⟨rfl, rfl, (fun _ _ _ => rfl)⟩) : mo_Sim 121 81 (ma_ret 0)) (mt_leaf (ms_pushi (e := (.iconst (-1), 83, 0, 0, 0)) rfl (fun _ _ _ => rfl) (by decide) : mo_Sim 121 82 (ma_push (ma_ci (.negSucc 0)) 83)) (mt_leaf (ms_ret (e := (.ireturn, 84, 0, 0, 0)) rfl (Or.inl ⟨rfl, rfl, (fun _ _ _ => rfl)⟩) : mo_Sim 121 83 (ma_ret 0)) (mt_none))))
set_option maxRecDepth 100000 in
theorem smt121_12 (k : Nat) : ∀ f, mt121_12 k = some f → mo_Sim 121 k f := mt_node (smt121_13 k) (smt121_14 k)
set_option maxRecDepth 100000 in
theorem smt121_8 (k : Nat) : ∀ f, mt121_8 k = some f → mo_Sim 121 k f := mt_node (smt121_9 k) (smt121_12 k)
set_option maxRecDepth 100000 in
theorem smt121_0 (k : Nat) : ∀ f, mt121_0 k = some f → mo_Sim 121 k f := mt_node (smt121_1 k) (smt121_8 k)
set_option maxRecDepth 100000 in
theorem smt122_3 (k : Nat) : ∀ f, mt122_3 k = some f → mo_Sim 122 k f := mt_leaf (ms_ald (e := (.aload_n 0, 1, 0, 0, 0)) rfl (fun _ _ _ => rfl) : mo_Sim 122 0 (ma_lda 0 1)) (mt_leaf (ms_getf (e := (.getfield 10, 4, 11, 0, 460)) rfl (fun _ _ _ => rfl) : mo_Sim 122 1 (ma_getf 11 0 4)) (mt_leaf (ms_ild (e := (.iload_n 1, 5, 0, 0, 0)) rfl (fun _ _ _ => rfl) : mo_Sim 122 4 (ma_load 0 1 5)) (mt_none)))
set_option maxRecDepth 100000 in
theorem smt122_4 (k : Nat) : ∀ f, mt122_4 k = some f → mo_Sim 122 k f := mt_leaf (ms_invV (p := 1) (e := (.invokevirtual 313, 8, 11, 0, 443)) rfl rfl (fun _ _ _ => rfl) rfl rfl rfl (by decide) : mo_Sim 122 5 (ma_inv 11 2 6 1 8)) (mt_leaf (ms_ald (e := (.aload_n 0, 9, 0, 0, 0)) rfl (fun _ _ _ => rfl) : mo_Sim 122 8 (ma_lda 0 9)) (mt_leaf (ms_getf (e := (.getfield 89, 12, 11, 12, 472)) rfl (fun _ _ _ => rfl) : mo_Sim 122 9 (ma_getf 11 12 12)) (mt_leaf (ms_ild (e := (.iload_n 1, 13, 0, 0, 0)) rfl (fun _ _ _ => rfl) : mo_Sim 122 12 (ma_load 0 1 13)) (mt_none))))
set_option maxRecDepth 100000 in
theorem smt122_2 (k : Nat) : ∀ f, mt122_2 k = some f → mo_Sim 122 k f := mt_node (smt122_3 k) (smt122_4 k)
set_option maxRecDepth 100000 in
theorem smt122_6 (k : Nat) : ∀ f, mt122_6 k = some f → mo_Sim 122 k f := mt_leaf (ms_ild (e := (.iload_n 1, 14, 0, 0, 0)) rfl (fun _ _ _ => rfl) : mo_Sim 122 13 (ma_load 0 1 14)) (mt_leaf (ms_i2 (e := (.imul, 15, 0, 0, 0)) rfl (fun _ _ _ => rfl) hf_mul : mo_Sim 122 14 (ma_i2 ma_fmul 14 15)) (mt_leaf (ms_ild (e := (.iload_n 1, 16, 0, 0, 0)) rfl (fun _ _ _ => rfl) : mo_Sim 122 15 (ma_load 0 1 16)) (mt_leaf (ms_pushi (e := (.iconst 1, 17, 0, 0, 0)) rfl (fun _ _ _ => rfl) (by decide) : mo_Sim 122 16 (ma_push (ma_ci (.ofNat 1)) 17)) (mt_none))))
set_option maxRecDepth 100000 in
theorem smt122_7 (k : Nat) : ∀ f, mt122_7 k = some f → mo_Sim 122 k f := mt_leaf (ms_invV (p := 3) (e := (.invokevirtual 315, 20, 44, 0, 447)) rfl rfl (fun _ _ _ => rfl) rfl rfl rfl (by decide) : mo_Sim 122 17 (ma_inv 44 4 4 5 20)) (mt_leaf (ms_ald (e := (.aload_n 0, 21, 0, 0, 0)) rfl (fun _ _ _ => rfl) : mo_Sim 122 20 (ma_lda 0 21)) (mt_leaf (ms_pushi (e := (.iconst 0, 22, 0, 0, 0)) rfl (fun _ _ _ => rfl) (by decide) : mo_Sim 122 21 (ma_push (ma_ci (.ofNat 0)) 22)) (mt_leaf (ms_putf (e := (.putfield 123, 25, 11, 14, 474)) rfl rfl (fun _ _ _ => rfl) (Or.inl ⟨rfl, rfl⟩) : mo_Sim 122 22 (ma_putf 11 14 0 25)) (mt_none))))
set_option maxRecDepth 100000 in
theorem smt122_5 (k : Nat) : ∀ f, mt122_5 k = some f → mo_Sim 122 k f := mt_node (smt122_6 k) (smt122_7 k)
set_option maxRecDepth 100000 in
theorem smt122_1 (k : Nat) : ∀ f, mt122_1 k = some f → mo_Sim 122 k f := mt_node (smt122_2 k) (smt122_5 k)
set_option maxRecDepth 100000 in
theorem smt122_10 (k : Nat) : ∀ f, mt122_10 k = some f → mo_Sim 122 k f := mt_leaf (ms_ald (e := (.aload_n 0, 26, 0, 0, 0)) rfl (fun _ _ _ => rfl) : mo_Sim 122 25 (ma_lda 0 26)) (mt_leaf (ms_pushi (e := (.iconst 0, 27, 0, 0, 0)) rfl (fun _ _ _ => rfl) (by decide) : mo_Sim 122 26 (ma_push (ma_ci (.ofNat 0)) 27)) (mt_leaf (ms_putf (e := (.putfield 149, 30, 11, 15, 475)) rfl rfl (fun _ _ _ => rfl) (Or.inl ⟨rfl, rfl⟩) : mo_Sim 122 27 (ma_putf 11 15 0 30)) (mt_leaf (ms_ald (e := (.aload_n 0, 31, 0, 0, 0)) rfl (fun _ _ _ => rfl) : mo_Sim 122 30 (ma_lda 0 31)) (mt_none))))
set_option maxRecDepth 100000 in
theorem smt122_11 (k : Nat) : ∀ f, mt122_11 k = some f → mo_Sim 122 k f := mt_leaf (ms_invV (p := 0) (e := (.invokevirtual 146, 34, 123, 0, 452)) rfl rfl (fun _ _ _ => rfl) rfl rfl rfl (by decide) : mo_Sim 122 31 (ma_inv 123 1 2 11 34)) (mt_leaf (ms_ald (e := (.aload_n 0, 35, 0, 0, 0)) rfl (fun _ _ _ => rfl) : mo_Sim 122 34 (ma_lda 0 35)) (mt_leaf (ms_pushi (e := (.iconst 0, 36, 0, 0, 0)) rfl (fun _ _ _ => rfl) (by decide) : mo_Sim 122 35 (ma_push (ma_ci (.ofNat 0)) 36)) (mt_leaf (ms_putf (e := (.putfield 318, 39, 11, 17, 477)) rfl rfl (fun _ _ _ => rfl) (Or.inl ⟨rfl, rfl⟩) : mo_Sim 122 36 (ma_putf 11 17 0 39)) (mt_none))))
set_option maxRecDepth 100000 in
theorem smt122_9 (k : Nat) : ∀ f, mt122_9 k = some f → mo_Sim 122 k f := mt_node (smt122_10 k) (smt122_11 k)
set_option maxRecDepth 100000 in
theorem smt122_13 (k : Nat) : ∀ f, mt122_13 k = some f → mo_Sim 122 k f := mt_leaf (ms_ald (e := (.aload_n 0, 40, 0, 0, 0)) rfl (fun _ _ _ => rfl) : mo_Sim 122 39 (ma_lda 0 40)) (mt_leaf (ms_getf (e := (.getfield 51, 43, 11, 6, 466)) rfl (fun _ _ _ => rfl) : mo_Sim 122 40 (ma_getf 11 6 43)) (mt_leaf (ms_pushi (e := (.iconst 1, 44, 0, 0, 0)) rfl (fun _ _ _ => rfl) (by decide) : mo_Sim 122 43 (ma_push (ma_ci (.ofNat 1)) 44)) (mt_leaf (ms_invV (p := 1) (e := (.invokevirtual 246, 47, 74, 0, 456)) rfl rfl (fun _ _ _ => rfl) rfl rfl rfl (by decide) : mo_Sim 122 44 (ma_inv 74 2 2 9 47)) (mt_none))))
set_option maxRecDepth 100000 in
theorem smt122_14 (k : Nat) : ∀ f, mt122_14 k = some f → mo_Sim 122 k f := mt_leaf (ms_ald (e := (.aload_n 0, 48, 0, 0, 0)) rfl (fun _ _ _ => rfl) : mo_Sim 122 47 (ma_lda 0 48)) (mt_leaf (ms_pushi (e := (.iconst 0, 49, 0, 0, 0)) rfl (fun _ _ _ => rfl) (by decide) : mo_Sim 122 48 (ma_push (ma_ci (.ofNat 0)) 49)) (mt_leaf (ms_putf (e := (.putfield 249, 52, 11, 18, 478)) rfl rfl (fun _ _ _ => rfl) (Or.inr (Or.inl ⟨rfl, rfl⟩)) : mo_Sim 122 49 (ma_putf 11 18 1 52)) (mt_leaf (ms_retv (e := (.return_, 53, 0, 0, 0)) rfl rfl (fun _ _ _ => rfl) : mo_Sim 122 52 (ma_retv)) (mt_none))))
set_option maxRecDepth 100000 in
theorem smt122_12 (k : Nat) : ∀ f, mt122_12 k = some f → mo_Sim 122 k f := mt_node (smt122_13 k) (smt122_14 k)
set_option maxRecDepth 100000 in
theorem smt122_8 (k : Nat) : ∀ f, mt122_8 k = some f → mo_Sim 122 k f := mt_node (smt122_9 k) (smt122_12 k)
set_option maxRecDepth 100000 in
theorem smt122_0 (k : Nat) : ∀ f, mt122_0 k = some f → mo_Sim 122 k f := mt_node (smt122_1 k) (smt122_8 k)
set_option maxRecDepth 100000 in
theorem smt123_2 (k : Nat) : ∀ f, mt123_2 k = some f → mo_Sim 123 k f := mt_leaf (ms_pushi (e := (.iconst 0, 1, 0, 0, 0)) rfl (fun _ _ _ => rfl) (by decide) : mo_Sim 123 0 (ma_push (ma_ci (.ofNat 0)) 1)) (mt_leaf (ms_ist (e := (.istore_n 1, 2, 0, 0, 0)) rfl (fun _ _ _ => rfl) : mo_Sim 123 1 (ma_stor 0 1 2)) (mt_leaf (ms_ild (e := (.iload_n 1, 3, 0, 0, 0)) rfl (fun _ _ _ => rfl) : mo_Sim 123 2 (ma_load 0 1 3)) (mt_none)))
set_option maxRecDepth 100000 in
theorem smt123_3 (k : Nat) : ∀ f, mt123_3 k = some f → mo_Sim 123 k f := mt_leaf (ms_pushi (e := (.iconst 3, 4, 0, 0, 0)) rfl (fun _ _ _ => rfl) (by decide) : mo_Sim 123 3 (ma_push (ma_ci (.ofNat 3)) 4)) (mt_leaf (ms_if2 (e := (.if_icmp .ge 19, 7, 23, 0, 0)) rfl (fun _ _ _ => rfl) : mo_Sim 123 4 (ma_if2 .ge 23 4 7)) (mt_leaf (ms_ald (e := (.aload_n 0, 8, 0, 0, 0)) rfl (fun _ _ _ => rfl) : mo_Sim 123 7 (ma_lda 0 8)) (mt_leaf (ms_getf (e := (.getfield 37, 11, 11, 4, 464)) rfl (fun _ _ _ => rfl) : mo_Sim 123 8 (ma_getf 11 4 11)) (mt_none))))
set_option maxRecDepth 100000 in
theorem smt123_1 (k : Nat) : ∀ f, mt123_1 k = some f → mo_Sim 123 k f := mt_node (smt123_2 k) (smt123_3 k)
set_option maxRecDepth 100000 in
theorem smt123_5 (k : Nat) : ∀ f, mt123_5 k = some f → mo_Sim 123 k f := mt_leaf (ms_ild (e := (.iload_n 1, 12, 0, 0, 0)) rfl (fun _ _ _ => rfl) : mo_Sim 123 11 (ma_load 0 1 12)) (mt_leaf (ms_aald (e := (.aaload, 13, 0, 0, 0)) rfl (fun _ _ _ => rfl) : mo_Sim 123 12 (ma_aald 12 13)) (mt_leaf (ms_pushi (e := (.iconst 0, 14, 0, 0, 0)) rfl (fun _ _ _ => rfl) (by decide) : mo_Sim 123 13 (ma_push (ma_ci (.ofNat 0)) 14)) (mt_none)))
set_option maxRecDepth 100000 in
theorem smt123_6 (k : Nat) : ∀ f, mt123_6 k = some f → mo_Sim 123 k f := mt_leaf (ms_putf (e := (.putfield 321, 17, 6, 0, 416)) rfl rfl (fun _ _ _ => rfl) (Or.inr (Or.inl ⟨rfl, rfl⟩)) : mo_Sim 123 14 (ma_putf 6 0 1 17)) (mt_leaf (ms_iinc (e := (.iinc 1 1, 20, 0, 0, 0)) rfl (fun _ _ _ => rfl) (by decide) : mo_Sim 123 17 (ma_iinc 1 (.ofNat 1) 17 20)) (mt_leaf (ms_goto (e := (.goto (-18), 23, 2, 0, 0)) rfl (fun _ _ _ => rfl) : mo_Sim 123 20 (ma_goto 2)) (mt_leaf (ms_retv (e := (.return_, 24, 0, 0, 0)) rfl rfl (fun _ _ _ => rfl) : mo_Sim 123 23 (ma_retv)) (mt_none))))
set_option maxRecDepth 100000 in
theorem smt123_4 (k : Nat) : ∀ f, mt123_4 k = some f → mo_Sim 123 k f := mt_node (smt123_5 k) (smt123_6 k)
set_option maxRecDepth 100000 in
theorem smt123_0 (k : Nat) : ∀ f, mt123_0 k = some f → mo_Sim 123 k f := mt_node (smt123_1 k) (smt123_4 k)
set_option maxRecDepth 100000 in
theorem smt124_2 (k : Nat) : ∀ f, mt124_2 k = some f → mo_Sim 124 k f := mt_leaf (ms_ild (e := (.iload_n 1, 1, 0, 0, 0)) rfl (fun _ _ _ => rfl) : mo_Sim 124 0 (ma_load 0 1 1)) (mt_leaf (ms_pushi (e := (.iconst 1, 2, 0, 0, 0)) rfl (fun _ _ _ => rfl) (by decide) : mo_Sim 124 1 (ma_push (ma_ci (.ofNat 1)) 2)) (mt_none))
set_option maxRecDepth 100000 in
theorem smt124_3 (k : Nat) : ∀ f, mt124_3 k = some f → mo_Sim 124 k f := mt_leaf (ms_if2 (e := (.if_icmp .lt 12, 5, 14, 0, 0)) rfl (fun _ _ _ => rfl) : mo_Sim 124 2 (ma_if2 .lt 14 2 5)) (mt_leaf (ms_ild (e := (.iload_n 1, 6, 0, 0, 0)) rfl (fun _ _ _ => rfl) : mo_Sim 124 5 (ma_load 0 1 6)) (mt_leaf (ms_pushi (e := (.iconst 3, 7, 0, 0, 0)) rfl (fun _ _ _ => rfl) (by decide) : mo_Sim 124 6 (ma_push (ma_ci (.ofNat 3)) 7)) (mt_none)))
set_option maxRecDepth 100000 in
theorem smt124_1 (k : Nat) : ∀ f, mt124_1 k = some f → mo_Sim 124 k f := mt_node (smt124_2 k) (smt124_3 k)
set_option maxRecDepth 100000 in
theorem smt124_5 (k : Nat) : ∀ f, mt124_5 k = some f → mo_Sim 124 k f := mt_leaf (ms_if2 (e := (.if_icmp .gt 7, 10, 14, 0, 0)) rfl (fun _ _ _ => rfl) : mo_Sim 124 7 (ma_if2 .gt 14 7 10)) (mt_leaf (ms_pushi (e := (.iconst 1, 11, 0, 0, 0)) rfl (fun _ _ _ => rfl) (by decide) : mo_Sim 124 10 (ma_push (ma_ci (.ofNat 1)) 11)) (mt_none))
set_option maxRecDepth 100000 in
theorem smt124_6 (k : Nat) : ∀ f, mt124_6 k = some f → mo_Sim 124 k f := mt_leaf (ms_goto (e := (.goto 4, 14, 15, 0, 0)) rfl (fun _ _ _ => rfl) : mo_Sim 124 11 (ma_goto 15)) (mt_leaf (ms_pushi (e := (.iconst 0, 15, 0, 0, 0)) rfl (fun _ _ _ => rfl) (by decide) : mo_Sim 124 14 (ma_push (ma_ci (.ofNat 0)) 15)) (mt_leaf (ms_ret (e := (.ireturn, 16, 0, 0, 0)) rfl (Or.inr (Or.inl ⟨rfl, rfl, (fun _ _ _ => rfl)⟩)) : mo_Sim 124 15 (ma_ret 1)) (mt_none)))
set_option maxRecDepth 100000 in
theorem smt124_4 (k : Nat) : ∀ f, mt124_4 k = some f → mo_Sim 124 k f := mt_node (smt124_5 k) (smt124_6 k)
set_option maxRecDepth 100000 in
theorem smt124_0 (k : Nat) : ∀ f, mt124_0 k = some f → mo_Sim 124 k f := mt_node (smt124_1 k) (smt124_4 k)
set_option maxRecDepth 100000 in
theorem smt125_2 (k : Nat) : ∀ f, mt125_2 k = some f → mo_Sim 125 k f := mt_leaf (ms_ild (e := (.iload_n 1, 1, 0, 0, 0)) rfl (fun _ _ _ => rfl) : mo_Sim 125 0 (ma_load 0 1 1)) (mt_leaf (ms_if0 (e := (.ifCond .lt 15, 4, 16, 0, 0)) rfl (fun _ _ _ => rfl) : mo_Sim 125 1 (ma_if0 .lt 16 1 4)) (mt_none))
set_option maxRecDepth 100000 in
theorem smt125_3 (k : Nat) : ∀ f, mt125_3 k = some f → mo_Sim 125 k f := mt_leaf (ms_ild (e := (.iload_n 1, 5, 0, 0, 0)) rfl (fun _ _ _ => rfl) : mo_Sim 125 4 (ma_load 0 1 5)) (mt_leaf (ms_ald (e := (.aload_n 0, 6, 0, 0, 0)) rfl (fun _ _ _ => rfl) : mo_Sim 125 5 (ma_lda 0 6)) (mt_leaf (ms_getf (e := (.getfield 123, 9, 11, 14, 474)) rfl (fun _ _ _ => rfl) : mo_Sim 125 6 (ma_getf 11 14 9)) (mt_none)))
set_option maxRecDepth 100000 in
theorem smt125_1 (k : Nat) : ∀ f, mt125_1 k = some f → mo_Sim 125 k f := mt_node (smt125_2 k) (smt125_3 k)
set_option maxRecDepth 100000 in
theorem smt125_5 (k : Nat) : ∀ f, mt125_5 k = some f → mo_Sim 125 k f := mt_leaf (ms_if2 (e := (.if_icmp .ge 7, 12, 16, 0, 0)) rfl (fun _ _ _ => rfl) : mo_Sim 125 9 (ma_if2 .ge 16 9 12)) (mt_leaf (ms_pushi (e := (.iconst 1, 13, 0, 0, 0)) rfl (fun _ _ _ => rfl) (by decide) : mo_Sim 125 12 (ma_push (ma_ci (.ofNat 1)) 13)) (mt_none))
set_option maxRecDepth 100000 in
theorem smt125_6 (k : Nat) : ∀ f, mt125_6 k = some f → mo_Sim 125 k f := mt_leaf (ms_goto (e := (.goto 4, 16, 17, 0, 0)) rfl (fun _ _ _ => rfl) : mo_Sim 125 13 (ma_goto 17)) (mt_leaf (ms_pushi (e := (.iconst 0, 17, 0, 0, 0)) rfl (fun _ _ _ => rfl) (by decide) : mo_Sim 125 16 (ma_push (ma_ci (.ofNat 0)) 17)) (mt_leaf (ms_ret (e := (.ireturn, 18, 0, 0, 0)) rfl (Or.inr (Or.inl ⟨rfl, rfl, (fun _ _ _ => rfl)⟩)) : mo_Sim 125 17 (ma_ret 1)) (mt_none)))
set_option maxRecDepth 100000 in
theorem smt125_4 (k : Nat) : ∀ f, mt125_4 k = some f → mo_Sim 125 k f := mt_node (smt125_5 k) (smt125_6 k)
set_option maxRecDepth 100000 in
theorem smt125_0 (k : Nat) : ∀ f, mt125_0 k = some f → mo_Sim 125 k f := mt_node (smt125_1 k) (smt125_4 k)
set_option maxRecDepth 100000 in
theorem smt126_2 (k : Nat) : ∀ f, mt126_2 k = some f → mo_Sim 126 k f := mt_leaf (ms_ild (e := (.iload_n 1, 1, 0, 0, 0)) rfl (fun _ _ _ => rfl) : mo_Sim 126 0 (ma_load 0 1 1)) (mt_leaf (ms_if0 (e := (.ifCond .lt 15, 4, 16, 0, 0)) rfl (fun _ _ _ => rfl) : mo_Sim 126 1 (ma_if0 .lt 16 1 4)) (mt_none))
set_option maxRecDepth 100000 in
theorem smt126_3 (k : Nat) : ∀ f, mt126_3 k = some f → mo_Sim 126 k f := mt_leaf (ms_ild (e := (.iload_n 1, 5, 0, 0, 0)) rfl (fun _ _ _ => rfl) : mo_Sim 126 4 (ma_load 0 1 5)) (mt_leaf (ms_ald (e := (.aload_n 0, 6, 0, 0, 0)) rfl (fun _ _ _ => rfl) : mo_Sim 126 5 (ma_lda 0 6)) (mt_leaf (ms_getf (e := (.getfield 149, 9, 11, 15, 475)) rfl (fun _ _ _ => rfl) : mo_Sim 126 6 (ma_getf 11 15 9)) (mt_none)))
set_option maxRecDepth 100000 in
theorem smt126_1 (k : Nat) : ∀ f, mt126_1 k = some f → mo_Sim 126 k f := mt_node (smt126_2 k) (smt126_3 k)
set_option maxRecDepth 100000 in
theorem smt126_5 (k : Nat) : ∀ f, mt126_5 k = some f → mo_Sim 126 k f := mt_leaf (ms_if2 (e := (.if_icmp .ge 7, 12, 16, 0, 0)) rfl (fun _ _ _ => rfl) : mo_Sim 126 9 (ma_if2 .ge 16 9 12)) (mt_leaf (ms_pushi (e := (.iconst 1, 13, 0, 0, 0)) rfl (fun _ _ _ => rfl) (by decide) : mo_Sim 126 12 (ma_push (ma_ci (.ofNat 1)) 13)) (mt_none))
set_option maxRecDepth 100000 in
theorem smt126_6 (k : Nat) : ∀ f, mt126_6 k = some f → mo_Sim 126 k f := mt_leaf (ms_goto (e := (.goto 4, 16, 17, 0, 0)) rfl (fun _ _ _ => rfl) : mo_Sim 126 13 (ma_goto 17)) (mt_leaf (ms_pushi (e := (.iconst 0, 17, 0, 0, 0)) rfl (fun _ _ _ => rfl) (by decide) : mo_Sim 126 16 (ma_push (ma_ci (.ofNat 0)) 17)) (mt_leaf (ms_ret (e := (.ireturn, 18, 0, 0, 0)) rfl (Or.inr (Or.inl ⟨rfl, rfl, (fun _ _ _ => rfl)⟩)) : mo_Sim 126 17 (ma_ret 1)) (mt_none)))
set_option maxRecDepth 100000 in
theorem smt126_4 (k : Nat) : ∀ f, mt126_4 k = some f → mo_Sim 126 k f := mt_node (smt126_5 k) (smt126_6 k)
set_option maxRecDepth 100000 in
theorem smt126_0 (k : Nat) : ∀ f, mt126_0 k = some f → mo_Sim 126 k f := mt_node (smt126_1 k) (smt126_4 k)
set_option maxRecDepth 100000 in
theorem smt127_3 (k : Nat) : ∀ f, mt127_3 k = some f → mo_Sim 127 k f := mt_leaf (ms_pushi (e := (.iconst 0, 1, 0, 0, 0)) rfl (fun _ _ _ => rfl) (by decide) : mo_Sim 127 0 (ma_push (ma_ci (.ofNat 0)) 1)) (mt_leaf (ms_ist (e := (.istore_n 1, 2, 0, 0, 0)) rfl (fun _ _ _ => rfl) : mo_Sim 127 1 (ma_stor 0 1 2)) (mt_none))
set_option maxRecDepth 100000 in
theorem smt127_4 (k : Nat) : ∀ f, mt127_4 k = some f → mo_Sim 127 k f := mt_leaf (ms_pushi (e := (.iconst 0, 3, 0, 0, 0)) rfl (fun _ _ _ => rfl) (by decide) : mo_Sim 127 2 (ma_push (ma_ci (.ofNat 0)) 3)) (mt_leaf (ms_ist (e := (.istore_n 2, 4, 0, 0, 0)) rfl (fun _ _ _ => rfl) : mo_Sim 127 3 (ma_stor 0 2 4)) (mt_leaf (ms_ild (e := (.iload_n 2, 5, 0, 0, 0)) rfl (fun _ _ _ => rfl) : mo_Sim 127 4 (ma_load 0 2 5)) (mt_none)))
set_option maxRecDepth 100000 in
theorem smt127_2 (k : Nat) : ∀ f, mt127_2 k = some f → mo_Sim 127 k f := mt_node (smt127_3 k) (smt127_4 k)
set_option maxRecDepth 100000 in
theorem smt127_6 (k : Nat) : ∀ f, mt127_6 k = some f → mo_Sim 127 k f := mt_leaf (ms_ald (e := (.aload_n 0, 6, 0, 0, 0)) rfl (fun _ _ _ => rfl) : mo_Sim 127 5 (ma_lda 0 6)) (mt_leaf (ms_getf (e := (.getfield 123, 9, 11, 14, 474)) rfl (fun _ _ _ => rfl) : mo_Sim 127 6 (ma_getf 11 14 9)) (mt_none))
set_option maxRecDepth 100000 in
theorem smt127_7 (k : Nat) : ∀ f, mt127_7 k = some f → mo_Sim 127 k f := mt_leaf (ms_if2 (e := (.if_icmp .ge 25, 12, 34, 0, 0)) rfl (fun _ _ _ => rfl) : mo_Sim 127 9 (ma_if2 .ge 34 9 12)) (mt_leaf (ms_ald (e := (.aload_n 0, 13, 0, 0, 0)) rfl (fun _ _ _ => rfl) : mo_Sim 127 12 (ma_lda 0 13)) (mt_leaf (ms_getf (e := (.getfield 25, 16, 11, 2, 462)) rfl (fun _ _ _ => rfl) : mo_Sim 127 13 (ma_getf 11 2 16)) (mt_none)))
set_option maxRecDepth 100000 in
theorem smt127_5 (k : Nat) : ∀ f, mt127_5 k = some f → mo_Sim 127 k f := mt_node (smt127_6 k) (smt127_7 k)
set_option maxRecDepth 100000 in
theorem smt127_1 (k : Nat) : ∀ f, mt127_1 k = some f → mo_Sim 127 k f := mt_node (smt127_2 k) (smt127_5 k)
set_option maxRecDepth 100000 in
theorem smt127_10 (k : Nat) : ∀ f, mt127_10 k = some f → mo_Sim 127 k f := mt_leaf (ms_ild (e := (.iload_n 2, 17, 0, 0, 0)) rfl (fun _ _ _ => rfl) : mo_Sim 127 16 (ma_load 0 2 17)) (mt_leaf (ms_aald (e := (.aaload, 18, 0, 0, 0)) rfl (fun _ _ _ => rfl) : mo_Sim 127 17 (ma_aald 17 18)) (mt_none))
set_option maxRecDepth 100000 in
theorem smt127_11 (k : Nat) : ∀ f, mt127_11 k = some f → mo_Sim 127 k f := mt_leaf (ms_getf (e := (.getfield 324, 21, 0, 0, 392)) rfl (fun _ _ _ => rfl) : mo_Sim 127 18 (ma_getf 0 0 21)) (mt_leaf (ms_pushi (e := (.iconst 3, 22, 0, 0, 0)) rfl (fun _ _ _ => rfl) (by decide) : mo_Sim 127 21 (ma_push (ma_ci (.ofNat 3)) 22)) (mt_leaf (ms_if2 (e := (.if_icmp .ne 6, 25, 28, 0, 0)) rfl (fun _ _ _ => rfl) : mo_Sim 127 22 (ma_if2 .ne 28 22 25)) (mt_none)))
set_option maxRecDepth 100000 in
theorem smt127_9 (k : Nat) : ∀ f, mt127_9 k = some f → mo_Sim 127 k f := mt_node (smt127_10 k) (smt127_11 k)
set_option maxRecDepth 100000 in
theorem smt127_13 (k : Nat) : ∀ f, mt127_13 k = some f → mo_Sim 127 k f := mt_leaf (ms_iinc (e := (.iinc 1 1, 28, 0, 0, 0)) rfl (fun _ _ _ => rfl) (by decide) : mo_Sim 127 25 (ma_iinc 1 (.ofNat 1) 25 28)) (mt_leaf (ms_iinc (e := (.iinc 2 1, 31, 0, 0, 0)) rfl (fun _ _ _ => rfl) (by decide) : mo_Sim 127 28 (ma_iinc 2 (.ofNat 1) 28 31)) (mt_none))
set_option maxRecDepth 100000 in
theorem smt127_14 (k : Nat) : ∀ f, mt127_14 k = some f → mo_Sim 127 k f := mt_leaf (ms_goto (e := (.goto (-27), 34, 4, 0, 0)) rfl (fun _ _ _ => rfl) : mo_Sim 127 31 (ma_goto 4)) (mt_leaf (ms_ild (e := (.iload_n 1, 35, 0, 0, 0)) rfl (fun _ _ _ => rfl) : mo_Sim 127 34 (ma_load 0 1 35)) (mt_leaf (ms_ret (e := (.ireturn, 36, 0, 0, 0)) rfl (Or.inl ⟨rfl, rfl, (fun _ _ _ => rfl)⟩) : mo_Sim 127 35 (ma_ret 0)) (mt_none)))
set_option maxRecDepth 100000 in
theorem smt127_12 (k : Nat) : ∀ f, mt127_12 k = some f → mo_Sim 127 k f := mt_node (smt127_13 k) (smt127_14 k)
set_option maxRecDepth 100000 in
theorem smt127_8 (k : Nat) : ∀ f, mt127_8 k = some f → mo_Sim 127 k f := mt_node (smt127_9 k) (smt127_12 k)
set_option maxRecDepth 100000 in
theorem smt127_0 (k : Nat) : ∀ f, mt127_0 k = some f → mo_Sim 127 k f := mt_node (smt127_1 k) (smt127_8 k)
set_option maxRecDepth 100000 in
theorem smt128_4 (k : Nat) : ∀ f, mt128_4 k = some f → mo_Sim 128 k f := mt_leaf (ms_ald (e := (.aload_n 0, 1, 0, 0, 0)) rfl (fun _ _ _ => rfl) : mo_Sim 128 0 (ma_lda 0 1)) (mt_leaf (ms_getf (e := (.getfield 19, 4, 11, 1, 461)) rfl (fun _ _ _ => rfl) : mo_Sim 128 1 (ma_getf 11 1 4)) (mt_leaf (ms_ild (e := (.iload_n 2, 5, 0, 0, 0)) rfl (fun _ _ _ => rfl) : mo_Sim 128 4 (ma_load 0 2 5)) (mt_none)))
set_option maxRecDepth 100000 in
theorem smt128_5 (k : Nat) : ∀ f, mt128_5 k = some f → mo_Sim 128 k f := mt_leaf (ms_pushi (e := (.iconst 0, 6, 0, 0, 0)) rfl (fun _ _ _ => rfl) (by decide) : mo_Sim 128 5 (ma_push (ma_ci (.ofNat 0)) 6)) (mt_leaf (ms_pushi (e := (.bipush 27, 8, 0, 0, 0)) rfl (fun _ _ _ => rfl) (by decide) : mo_Sim 128 6 (ma_push (ma_ci (.ofNat 27)) 8)) (mt_leaf (ms_invV (p := 3) (e := (.invokevirtual 138, 11, 89, 0, 575)) rfl rfl (fun _ _ _ => rfl) rfl rfl rfl (by decide) : mo_Sim 128 8 (ma_inv 89 4 6 10 11)) (mt_leaf (ms_ist (e := (.istore_n 3, 12, 0, 0, 0)) rfl (fun _ _ _ => rfl) : mo_Sim 128 11 (ma_stor 0 3 12)) (mt_none))))
set_option maxRecDepth 100000 in
theorem smt128_3 (k : Nat) : ∀ f, mt128_3 k = some f → mo_Sim 128 k f := mt_node (smt128_4 k) (smt128_5 k)
set_option maxRecDepth 100000 in
theorem smt128_7 (k : Nat) : ∀ f, mt128_7 k = some f → mo_Sim 128 k f := mt_leaf (ms_ild (e := (.iload_n 3, 13, 0, 0, 0)) rfl (fun _ _ _ => rfl) : mo_Sim 128 12 (ma_load 0 3 13)) (mt_leaf (ms_if0 (e := (.ifCond .ge 5, 16, 18, 0, 0)) rfl (fun _ _ _ => rfl) : mo_Sim 128 13 (ma_if0 .ge 18 13 16)) (mt_leaf (ms_ild (e := (.iload_n 3, 17, 0, 0, 0)) rfl (fun _ _ _ => rfl) : mo_Sim 128 16 (ma_load 0 3 17)) (mt_leaf (ms_ret (e := (.ireturn, 18, 0, 0, 0)) rfl (Or.inl ⟨rfl, rfl, (fun _ _ _ => rfl)⟩) : mo_Sim 128 17 (ma_ret 0)) (mt_none))))
set_option maxRecDepth 100000 in
theorem smt128_8 (k : Nat) : ∀ f, mt128_8 k = some f → mo_Sim 128 k f := mt_leaf (ms_pushi (e := (.iconst 0, 19, 0, 0, 0)) rfl (fun _ _ _ => rfl) (by decide) : mo_Sim 128 18 (ma_push (ma_ci (.ofNat 0)) 19)) (mt_leaf (ms_ist (e := (.istore 4, 21, 0, 0, 0)) rfl (fun _ _ _ => rfl) : mo_Sim 128 19 (ma_stor 0 4 21)) (mt_leaf (ms_pushi (e := (.iconst 1, 22, 0, 0, 0)) rfl (fun _ _ _ => rfl) (by decide) : mo_Sim 128 21 (ma_push (ma_ci (.ofNat 1)) 22)) (mt_leaf (ms_ist (e := (.istore 5, 24, 0, 0, 0)) rfl (fun _ _ _ => rfl) : mo_Sim 128 22 (ma_stor 0 5 24)) (mt_none))))
set_option maxRecDepth 100000 in
theorem smt128_6 (k : Nat) : ∀ f, mt128_6 k = some f → mo_Sim 128 k f := mt_node (smt128_7 k) (smt128_8 k)
set_option maxRecDepth 100000 in
theorem smt128_2 (k : Nat) : ∀ f, mt128_2 k = some f → mo_Sim 128 k f := mt_node (smt128_3 k) (smt128_6 k)
set_option maxRecDepth 100000 in
theorem smt128_11 (k : Nat) : ∀ f, mt128_11 k = some f → mo_Sim 128 k f := mt_leaf (ms_pushi (e := (.iconst 0, 25, 0, 0, 0)) rfl (fun _ _ _ => rfl) (by decide) : mo_Sim 128 24 (ma_push (ma_ci (.ofNat 0)) 25)) (mt_leaf (ms_ist (e := (.istore 6, 27, 0, 0, 0)) rfl (fun _ _ _ => rfl) : mo_Sim 128 25 (ma_stor 0 6 27)) (mt_leaf (ms_ild (e := (.iload 6, 29, 0, 0, 0)) rfl (fun _ _ _ => rfl) : mo_Sim 128 27 (ma_load 0 6 29)) (mt_leaf (ms_ild (e := (.iload_n 3, 30, 0, 0, 0)) rfl (fun _ _ _ => rfl) : mo_Sim 128 29 (ma_load 0 3 30)) (mt_none))))
set_option maxRecDepth 100000 in
theorem smt128_12 (k : Nat) : ∀ f, mt128_12 k = some f → mo_Sim 128 k f := mt_leaf (ms_if2 (e := (.if_icmp .ge 83, 33, 113, 0, 0)) rfl (fun _ _ _ => rfl) : mo_Sim 128 30 (ma_if2 .ge 113 30 33)) (mt_leaf (ms_pushi (e := (.iconst 0, 34, 0, 0, 0)) rfl (fun _ _ _ => rfl) (by decide) : mo_Sim 128 33 (ma_push (ma_ci (.ofNat 0)) 34)) (mt_leaf (ms_ist (e := (.istore 7, 36, 0, 0, 0)) rfl (fun _ _ _ => rfl) : mo_Sim 128 34 (ma_stor 0 7 36)) (mt_leaf (ms_pushi (e := (.iconst 0, 37, 0, 0, 0)) rfl (fun _ _ _ => rfl) (by decide) : mo_Sim 128 36 (ma_push (ma_ci (.ofNat 0)) 37)) (mt_none))))
set_option maxRecDepth 100000 in
theorem smt128_10 (k : Nat) : ∀ f, mt128_10 k = some f → mo_Sim 128 k f := mt_node (smt128_11 k) (smt128_12 k)
set_option maxRecDepth 100000 in
theorem smt128_14 (k : Nat) : ∀ f, mt128_14 k = some f → mo_Sim 128 k f := mt_leaf (ms_ist (e := (.istore 8, 39, 0, 0, 0)) rfl (fun _ _ _ => rfl) : mo_Sim 128 37 (ma_stor 0 8 39)) (mt_leaf (ms_ild (e := (.iload 8, 41, 0, 0, 0)) rfl (fun _ _ _ => rfl) : mo_Sim 128 39 (ma_load 0 8 41)) (mt_leaf (ms_ild (e := (.iload_n 1, 42, 0, 0, 0)) rfl (fun _ _ _ => rfl) : mo_Sim 128 41 (ma_load 0 1 42)) (mt_leaf (ms_if2 (e := (.if_icmp .ge 56, 45, 98, 0, 0)) rfl (fun _ _ _ => rfl) : mo_Sim 128 42 (ma_if2 .ge 98 42 45)) (mt_none))))
set_option maxRecDepth 100000 in
theorem smt128_15 (k : Nat) : ∀ f, mt128_15 k = some f → mo_Sim 128 k f := mt_leaf (ms_ald (e := (.aload_n 0, 46, 0, 0, 0)) rfl (fun _ _ _ => rfl) : mo_Sim 128 45 (ma_lda 0 46)) (mt_leaf (ms_getf (e := (.getfield 19, 49, 11, 1, 461)) rfl (fun _ _ _ => rfl) : mo_Sim 128 46 (ma_getf 11 1 49)) (mt_leaf (ms_ild (e := (.iload_n 2, 50, 0, 0, 0)) rfl (fun _ _ _ => rfl) : mo_Sim 128 49 (ma_load 0 2 50)) (mt_leaf (ms_ild (e := (.iload 5, 52, 0, 0, 0)) rfl (fun _ _ _ => rfl) : mo_Sim 128 50 (ma_load 0 5 52)) (mt_none))))
set_option maxRecDepth 100000 in
theorem smt128_13 (k : Nat) : ∀ f, mt128_13 k = some f → mo_Sim 128 k f := mt_node (smt128_14 k) (smt128_15 k)
set_option maxRecDepth 100000 in
theorem smt128_9 (k : Nat) : ∀ f, mt128_9 k = some f → mo_Sim 128 k f := mt_node (smt128_10 k) (smt128_13 k)
set_option maxRecDepth 100000 in
theorem smt128_1 (k : Nat) : ∀ f, mt128_1 k = some f → mo_Sim 128 k f := mt_node (smt128_2 k) (smt128_9 k)
set_option maxRecDepth 100000 in
theorem smt128_19 (k : Nat) : ∀ f, mt128_19 k = some f → mo_Sim 128 k f := mt_leaf (ms_ald (e := (.aload_n 0, 53, 0, 0, 0)) rfl (fun _ _ _ => rfl) : mo_Sim 128 52 (ma_lda 0 53)) (mt_leaf (ms_getf (e := (.getfield 10, 56, 11, 0, 460)) rfl (fun _ _ _ => rfl) : mo_Sim 128 53 (ma_getf 11 0 56)) (mt_leaf (ms_getf (e := (.getfield 135, 59, 1, 0, 112)) rfl (fun _ _ _ => rfl) : mo_Sim 128 56 (ma_getf 1 0 59)) (mt_leaf (ms_pushi (e := (.iconst 1, 60, 0, 0, 0)) rfl (fun _ _ _ => rfl) (by decide) : mo_Sim 128 59 (ma_push (ma_ci (.ofNat 1)) 60)) (mt_none))))
set_option maxRecDepth 100000 in
theorem smt128_20 (k : Nat) : ∀ f, mt128_20 k = some f → mo_Sim 128 k f := mt_leaf (ms_isub (e := (.isub, 61, 0, 0, 0)) rfl (fun _ _ _ => rfl) : mo_Sim 128 60 (ma_isub 60 61)) (mt_leaf (ms_invV (p := 3) (e := (.invokevirtual 138, 64, 89, 0, 575)) rfl rfl (fun _ _ _ => rfl) rfl rfl rfl (by decide) : mo_Sim 128 61 (ma_inv 89 4 6 10 64)) (mt_leaf (ms_ist (e := (.istore 9, 66, 0, 0, 0)) rfl (fun _ _ _ => rfl) : mo_Sim 128 64 (ma_stor 0 9 66)) (mt_leaf (ms_ild (e := (.iload 9, 68, 0, 0, 0)) rfl (fun _ _ _ => rfl) : mo_Sim 128 66 (ma_load 0 9 68)) (mt_none))))
set_option maxRecDepth 100000 in
theorem smt128_18 (k : Nat) : ∀ f, mt128_18 k = some f → mo_Sim 128 k f := mt_node (smt128_19 k) (smt128_20 k)
set_option maxRecDepth 100000 in
theorem smt128_22 (k : Nat) : ∀ f, mt128_22 k = some f → mo_Sim 128 k f := mt_leaf (ms_if0 (e := (.ifCond .ge 6, 71, 74, 0, 0)) rfl (fun _ _ _ => rfl) : mo_Sim 128 68 (ma_if0 .ge 74 68 71)) (mt_leaf (ms_ild (e := (.iload 9, 73, 0, 0, 0)) rfl (fun _ _ _ => rfl) : mo_Sim 128 71 (ma_load 0 9 73)) (mt_leaf (ms_ret (e := (.ireturn, 74, 0, 0, 0)) rfl (Or.inl ⟨rfl, rfl, (fun _ _ _ => rfl)⟩) : mo_Sim 128 73 (ma_ret 0)) (mt_leaf (ms_ild (e := (.iload 7, 76, 0, 0, 0)) rfl (fun _ _ _ => rfl) : mo_Sim 128 74 (ma_load 0 7 76)) (mt_none))))
set_option maxRecDepth 100000 in
theorem smt128_23 (k : Nat) : ∀ f, mt128_23 k = some f → mo_Sim 128 k f := mt_leaf (ms_ald (e := (.aload_n 0, 77, 0, 0, 0)) rfl (fun _ _ _ => rfl) : mo_Sim 128 76 (ma_lda 0 77)) (mt_leaf (ms_getf (e := (.getfield 10, 80, 11, 0, 460)) rfl (fun _ _ _ => rfl) : mo_Sim 128 77 (ma_getf 11 0 80)) (mt_leaf (ms_getf (e := (.getfield 135, 83, 1, 0, 112)) rfl (fun _ _ _ => rfl) : mo_Sim 128 80 (ma_getf 1 0 83)) (mt_leaf (ms_i2 (e := (.imul, 84, 0, 0, 0)) rfl (fun _ _ _ => rfl) hf_mul : mo_Sim 128 83 (ma_i2 ma_fmul 83 84)) (mt_none))))
set_option maxRecDepth 100000 in
theorem smt128_21 (k : Nat) : ∀ f, mt128_21 k = some f → mo_Sim 128 k f := mt_node (smt128_22 k) (smt128_23 k)
set_option maxRecDepth 100000 in
theorem smt128_17 (k : Nat) : ∀ f, mt128_17 k = some f → mo_Sim 128 k f := mt_node (smt128_18 k) (smt128_21 k)
set_option maxRecDepth 100000 in
theorem smt128_26 (k : Nat) : ∀ f, mt128_26 k = some f → mo_Sim 128 k f := mt_leaf (ms_ild (e := (.iload 9, 86, 0, 0, 0)) rfl (fun _ _ _ => rfl) : mo_Sim 128 84 (ma_load 0 9 86)) (mt_leaf (ms_iadd (e := (.iadd, 87, 0, 0, 0)) rfl (fun _ _ _ => rfl) : mo_Sim 128 86 (ma_iadd 86 87)) (mt_leaf (ms_ist (e := (.istore 7, 89, 0, 0, 0)) rfl (fun _ _ _ => rfl) : mo_Sim 128 87 (ma_stor 0 7 89)) (mt_leaf (ms_iinc (e := (.iinc 5 1, 92, 0, 0, 0)) rfl (fun _ _ _ => rfl) (by decide) : mo_Sim 128 89 (ma_iinc 5 (.ofNat 1) 89 92)) (mt_none))))
set_option maxRecDepth 100000 in
theorem smt128_27 (k : Nat) : ∀ f, mt128_27 k = some f → mo_Sim 128 k f := mt_leaf (ms_iinc (e := (.iinc 8 1, 95, 0, 0, 0)) rfl (fun _ _ _ => rfl) (by decide) : mo_Sim 128 92 (ma_iinc 8 (.ofNat 1) 92 95)) (mt_leaf (ms_goto (e := (.goto (-56), 98, 39, 0, 0)) rfl (fun _ _ _ => rfl) : mo_Sim 128 95 (ma_goto 39)) (mt_leaf (ms_ild (e := (.iload 4, 100, 0, 0, 0)) rfl (fun _ _ _ => rfl) : mo_Sim 128 98 (ma_load 0 4 100)) (mt_leaf (ms_pushi (e := (.iconst 1, 101, 0, 0, 0)) rfl (fun _ _ _ => rfl) (by decide) : mo_Sim 128 100 (ma_push (ma_ci (.ofNat 1)) 101)) (mt_none))))
set_option maxRecDepth 100000 in
theorem smt128_25 (k : Nat) : ∀ f, mt128_25 k = some f → mo_Sim 128 k f := mt_node (smt128_26 k) (smt128_27 k)
set_option maxRecDepth 100000 in
theorem smt128_29 (k : Nat) : ∀ f, mt128_29 k = some f → mo_Sim 128 k f := mt_leaf (ms_ild (e := (.iload 7, 103, 0, 0, 0)) rfl (fun _ _ _ => rfl) : mo_Sim 128 101 (ma_load 0 7 103)) (mt_leaf (ms_i2 (e := (.ishl, 104, 0, 0, 0)) rfl (fun _ _ _ => rfl) hf_shl : mo_Sim 128 103 (ma_i2 ma_fshl 103 104)) (mt_leaf (ms_i2 (e := (.ior, 105, 0, 0, 0)) rfl (fun _ _ _ => rfl) hf_or : mo_Sim 128 104 (ma_i2 ma_for 104 105)) (mt_leaf (ms_ist (e := (.istore 4, 107, 0, 0, 0)) rfl (fun _ _ _ => rfl) : mo_Sim 128 105 (ma_stor 0 4 107)) (mt_none))))
set_option maxRecDepth 100000 in
theorem smt128_30 (k : Nat) : ∀ f, mt128_30 k = some f → mo_Sim 128 k f := mt_leaf (ms_iinc (e := (.iinc 6 1, 110, 0, 0, 0)) rfl (fun _ _ _ => rfl) (by decide) : mo_Sim 128 107 (ma_iinc 6 (.ofNat 1) 107 110)) (mt_leaf (ms_goto (e := (.goto (-83), 113, 27, 0, 0)) rfl (fun _ _ _ => rfl) : mo_Sim 128 110 (ma_goto 27)) (mt_leaf (ms_ild (e := (.iload 4, 115, 0, 0, 0)) rfl (fun _ _ _ => rfl) : mo_Sim 128 113 (ma_load 0 4 115)) (mt_leaf (ms_ret (e := (.ireturn, 116, 0, 0, 0)) rfl (Or.inl ⟨rfl, rfl, (fun _ _ _ => rfl)⟩) : mo_Sim 128 115 (ma_ret 0)) (mt_none))))
set_option maxRecDepth 100000 in
theorem smt128_28 (k : Nat) : ∀ f, mt128_28 k = some f → mo_Sim 128 k f := mt_node (smt128_29 k) (smt128_30 k)
set_option maxRecDepth 100000 in
theorem smt128_24 (k : Nat) : ∀ f, mt128_24 k = some f → mo_Sim 128 k f := mt_node (smt128_25 k) (smt128_28 k)
set_option maxRecDepth 100000 in
theorem smt128_16 (k : Nat) : ∀ f, mt128_16 k = some f → mo_Sim 128 k f := mt_node (smt128_17 k) (smt128_24 k)
set_option maxRecDepth 100000 in
theorem smt128_0 (k : Nat) : ∀ f, mt128_0 k = some f → mo_Sim 128 k f := mt_node (smt128_1 k) (smt128_16 k)
set_option maxRecDepth 100000 in
theorem smt129_3 (k : Nat) : ∀ f, mt129_3 k = some f → mo_Sim 129 k f := mt_leaf (ms_pushi (e := (.iconst 0, 1, 0, 0, 0)) rfl (fun _ _ _ => rfl) (by decide) : mo_Sim 129 0 (ma_push (ma_ci (.ofNat 0)) 1)) (mt_leaf (ms_ist (e := (.istore_n 1, 2, 0, 0, 0)) rfl (fun _ _ _ => rfl) : mo_Sim 129 1 (ma_stor 0 1 2)) (mt_leaf (ms_ild (e := (.iload_n 1, 3, 0, 0, 0)) rfl (fun _ _ _ => rfl) : mo_Sim 129 2 (ma_load 0 1 3)) (mt_none)))
set_option maxRecDepth 100000 in
theorem smt129_4 (k : Nat) : ∀ f, mt129_4 k = some f → mo_Sim 129 k f := mt_leaf (ms_ald (e := (.aload_n 0, 4, 0, 0, 0)) rfl (fun _ _ _ => rfl) : mo_Sim 129 3 (ma_lda 0 4)) (mt_leaf (ms_getf (e := (.getfield 123, 7, 11, 14, 474)) rfl (fun _ _ _ => rfl) : mo_Sim 129 4 (ma_getf 11 14 7)) (mt_leaf (ms_if2 (e := (.if_icmp .ge 35, 10, 42, 0, 0)) rfl (fun _ _ _ => rfl) : mo_Sim 129 7 (ma_if2 .ge 42 7 10)) (mt_none)))
set_option maxRecDepth 100000 in
theorem smt129_2 (k : Nat) : ∀ f, mt129_2 k = some f → mo_Sim 129 k f := mt_node (smt129_3 k) (smt129_4 k)
set_option maxRecDepth 100000 in
theorem smt129_6 (k : Nat) : ∀ f, mt129_6 k = some f → mo_Sim 129 k f := mt_leaf (ms_ald (e := (.aload_n 0, 11, 0, 0, 0)) rfl (fun _ _ _ => rfl) : mo_Sim 129 10 (ma_lda 0 11)) (mt_leaf (ms_getf (e := (.getfield 82, 14, 11, 11, 471)) rfl (fun _ _ _ => rfl) : mo_Sim 129 11 (ma_getf 11 11 14)) (mt_leaf (ms_ald (e := (.aload_n 0, 15, 0, 0, 0)) rfl (fun _ _ _ => rfl) : mo_Sim 129 14 (ma_lda 0 15)) (mt_none)))
set_option maxRecDepth 100000 in
theorem smt129_7 (k : Nat) : ∀ f, mt129_7 k = some f → mo_Sim 129 k f := mt_leaf (ms_getf (e := (.getfield 25, 18, 11, 2, 462)) rfl (fun _ _ _ => rfl) : mo_Sim 129 15 (ma_getf 11 2 18)) (mt_leaf (ms_ild (e := (.iload_n 1, 19, 0, 0, 0)) rfl (fun _ _ _ => rfl) : mo_Sim 129 18 (ma_load 0 1 19)) (mt_leaf (ms_aald (e := (.aaload, 20, 0, 0, 0)) rfl (fun _ _ _ => rfl) : mo_Sim 129 19 (ma_aald 19 20)) (mt_none)))
set_option maxRecDepth 100000 in
theorem smt129_5 (k : Nat) : ∀ f, mt129_5 k = some f → mo_Sim 129 k f := mt_node (smt129_6 k) (smt129_7 k)
set_option maxRecDepth 100000 in
theorem smt129_1 (k : Nat) : ∀ f, mt129_1 k = some f → mo_Sim 129 k f := mt_node (smt129_2 k) (smt129_5 k)
set_option maxRecDepth 100000 in
theorem smt129_10 (k : Nat) : ∀ f, mt129_10 k = some f → mo_Sim 129 k f := mt_leaf (ms_ald (e := (.aload_n 0, 21, 0, 0, 0)) rfl (fun _ _ _ => rfl) : mo_Sim 129 20 (ma_lda 0 21)) (mt_leaf (ms_getf (e := (.getfield 10, 24, 11, 0, 460)) rfl (fun _ _ _ => rfl) : mo_Sim 129 21 (ma_getf 11 0 24)) (mt_leaf (ms_ald (e := (.aload_n 0, 25, 0, 0, 0)) rfl (fun _ _ _ => rfl) : mo_Sim 129 24 (ma_lda 0 25)) (mt_none)))
set_option maxRecDepth 100000 in
theorem smt129_11 (k : Nat) : ∀ f, mt129_11 k = some f → mo_Sim 129 k f := mt_leaf (ms_getf (e := (.getfield 89, 28, 11, 12, 472)) rfl (fun _ _ _ => rfl) : mo_Sim 129 25 (ma_getf 11 12 28)) (mt_leaf (ms_invV (p := 3) (e := (.invokevirtual 176, 31, 38, 0, 626)) rfl rfl (fun _ _ _ => rfl) rfl rfl rfl (by decide) : mo_Sim 129 28 (ma_inv 38 4 9 4 31)) (mt_leaf (ms_if0 (e := (.ifCond .ne 5, 34, 36, 0, 0)) rfl (fun _ _ _ => rfl) : mo_Sim 129 31 (ma_if0 .ne 36 31 34)) (mt_none)))
set_option maxRecDepth 100000 in
theorem smt129_9 (k : Nat) : ∀ f, mt129_9 k = some f → mo_Sim 129 k f := mt_node (smt129_10 k) (smt129_11 k)
set_option maxRecDepth 100000 in
theorem smt129_13 (k : Nat) : ∀ f, mt129_13 k = some f → mo_Sim 129 k f := mt_leaf (ms_pushi (e := (.iconst 0, 35, 0, 0, 0)) rfl (fun _ _ _ => rfl) (by decide) : mo_Sim 129 34 (ma_push (ma_ci (.ofNat 0)) 35)) (mt_leaf (ms_ret (e := (.ireturn, 36, 0, 0, 0)) rfl (Or.inr (Or.inl ⟨rfl, rfl, (fun _ _ _ => rfl)⟩)) : mo_Sim 129 35 (ma_ret 1)) (mt_leaf (ms_iinc (e := (.iinc 1 1, 39, 0, 0, 0)) rfl (fun _ _ _ => rfl) (by decide) : mo_Sim 129 36 (ma_iinc 1 (.ofNat 1) 36 39)) (mt_none)))
set_option maxRecDepth 100000 in
theorem smt129_14 (k : Nat) : ∀ f, mt129_14 k = some f → mo_Sim 129 k f := mt_leaf (ms_goto (e := (.goto (-37), 42, 2, 0, 0)) rfl (fun _ _ _ => rfl) : mo_Sim 129 39 (ma_goto 2)) (mt_leaf (ms_pushi (e := (.iconst 1, 43, 0, 0, 0)) rfl (fun _ _ _ => rfl) (by decide) : mo_Sim 129 42 (ma_push (ma_ci (.ofNat 1)) 43)) (mt_leaf (ms_ret (e := (.ireturn, 44, 0, 0, 0)) rfl (Or.inr (Or.inl ⟨rfl, rfl, (fun _ _ _ => rfl)⟩)) : mo_Sim 129 43 (ma_ret 1)) (mt_none)))
set_option maxRecDepth 100000 in
theorem smt129_12 (k : Nat) : ∀ f, mt129_12 k = some f → mo_Sim 129 k f := mt_node (smt129_13 k) (smt129_14 k)
set_option maxRecDepth 100000 in
theorem smt129_8 (k : Nat) : ∀ f, mt129_8 k = some f → mo_Sim 129 k f := mt_node (smt129_9 k) (smt129_12 k)
set_option maxRecDepth 100000 in
theorem smt129_0 (k : Nat) : ∀ f, mt129_0 k = some f → mo_Sim 129 k f := mt_node (smt129_1 k) (smt129_8 k)
set_option maxRecDepth 100000 in
theorem smt130_3 (k : Nat) : ∀ f, mt130_3 k = some f → mo_Sim 130 k f := mt_leaf (ms_ald (e := (.aload_n 0, 1, 0, 0, 0)) rfl (fun _ _ _ => rfl) : mo_Sim 130 0 (ma_lda 0 1)) (mt_leaf (ms_getf (e := (.getfield 37, 4, 11, 4, 464)) rfl (fun _ _ _ => rfl) : mo_Sim 130 1 (ma_getf 11 4 4)) (mt_leaf (ms_ild (e := (.iload_n 1, 5, 0, 0, 0)) rfl (fun _ _ _ => rfl) : mo_Sim 130 4 (ma_load 0 1 5)) (mt_none)))
set_option maxRecDepth 100000 in
theorem smt130_4 (k : Nat) : ∀ f, mt130_4 k = some f → mo_Sim 130 k f := mt_leaf (ms_pushi (e := (.iconst 1, 6, 0, 0, 0)) rfl (fun _ _ _ => rfl) (by decide) : mo_Sim 130 5 (ma_push (ma_ci (.ofNat 1)) 6)) (mt_leaf (ms_isub (e := (.isub, 7, 0, 0, 0)) rfl (fun _ _ _ => rfl) : mo_Sim 130 6 (ma_isub 6 7)) (mt_leaf (ms_aald (e := (.aaload, 8, 0, 0, 0)) rfl (fun _ _ _ => rfl) : mo_Sim 130 7 (ma_aald 7 8)) (mt_none)))
set_option maxRecDepth 100000 in
theorem smt130_2 (k : Nat) : ∀ f, mt130_2 k = some f → mo_Sim 130 k f := mt_node (smt130_3 k) (smt130_4 k)
set_option maxRecDepth 100000 in
theorem smt130_6 (k : Nat) : ∀ f, mt130_6 k = some f → mo_Sim 130 k f := mt_leaf (ms_ast0 (e := (.astore_n 2, 9, 0, 0, 0)) rfl (fun _ _ _ => rfl) : mo_Sim 130 8 (ma_sta 2 9)) (mt_leaf (ms_ald (e := (.aload_n 2, 10, 0, 0, 0)) rfl (fun _ _ _ => rfl) : mo_Sim 130 9 (ma_lda 2 10)) (mt_leaf (ms_getf (e := (.getfield 321, 13, 6, 0, 416)) rfl (fun _ _ _ => rfl) : mo_Sim 130 10 (ma_getf 6 0 13)) (mt_none)))
set_option maxRecDepth 100000 in
theorem smt130_7 (k : Nat) : ∀ f, mt130_7 k = some f → mo_Sim 130 k f := mt_leaf (ms_if0 (e := (.ifCond .ne 29, 16, 42, 0, 0)) rfl (fun _ _ _ => rfl) : mo_Sim 130 13 (ma_if0 .ne 42 13 16)) (mt_leaf (ms_ald (e := (.aload_n 0, 17, 0, 0, 0)) rfl (fun _ _ _ => rfl) : mo_Sim 130 16 (ma_lda 0 17)) (mt_leaf (ms_getf (e := (.getfield 44, 20, 11, 5, 465)) rfl (fun _ _ _ => rfl) : mo_Sim 130 17 (ma_getf 11 5 20)) (mt_leaf (ms_ild (e := (.iload_n 1, 21, 0, 0, 0)) rfl (fun _ _ _ => rfl) : mo_Sim 130 20 (ma_load 0 1 21)) (mt_none))))
set_option maxRecDepth 100000 in
theorem smt130_5 (k : Nat) : ∀ f, mt130_5 k = some f → mo_Sim 130 k f := mt_node (smt130_6 k) (smt130_7 k)
set_option maxRecDepth 100000 in
theorem smt130_1 (k : Nat) : ∀ f, mt130_1 k = some f → mo_Sim 130 k f := mt_node (smt130_2 k) (smt130_5 k)
set_option maxRecDepth 100000 in
theorem smt130_10 (k : Nat) : ∀ f, mt130_10 k = some f → mo_Sim 130 k f := mt_leaf (ms_ald (e := (.aload_n 0, 22, 0, 0, 0)) rfl (fun _ _ _ => rfl) : mo_Sim 130 21 (ma_lda 0 22)) (mt_leaf (ms_getf (e := (.getfield 10, 25, 11, 0, 460)) rfl (fun _ _ _ => rfl) : mo_Sim 130 22 (ma_getf 11 0 25)) (mt_leaf (ms_ald (e := (.aload_n 0, 26, 0, 0, 0)) rfl (fun _ _ _ => rfl) : mo_Sim 130 25 (ma_lda 0 26)) (mt_none)))
set_option maxRecDepth 100000 in
theorem smt130_11 (k : Nat) : ∀ f, mt130_11 k = some f → mo_Sim 130 k f := mt_leaf (ms_getf (e := (.getfield 25, 29, 11, 2, 462)) rfl (fun _ _ _ => rfl) : mo_Sim 130 26 (ma_getf 11 2 29)) (mt_leaf (ms_ald (e := (.aload_n 0, 30, 0, 0, 0)) rfl (fun _ _ _ => rfl) : mo_Sim 130 29 (ma_lda 0 30)) (mt_leaf (ms_getf (e := (.getfield 123, 33, 11, 14, 474)) rfl (fun _ _ _ => rfl) : mo_Sim 130 30 (ma_getf 11 14 33)) (mt_none)))
set_option maxRecDepth 100000 in
theorem smt130_9 (k : Nat) : ∀ f, mt130_9 k = some f → mo_Sim 130 k f := mt_node (smt130_10 k) (smt130_11 k)
set_option maxRecDepth 100000 in
theorem smt130_13 (k : Nat) : ∀ f, mt130_13 k = some f → mo_Sim 130 k f := mt_leaf (ms_ald (e := (.aload_n 0, 34, 0, 0, 0)) rfl (fun _ _ _ => rfl) : mo_Sim 130 33 (ma_lda 0 34)) (mt_leaf (ms_ild (e := (.iload_n 1, 35, 0, 0, 0)) rfl (fun _ _ _ => rfl) : mo_Sim 130 34 (ma_load 0 1 35)) (mt_leaf (ms_invV (p := 1) (e := (.invokevirtual 325, 38, 131, 0, 673)) rfl rfl (fun _ _ _ => rfl) rfl rfl rfl (by decide) : mo_Sim 130 35 (ma_inv 131 2 5 11 38)) (mt_none)))
set_option maxRecDepth 100000 in
theorem smt130_14 (k : Nat) : ∀ f, mt130_14 k = some f → mo_Sim 130 k f := mt_leaf (ms_ald (e := (.aload_n 2, 39, 0, 0, 0)) rfl (fun _ _ _ => rfl) : mo_Sim 130 38 (ma_lda 2 39)) (mt_leaf (ms_invV (p := 6) (e := (.invokevirtual 328, 42, 49, 0, 704)) rfl rfl (fun _ _ _ => rfl) rfl rfl rfl (by decide) : mo_Sim 130 39 (ma_inv 49 7 9 7 42)) (mt_leaf (ms_ald (e := (.aload_n 2, 43, 0, 0, 0)) rfl (fun _ _ _ => rfl) : mo_Sim 130 42 (ma_lda 2 43)) (mt_leaf (ms_ret (e := (.areturn, 44, 0, 0, 0)) rfl (Or.inr (Or.inr (Or.inl ⟨rfl, Or.inl ⟨_, rfl⟩, (fun _ _ _ => rfl)⟩))) : mo_Sim 130 43 (ma_ret 2)) (mt_none))))
set_option maxRecDepth 100000 in
theorem smt130_12 (k : Nat) : ∀ f, mt130_12 k = some f → mo_Sim 130 k f := mt_node (smt130_13 k) (smt130_14 k)
set_option maxRecDepth 100000 in
theorem smt130_8 (k : Nat) : ∀ f, mt130_8 k = some f → mo_Sim 130 k f := mt_node (smt130_9 k) (smt130_12 k)
set_option maxRecDepth 100000 in
theorem smt130_0 (k : Nat) : ∀ f, mt130_0 k = some f → mo_Sim 130 k f := mt_node (smt130_1 k) (smt130_8 k)
set_option maxRecDepth 100000 in
theorem smt131_3 (k : Nat) : ∀ f, mt131_3 k = some f → mo_Sim 131 k f := mt_leaf (ms_ald (e := (.aload_n 0, 1, 0, 0, 0)) rfl (fun _ _ _ => rfl) : mo_Sim 131 0 (ma_lda 0 1)) (mt_leaf (ms_getf (e := (.getfield 10, 4, 11, 0, 460)) rfl (fun _ _ _ => rfl) : mo_Sim 131 1 (ma_getf 11 0 4)) (mt_leaf (ms_ild (e := (.iload_n 1, 5, 0, 0, 0)) rfl (fun _ _ _ => rfl) : mo_Sim 131 4 (ma_load 0 1 5)) (mt_none)))
set_option maxRecDepth 100000 in
theorem smt131_4 (k : Nat) : ∀ f, mt131_4 k = some f → mo_Sim 131 k f := mt_leaf (ms_invV (p := 1) (e := (.invokevirtual 131, 8, 12, 0, 571)) rfl rfl (fun _ _ _ => rfl) rfl rfl rfl (by decide) : mo_Sim 131 5 (ma_inv 12 2 4 1 8)) (mt_leaf (ms_ist (e := (.istore_n 2, 9, 0, 0, 0)) rfl (fun _ _ _ => rfl) : mo_Sim 131 8 (ma_stor 0 2 9)) (mt_leaf (ms_pushi (e := (.iconst 1, 10, 0, 0, 0)) rfl (fun _ _ _ => rfl) (by decide) : mo_Sim 131 9 (ma_push (ma_ci (.ofNat 1)) 10)) (mt_none)))
set_option maxRecDepth 100000 in
theorem smt131_2 (k : Nat) : ∀ f, mt131_2 k = some f → mo_Sim 131 k f := mt_node (smt131_3 k) (smt131_4 k)
set_option maxRecDepth 100000 in
theorem smt131_6 (k : Nat) : ∀ f, mt131_6 k = some f → mo_Sim 131 k f := mt_leaf (ms_ist (e := (.istore_n 3, 11, 0, 0, 0)) rfl (fun _ _ _ => rfl) : mo_Sim 131 10 (ma_stor 0 3 11)) (mt_leaf (ms_pushi (e := (.iconst 0, 12, 0, 0, 0)) rfl (fun _ _ _ => rfl) (by decide) : mo_Sim 131 11 (ma_push (ma_ci (.ofNat 0)) 12)) (mt_leaf (ms_ist (e := (.istore 4, 14, 0, 0, 0)) rfl (fun _ _ _ => rfl) : mo_Sim 131 12 (ma_stor 0 4 14)) (mt_none)))
set_option maxRecDepth 100000 in
theorem smt131_7 (k : Nat) : ∀ f, mt131_7 k = some f → mo_Sim 131 k f := mt_leaf (ms_ild (e := (.iload 4, 16, 0, 0, 0)) rfl (fun _ _ _ => rfl) : mo_Sim 131 14 (ma_load 0 4 16)) (mt_leaf (ms_ild (e := (.iload_n 2, 17, 0, 0, 0)) rfl (fun _ _ _ => rfl) : mo_Sim 131 16 (ma_load 0 2 17)) (mt_leaf (ms_if2 (e := (.if_icmp .ge 29, 20, 46, 0, 0)) rfl (fun _ _ _ => rfl) : mo_Sim 131 17 (ma_if2 .ge 46 17 20)) (mt_leaf (ms_ild (e := (.iload_n 3, 21, 0, 0, 0)) rfl (fun _ _ _ => rfl) : mo_Sim 131 20 (ma_load 0 3 21)) (mt_none))))
set_option maxRecDepth 100000 in
theorem smt131_5 (k : Nat) : ∀ f, mt131_5 k = some f → mo_Sim 131 k f := mt_node (smt131_6 k) (smt131_7 k)
set_option maxRecDepth 100000 in
theorem smt131_1 (k : Nat) : ∀ f, mt131_1 k = some f → mo_Sim 131 k f := mt_node (smt131_2 k) (smt131_5 k)
set_option maxRecDepth 100000 in
theorem smt131_10 (k : Nat) : ∀ f, mt131_10 k = some f → mo_Sim 131 k f := mt_leaf (ms_ald (e := (.aload_n 0, 22, 0, 0, 0)) rfl (fun _ _ _ => rfl) : mo_Sim 131 21 (ma_lda 0 22)) (mt_leaf (ms_ald (e := (.aload_n 0, 23, 0, 0, 0)) rfl (fun _ _ _ => rfl) : mo_Sim 131 22 (ma_lda 0 23)) (mt_leaf (ms_getf (e := (.getfield 10, 26, 11, 0, 460)) rfl (fun _ _ _ => rfl) : mo_Sim 131 23 (ma_getf 11 0 26)) (mt_none)))
set_option maxRecDepth 100000 in
theorem smt131_11 (k : Nat) : ∀ f, mt131_11 k = some f → mo_Sim 131 k f := mt_leaf (ms_ild (e := (.iload 4, 28, 0, 0, 0)) rfl (fun _ _ _ => rfl) : mo_Sim 131 26 (ma_load 0 4 28)) (mt_leaf (ms_ild (e := (.iload_n 1, 29, 0, 0, 0)) rfl (fun _ _ _ => rfl) : mo_Sim 131 28 (ma_load 0 1 29)) (mt_leaf (ms_invV (p := 2) (e := (.invokevirtual 332, 32, 16, 0, 677)) rfl rfl (fun _ _ _ => rfl) rfl rfl rfl (by decide) : mo_Sim 131 29 (ma_inv 16 3 4 1 32)) (mt_leaf (ms_invV (p := 1) (e := (.invokevirtual 233, 35, 136, 0, 681)) rfl rfl (fun _ _ _ => rfl) rfl rfl rfl (by decide) : mo_Sim 131 32 (ma_inv 136 2 4 11 35)) (mt_none))))
set_option maxRecDepth 100000 in
theorem smt131_9 (k : Nat) : ∀ f, mt131_9 k = some f → mo_Sim 131 k f := mt_node (smt131_10 k) (smt131_11 k)
set_option maxRecDepth 100000 in
theorem smt131_13 (k : Nat) : ∀ f, mt131_13 k = some f → mo_Sim 131 k f := mt_leaf (ms_invS (e := (.invokestatic 335, 38, 202, 1, 698)) rfl rfl (fun _ _ _ => rfl) rfl rfl : mo_Sim 131 35 (ma_inv 202 1 1 20 38)) (mt_leaf (ms_i2 (e := (.imul, 39, 0, 0, 0)) rfl (fun _ _ _ => rfl) hf_mul : mo_Sim 131 38 (ma_i2 ma_fmul 38 39)) (mt_leaf (ms_ist (e := (.istore_n 3, 40, 0, 0, 0)) rfl (fun _ _ _ => rfl) : mo_Sim 131 39 (ma_stor 0 3 40)) (mt_none)))
set_option maxRecDepth 100000 in
theorem smt131_14 (k : Nat) : ∀ f, mt131_14 k = some f → mo_Sim 131 k f := mt_leaf (ms_iinc (e := (.iinc 4 1, 43, 0, 0, 0)) rfl (fun _ _ _ => rfl) (by decide) : mo_Sim 131 40 (ma_iinc 4 (.ofNat 1) 40 43)) (mt_leaf (ms_goto (e := (.goto (-29), 46, 14, 0, 0)) rfl (fun _ _ _ => rfl) : mo_Sim 131 43 (ma_goto 14)) (mt_leaf (ms_ild (e := (.iload_n 3, 47, 0, 0, 0)) rfl (fun _ _ _ => rfl) : mo_Sim 131 46 (ma_load 0 3 47)) (mt_leaf (ms_ret (e := (.ireturn, 48, 0, 0, 0)) rfl (Or.inl ⟨rfl, rfl, (fun _ _ _ => rfl)⟩) : mo_Sim 131 47 (ma_ret 0)) (mt_none))))
set_option maxRecDepth 100000 in
theorem smt131_12 (k : Nat) : ∀ f, mt131_12 k = some f → mo_Sim 131 k f := mt_node (smt131_13 k) (smt131_14 k)
set_option maxRecDepth 100000 in
theorem smt131_8 (k : Nat) : ∀ f, mt131_8 k = some f → mo_Sim 131 k f := mt_node (smt131_9 k) (smt131_12 k)
set_option maxRecDepth 100000 in
theorem smt131_0 (k : Nat) : ∀ f, mt131_0 k = some f → mo_Sim 131 k f := mt_node (smt131_1 k) (smt131_8 k)
set_option maxRecDepth 100000 in
theorem smt132_4 (k : Nat) : ∀ f, mt132_4 k = some f → mo_Sim 132 k f := mt_leaf (ms_ild (e := (.iload_n 1, 1, 0, 0, 0)) rfl (fun _ _ _ => rfl) : mo_Sim 132 0 (ma_load 0 1 1)) (mt_leaf (ms_pushi (e := (.iconst 1, 2, 0, 0, 0)) rfl (fun _ _ _ => rfl) (by decide) : mo_Sim 132 1 (ma_push (ma_ci (.ofNat 1)) 2)) (mt_leaf (ms_ald (e := (.aload_n 0, 3, 0, 0, 0)) rfl (fun _ _ _ => rfl) : mo_Sim 132 2 (ma_lda 0 3)) (mt_none)))
set_option maxRecDepth 100000 in
theorem smt132_5 (k : Nat) : ∀ f, mt132_5 k = some f → mo_Sim 132 k f := mt_leaf (ms_getf (e := (.getfield 149, 6, 11, 15, 475)) rfl (fun _ _ _ => rfl) : mo_Sim 132 3 (ma_getf 11 15 6)) (mt_leaf (ms_i2 (e := (.ishl, 7, 0, 0, 0)) rfl (fun _ _ _ => rfl) hf_shl : mo_Sim 132 6 (ma_i2 ma_fshl 6 7)) (mt_leaf (ms_pushi (e := (.iconst 1, 8, 0, 0, 0)) rfl (fun _ _ _ => rfl) (by decide) : mo_Sim 132 7 (ma_push (ma_ci (.ofNat 1)) 8)) (mt_none)))
set_option maxRecDepth 100000 in
theorem smt132_3 (k : Nat) : ∀ f, mt132_3 k = some f → mo_Sim 132 k f := mt_node (smt132_4 k) (smt132_5 k)
set_option maxRecDepth 100000 in
theorem smt132_7 (k : Nat) : ∀ f, mt132_7 k = some f → mo_Sim 132 k f := mt_leaf (ms_isub (e := (.isub, 9, 0, 0, 0)) rfl (fun _ _ _ => rfl) : mo_Sim 132 8 (ma_isub 8 9)) (mt_leaf (ms_iand (e := (.iand, 10, 0, 0, 0)) rfl (fun _ _ _ => rfl) : mo_Sim 132 9 (ma_iand 9 10)) (mt_leaf (ms_ist (e := (.istore_n 3, 11, 0, 0, 0)) rfl (fun _ _ _ => rfl) : mo_Sim 132 10 (ma_stor 0 3 11)) (mt_none)))
set_option maxRecDepth 100000 in
theorem smt132_8 (k : Nat) : ∀ f, mt132_8 k = some f → mo_Sim 132 k f := mt_leaf (ms_ald (e := (.aload_n 0, 12, 0, 0, 0)) rfl (fun _ _ _ => rfl) : mo_Sim 132 11 (ma_lda 0 12)) (mt_leaf (ms_getf (e := (.getfield 318, 15, 11, 17, 477)) rfl (fun _ _ _ => rfl) : mo_Sim 132 12 (ma_getf 11 17 15)) (mt_leaf (ms_ild (e := (.iload_n 2, 16, 0, 0, 0)) rfl (fun _ _ _ => rfl) : mo_Sim 132 15 (ma_load 0 2 16)) (mt_none)))
set_option maxRecDepth 100000 in
theorem smt132_6 (k : Nat) : ∀ f, mt132_6 k = some f → mo_Sim 132 k f := mt_node (smt132_7 k) (smt132_8 k)
set_option maxRecDepth 100000 in
theorem smt132_2 (k : Nat) : ∀ f, mt132_2 k = some f → mo_Sim 132 k f := mt_node (smt132_3 k) (smt132_6 k)
set_option maxRecDepth 100000 in
theorem smt132_11 (k : Nat) : ∀ f, mt132_11 k = some f → mo_Sim 132 k f := mt_leaf (ms_if2 (e := (.if_icmp .ne 12, 19, 28, 0, 0)) rfl (fun _ _ _ => rfl) : mo_Sim 132 16 (ma_if2 .ne 28 16 19)) (mt_leaf (ms_ald (e := (.aload_n 0, 20, 0, 0, 0)) rfl (fun _ _ _ => rfl) : mo_Sim 132 19 (ma_lda 0 20)) (mt_leaf (ms_getf (e := (.getfield 340, 23, 11, 16, 476)) rfl (fun _ _ _ => rfl) : mo_Sim 132 20 (ma_getf 11 16 23)) (mt_none)))
set_option maxRecDepth 100000 in
theorem smt132_12 (k : Nat) : ∀ f, mt132_12 k = some f → mo_Sim 132 k f := mt_leaf (ms_ild (e := (.iload_n 3, 24, 0, 0, 0)) rfl (fun _ _ _ => rfl) : mo_Sim 132 23 (ma_load 0 3 24)) (mt_leaf (ms_if2 (e := (.if_icmp .ne 4, 27, 28, 0, 0)) rfl (fun _ _ _ => rfl) : mo_Sim 132 24 (ma_if2 .ne 28 24 27)) (mt_leaf (ms_retv (e := (.return_, 28, 0, 0, 0)) rfl rfl (fun _ _ _ => rfl) : mo_Sim 132 27 (ma_retv)) (mt_none)))
set_option maxRecDepth 100000 in
theorem smt132_10 (k : Nat) : ∀ f, mt132_10 k = some f → mo_Sim 132 k f := mt_node (smt132_11 k) (smt132_12 k)
set_option maxRecDepth 100000 in
theorem smt132_14 (k : Nat) : ∀ f, mt132_14 k = some f → mo_Sim 132 k f := mt_leaf (ms_ald (e := (.aload_n 0, 29, 0, 0, 0)) rfl (fun _ _ _ => rfl) : mo_Sim 132 28 (ma_lda 0 29)) (mt_leaf (ms_getf (e := (.getfield 65, 32, 11, 8, 468)) rfl (fun _ _ _ => rfl) : mo_Sim 132 29 (ma_getf 11 8 32)) (mt_leaf (ms_ild (e := (.iload_n 2, 33, 0, 0, 0)) rfl (fun _ _ _ => rfl) : mo_Sim 132 32 (ma_load 0 2 33)) (mt_none)))
set_option maxRecDepth 100000 in
theorem smt132_15 (k : Nat) : ∀ f, mt132_15 k = some f → mo_Sim 132 k f := mt_leaf (ms_ald (e := (.aload_n 0, 34, 0, 0, 0)) rfl (fun _ _ _ => rfl) : mo_Sim 132 33 (ma_lda 0 34)) (mt_leaf (ms_getf (e := (.getfield 10, 37, 11, 0, 460)) rfl (fun _ _ _ => rfl) : mo_Sim 132 34 (ma_getf 11 0 37)) (mt_leaf (ms_invV (p := 2) (e := (.invokevirtual 343, 40, 20, 0, 797)) rfl rfl (fun _ _ _ => rfl) rfl rfl rfl (by decide) : mo_Sim 132 37 (ma_inv 20 3 4 2 40)) (mt_leaf (ms_ald (e := (.aload_n 0, 41, 0, 0, 0)) rfl (fun _ _ _ => rfl) : mo_Sim 132 40 (ma_lda 0 41)) (mt_none))))
set_option maxRecDepth 100000 in
theorem smt132_13 (k : Nat) : ∀ f, mt132_13 k = some f → mo_Sim 132 k f := mt_node (smt132_14 k) (smt132_15 k)
set_option maxRecDepth 100000 in
theorem smt132_9 (k : Nat) : ∀ f, mt132_9 k = some f → mo_Sim 132 k f := mt_node (smt132_10 k) (smt132_13 k)
set_option maxRecDepth 100000 in
theorem smt132_1 (k : Nat) : ∀ f, mt132_1 k = some f → mo_Sim 132 k f := mt_node (smt132_2 k) (smt132_9 k)
set_option maxRecDepth 100000 in
theorem smt132_19 (k : Nat) : ∀ f, mt132_19 k = some f → mo_Sim 132 k f := mt_leaf (ms_getf (e := (.getfield 58, 44, 11, 7, 467)) rfl (fun _ _ _ => rfl) : mo_Sim 132 41 (ma_getf 11 7 44)) (mt_leaf (ms_ald (e := (.aload_n 0, 45, 0, 0, 0)) rfl (fun _ _ _ => rfl) : mo_Sim 132 44 (ma_lda 0 45)) (mt_leaf (ms_getf (e := (.getfield 10, 48, 11, 0, 460)) rfl (fun _ _ _ => rfl) : mo_Sim 132 45 (ma_getf 11 0 48)) (mt_none)))
set_option maxRecDepth 100000 in
theorem smt132_20 (k : Nat) : ∀ f, mt132_20 k = some f → mo_Sim 132 k f := mt_leaf (ms_getf (e := (.getfield 135, 51, 1, 0, 112)) rfl (fun _ _ _ => rfl) : mo_Sim 132 48 (ma_getf 1 0 51)) (mt_leaf (ms_ald (e := (.aload_n 0, 52, 0, 0, 0)) rfl (fun _ _ _ => rfl) : mo_Sim 132 51 (ma_lda 0 52)) (mt_leaf (ms_getf (e := (.getfield 65, 55, 11, 8, 468)) rfl (fun _ _ _ => rfl) : mo_Sim 132 52 (ma_getf 11 8 55)) (mt_none)))
set_option maxRecDepth 100000 in
theorem smt132_18 (k : Nat) : ∀ f, mt132_18 k = some f → mo_Sim 132 k f := mt_node (smt132_19 k) (smt132_20 k)
set_option maxRecDepth 100000 in
theorem smt132_22 (k : Nat) : ∀ f, mt132_22 k = some f → mo_Sim 132 k f := mt_leaf (ms_getf (e := (.getfield 280, 58, 2, 2, 319)) rfl (fun _ _ _ => rfl) : mo_Sim 132 55 (ma_getf 2 2 58)) (mt_leaf (ms_invV (p := 2) (e := (.invokevirtual 283, 61, 64, 0, 810)) rfl rfl (fun _ _ _ => rfl) rfl rfl rfl (by decide) : mo_Sim 132 58 (ma_inv 64 3 3 8 61)) (mt_leaf (ms_ald (e := (.aload_n 0, 62, 0, 0, 0)) rfl (fun _ _ _ => rfl) : mo_Sim 132 61 (ma_lda 0 62)) (mt_none)))
set_option maxRecDepth 100000 in
theorem smt132_23 (k : Nat) : ∀ f, mt132_23 k = some f → mo_Sim 132 k f := mt_leaf (ms_ild (e := (.iload_n 3, 63, 0, 0, 0)) rfl (fun _ _ _ => rfl) : mo_Sim 132 62 (ma_load 0 3 63)) (mt_leaf (ms_invV (p := 1) (e := (.invokevirtual 288, 66, 133, 0, 816)) rfl rfl (fun _ _ _ => rfl) rfl rfl rfl (by decide) : mo_Sim 132 63 (ma_inv 133 2 3 11 66)) (mt_leaf (ms_ald (e := (.aload_n 0, 67, 0, 0, 0)) rfl (fun _ _ _ => rfl) : mo_Sim 132 66 (ma_lda 0 67)) (mt_leaf (ms_getf (e := (.getfield 58, 70, 11, 7, 467)) rfl (fun _ _ _ => rfl) : mo_Sim 132 67 (ma_getf 11 7 70)) (mt_none))))
set_option maxRecDepth 100000 in
theorem smt132_21 (k : Nat) : ∀ f, mt132_21 k = some f → mo_Sim 132 k f := mt_node (smt132_22 k) (smt132_23 k)
set_option maxRecDepth 100000 in
theorem smt132_17 (k : Nat) : ∀ f, mt132_17 k = some f → mo_Sim 132 k f := mt_node (smt132_18 k) (smt132_21 k)
set_option maxRecDepth 100000 in
theorem smt132_26 (k : Nat) : ∀ f, mt132_26 k = some f → mo_Sim 132 k f := mt_leaf (ms_invV (p := 0) (e := (.invokevirtual 291, 73, 67, 0, 837)) rfl rfl (fun _ _ _ => rfl) rfl rfl rfl (by decide) : mo_Sim 132 70 (ma_inv 67 1 8 8 73)) (mt_leaf (ms_ald (e := (.aload_n 0, 74, 0, 0, 0)) rfl (fun _ _ _ => rfl) : mo_Sim 132 73 (ma_lda 0 74)) (mt_leaf (ms_getf (e := (.getfield 58, 77, 11, 7, 467)) rfl (fun _ _ _ => rfl) : mo_Sim 132 74 (ma_getf 11 7 77)) (mt_none)))
set_option maxRecDepth 100000 in
theorem smt132_27 (k : Nat) : ∀ f, mt132_27 k = some f → mo_Sim 132 k f := mt_leaf (ms_ald (e := (.aload_n 0, 78, 0, 0, 0)) rfl (fun _ _ _ => rfl) : mo_Sim 132 77 (ma_lda 0 78)) (mt_leaf (ms_getf (e := (.getfield 74, 81, 11, 9, 469)) rfl (fun _ _ _ => rfl) : mo_Sim 132 78 (ma_getf 11 9 81)) (mt_leaf (ms_invV (p := 1) (e := (.invokevirtual 347, 84, 68, 0, 841)) rfl rfl (fun _ _ _ => rfl) rfl rfl rfl (by decide) : mo_Sim 132 81 (ma_inv 68 2 2 8 84)) (mt_none)))
set_option maxRecDepth 100000 in
theorem smt132_25 (k : Nat) : ∀ f, mt132_25 k = some f → mo_Sim 132 k f := mt_node (smt132_26 k) (smt132_27 k)
set_option maxRecDepth 100000 in
theorem smt132_29 (k : Nat) : ∀ f, mt132_29 k = some f → mo_Sim 132 k f := mt_leaf (ms_ald (e := (.aload_n 0, 85, 0, 0, 0)) rfl (fun _ _ _ => rfl) : mo_Sim 132 84 (ma_lda 0 85)) (mt_leaf (ms_ild (e := (.iload_n 2, 86, 0, 0, 0)) rfl (fun _ _ _ => rfl) : mo_Sim 132 85 (ma_load 0 2 86)) (mt_leaf (ms_putf (e := (.putfield 318, 89, 11, 17, 477)) rfl rfl (fun _ _ _ => rfl) (Or.inl ⟨rfl, rfl⟩) : mo_Sim 132 86 (ma_putf 11 17 0 89)) (mt_none)))
set_option maxRecDepth 100000 in
theorem smt132_30 (k : Nat) : ∀ f, mt132_30 k = some f → mo_Sim 132 k f := mt_leaf (ms_ald (e := (.aload_n 0, 90, 0, 0, 0)) rfl (fun _ _ _ => rfl) : mo_Sim 132 89 (ma_lda 0 90)) (mt_leaf (ms_ild (e := (.iload_n 3, 91, 0, 0, 0)) rfl (fun _ _ _ => rfl) : mo_Sim 132 90 (ma_load 0 3 91)) (mt_leaf (ms_putf (e := (.putfield 340, 94, 11, 16, 476)) rfl rfl (fun _ _ _ => rfl) (Or.inl ⟨rfl, rfl⟩) : mo_Sim 132 91 (ma_putf 11 16 0 94)) (mt_leaf (ms_retv (e := (.return_, 95, 0, 0, 0)) rfl rfl (fun _ _ _ => rfl) : mo_Sim 132 94 (ma_retv)) (mt_none))))
set_option maxRecDepth 100000 in
theorem smt132_28 (k : Nat) : ∀ f, mt132_28 k = some f → mo_Sim 132 k f := mt_node (smt132_29 k) (smt132_30 k)
set_option maxRecDepth 100000 in
theorem smt132_24 (k : Nat) : ∀ f, mt132_24 k = some f → mo_Sim 132 k f := mt_node (smt132_25 k) (smt132_28 k)
set_option maxRecDepth 100000 in
theorem smt132_16 (k : Nat) : ∀ f, mt132_16 k = some f → mo_Sim 132 k f := mt_node (smt132_17 k) (smt132_24 k)
set_option maxRecDepth 100000 in
theorem smt132_0 (k : Nat) : ∀ f, mt132_0 k = some f → mo_Sim 132 k f := mt_node (smt132_1 k) (smt132_16 k)
set_option maxRecDepth 100000 in
theorem smt133_3 (k : Nat) : ∀ f, mt133_3 k = some f → mo_Sim 133 k f := mt_leaf (ms_pushi (e := (.iconst 0, 1, 0, 0, 0)) rfl (fun _ _ _ => rfl) (by decide) : mo_Sim 133 0 (ma_push (ma_ci (.ofNat 0)) 1)) (mt_leaf (ms_ist (e := (.istore_n 2, 2, 0, 0, 0)) rfl (fun _ _ _ => rfl) : mo_Sim 133 1 (ma_stor 0 2 2)) (mt_leaf (ms_ild (e := (.iload_n 2, 3, 0, 0, 0)) rfl (fun _ _ _ => rfl) : mo_Sim 133 2 (ma_load 0 2 3)) (mt_none)))
set_option maxRecDepth 100000 in
theorem smt133_4 (k : Nat) : ∀ f, mt133_4 k = some f → mo_Sim 133 k f := mt_leaf (ms_ald (e := (.aload_n 0, 4, 0, 0, 0)) rfl (fun _ _ _ => rfl) : mo_Sim 133 3 (ma_lda 0 4)) (mt_leaf (ms_getf (e := (.getfield 149, 7, 11, 15, 475)) rfl (fun _ _ _ => rfl) : mo_Sim 133 4 (ma_getf 11 15 7)) (mt_leaf (ms_if2 (e := (.if_icmp .ge 38, 10, 45, 0, 0)) rfl (fun _ _ _ => rfl) : mo_Sim 133 7 (ma_if2 .ge 45 7 10)) (mt_none)))
set_option maxRecDepth 100000 in
theorem smt133_2 (k : Nat) : ∀ f, mt133_2 k = some f → mo_Sim 133 k f := mt_node (smt133_3 k) (smt133_4 k)
set_option maxRecDepth 100000 in
theorem smt133_6 (k : Nat) : ∀ f, mt133_6 k = some f → mo_Sim 133 k f := mt_leaf (ms_ild (e := (.iload_n 1, 11, 0, 0, 0)) rfl (fun _ _ _ => rfl) : mo_Sim 133 10 (ma_load 0 1 11)) (mt_leaf (ms_ild (e := (.iload_n 2, 12, 0, 0, 0)) rfl (fun _ _ _ => rfl) : mo_Sim 133 11 (ma_load 0 2 12)) (mt_leaf (ms_i2 (e := (.ishr, 13, 0, 0, 0)) rfl (fun _ _ _ => rfl) hf_shr : mo_Sim 133 12 (ma_i2 ma_fshr 12 13)) (mt_none)))
set_option maxRecDepth 100000 in
theorem smt133_7 (k : Nat) : ∀ f, mt133_7 k = some f → mo_Sim 133 k f := mt_leaf (ms_pushi (e := (.iconst 1, 14, 0, 0, 0)) rfl (fun _ _ _ => rfl) (by decide) : mo_Sim 133 13 (ma_push (ma_ci (.ofNat 1)) 14)) (mt_leaf (ms_iand (e := (.iand, 15, 0, 0, 0)) rfl (fun _ _ _ => rfl) : mo_Sim 133 14 (ma_iand 14 15)) (mt_leaf (ms_if0 (e := (.ifCond .eq 24, 18, 39, 0, 0)) rfl (fun _ _ _ => rfl) : mo_Sim 133 15 (ma_if0 .eq 39 15 18)) (mt_leaf (ms_ald (e := (.aload_n 0, 19, 0, 0, 0)) rfl (fun _ _ _ => rfl) : mo_Sim 133 18 (ma_lda 0 19)) (mt_none))))
set_option maxRecDepth 100000 in
theorem smt133_5 (k : Nat) : ∀ f, mt133_5 k = some f → mo_Sim 133 k f := mt_node (smt133_6 k) (smt133_7 k)
set_option maxRecDepth 100000 in
theorem smt133_1 (k : Nat) : ∀ f, mt133_1 k = some f → mo_Sim 133 k f := mt_node (smt133_2 k) (smt133_5 k)
set_option maxRecDepth 100000 in
theorem smt133_10 (k : Nat) : ∀ f, mt133_10 k = some f → mo_Sim 133 k f := mt_leaf (ms_getf (e := (.getfield 58, 22, 11, 7, 467)) rfl (fun _ _ _ => rfl) : mo_Sim 133 19 (ma_getf 11 7 22)) (mt_leaf (ms_ald (e := (.aload_n 0, 23, 0, 0, 0)) rfl (fun _ _ _ => rfl) : mo_Sim 133 22 (ma_lda 0 23)) (mt_leaf (ms_getf (e := (.getfield 65, 26, 11, 8, 468)) rfl (fun _ _ _ => rfl) : mo_Sim 133 23 (ma_getf 11 8 26)) (mt_none)))
set_option maxRecDepth 100000 in
theorem smt133_11 (k : Nat) : ∀ f, mt133_11 k = some f → mo_Sim 133 k f := mt_leaf (ms_ald (e := (.aload_n 0, 27, 0, 0, 0)) rfl (fun _ _ _ => rfl) : mo_Sim 133 26 (ma_lda 0 27)) (mt_leaf (ms_getf (e := (.getfield 31, 30, 11, 3, 463)) rfl (fun _ _ _ => rfl) : mo_Sim 133 27 (ma_getf 11 3 30)) (mt_leaf (ms_ild (e := (.iload_n 2, 31, 0, 0, 0)) rfl (fun _ _ _ => rfl) : mo_Sim 133 30 (ma_load 0 2 31)) (mt_none)))
set_option maxRecDepth 100000 in
theorem smt133_9 (k : Nat) : ∀ f, mt133_9 k = some f → mo_Sim 133 k f := mt_node (smt133_10 k) (smt133_11 k)
set_option maxRecDepth 100000 in
theorem smt133_13 (k : Nat) : ∀ f, mt133_13 k = some f → mo_Sim 133 k f := mt_leaf (ms_aald (e := (.aaload, 32, 0, 0, 0)) rfl (fun _ _ _ => rfl) : mo_Sim 133 31 (ma_aald 31 32)) (mt_leaf (ms_ald (e := (.aload_n 0, 33, 0, 0, 0)) rfl (fun _ _ _ => rfl) : mo_Sim 133 32 (ma_lda 0 33)) (mt_leaf (ms_getf (e := (.getfield 10, 36, 11, 0, 460)) rfl (fun _ _ _ => rfl) : mo_Sim 133 33 (ma_getf 11 0 36)) (mt_none)))
set_option maxRecDepth 100000 in
theorem smt133_14 (k : Nat) : ∀ f, mt133_14 k = some f → mo_Sim 133 k f := mt_leaf (ms_invV (p := 3) (e := (.invokevirtual 351, 39, 66, 0, 820)) rfl rfl (fun _ _ _ => rfl) rfl rfl rfl (by decide) : mo_Sim 133 36 (ma_inv 66 4 12 8 39)) (mt_leaf (ms_iinc (e := (.iinc 2 1, 42, 0, 0, 0)) rfl (fun _ _ _ => rfl) (by decide) : mo_Sim 133 39 (ma_iinc 2 (.ofNat 1) 39 42)) (mt_leaf (ms_goto (e := (.goto (-40), 45, 2, 0, 0)) rfl (fun _ _ _ => rfl) : mo_Sim 133 42 (ma_goto 2)) (mt_leaf (ms_retv (e := (.return_, 46, 0, 0, 0)) rfl rfl (fun _ _ _ => rfl) : mo_Sim 133 45 (ma_retv)) (mt_none))))
set_option maxRecDepth 100000 in
theorem smt133_12 (k : Nat) : ∀ f, mt133_12 k = some f → mo_Sim 133 k f := mt_node (smt133_13 k) (smt133_14 k)
set_option maxRecDepth 100000 in
theorem smt133_8 (k : Nat) : ∀ f, mt133_8 k = some f → mo_Sim 133 k f := mt_node (smt133_9 k) (smt133_12 k)
set_option maxRecDepth 100000 in
theorem smt133_0 (k : Nat) : ∀ f, mt133_0 k = some f → mo_Sim 133 k f := mt_node (smt133_1 k) (smt133_8 k)
set_option maxRecDepth 100000 in
theorem smt134_4 (k : Nat) : ∀ f, mt134_4 k = some f → mo_Sim 134 k f := mt_leaf (ms_ald (e := (.aload_n 0, 1, 0, 0, 0)) rfl (fun _ _ _ => rfl) : mo_Sim 134 0 (ma_lda 0 1)) (mt_leaf (ms_getf (e := (.getfield 249, 4, 11, 18, 478)) rfl (fun _ _ _ => rfl) : mo_Sim 134 1 (ma_getf 11 18 4)) (mt_leaf (ms_if0 (e := (.ifCond .eq 4, 7, 8, 0, 0)) rfl (fun _ _ _ => rfl) : mo_Sim 134 4 (ma_if0 .eq 8 4 7)) (mt_none)))
set_option maxRecDepth 100000 in
theorem smt134_5 (k : Nat) : ∀ f, mt134_5 k = some f → mo_Sim 134 k f := mt_leaf (ms_retv (e := (.return_, 8, 0, 0, 0)) rfl rfl (fun _ _ _ => rfl) : mo_Sim 134 7 (ma_retv)) (mt_leaf (ms_ald (e := (.aload_n 0, 9, 0, 0, 0)) rfl (fun _ _ _ => rfl) : mo_Sim 134 8 (ma_lda 0 9)) (mt_leaf (ms_getf (e := (.getfield 58, 12, 11, 7, 467)) rfl (fun _ _ _ => rfl) : mo_Sim 134 9 (ma_getf 11 7 12)) (mt_leaf (ms_ald (e := (.aload_n 0, 13, 0, 0, 0)) rfl (fun _ _ _ => rfl) : mo_Sim 134 12 (ma_lda 0 13)) (mt_none))))
set_option maxRecDepth 100000 in
theorem smt134_3 (k : Nat) : ∀ f, mt134_3 k = some f → mo_Sim 134 k f := mt_node (smt134_4 k) (smt134_5 k)
set_option maxRecDepth 100000 in
theorem smt134_7 (k : Nat) : ∀ f, mt134_7 k = some f → mo_Sim 134 k f := mt_leaf (ms_getf (e := (.getfield 10, 16, 11, 0, 460)) rfl (fun _ _ _ => rfl) : mo_Sim 134 13 (ma_getf 11 0 16)) (mt_leaf (ms_getf (e := (.getfield 135, 19, 1, 0, 112)) rfl (fun _ _ _ => rfl) : mo_Sim 134 16 (ma_getf 1 0 19)) (mt_leaf (ms_ald (e := (.aload_n 0, 20, 0, 0, 0)) rfl (fun _ _ _ => rfl) : mo_Sim 134 19 (ma_lda 0 20)) (mt_leaf (ms_getf (e := (.getfield 51, 23, 11, 6, 466)) rfl (fun _ _ _ => rfl) : mo_Sim 134 20 (ma_getf 11 6 23)) (mt_none))))
set_option maxRecDepth 100000 in
theorem smt134_8 (k : Nat) : ∀ f, mt134_8 k = some f → mo_Sim 134 k f := mt_leaf (ms_getf (e := (.getfield 307, 26, 9, 0, 248)) rfl (fun _ _ _ => rfl) : mo_Sim 134 23 (ma_getf 9 0 26)) (mt_leaf (ms_invV (p := 2) (e := (.invokevirtual 283, 29, 64, 0, 810)) rfl rfl (fun _ _ _ => rfl) rfl rfl rfl (by decide) : mo_Sim 134 26 (ma_inv 64 3 3 8 29)) (mt_leaf (ms_pushi (e := (.iconst 0, 30, 0, 0, 0)) rfl (fun _ _ _ => rfl) (by decide) : mo_Sim 134 29 (ma_push (ma_ci (.ofNat 0)) 30)) (mt_leaf (ms_ist (e := (.istore_n 1, 31, 0, 0, 0)) rfl (fun _ _ _ => rfl) : mo_Sim 134 30 (ma_stor 0 1 31)) (mt_none))))
set_option maxRecDepth 100000 in
theorem smt134_6 (k : Nat) : ∀ f, mt134_6 k = some f → mo_Sim 134 k f := mt_node (smt134_7 k) (smt134_8 k)
set_option maxRecDepth 100000 in
theorem smt134_2 (k : Nat) : ∀ f, mt134_2 k = some f → mo_Sim 134 k f := mt_node (smt134_3 k) (smt134_6 k)
set_option maxRecDepth 100000 in
theorem smt134_11 (k : Nat) : ∀ f, mt134_11 k = some f → mo_Sim 134 k f := mt_leaf (ms_ild (e := (.iload_n 1, 32, 0, 0, 0)) rfl (fun _ _ _ => rfl) : mo_Sim 134 31 (ma_load 0 1 32)) (mt_leaf (ms_ald (e := (.aload_n 0, 33, 0, 0, 0)) rfl (fun _ _ _ => rfl) : mo_Sim 134 32 (ma_lda 0 33)) (mt_leaf (ms_getf (e := (.getfield 51, 36, 11, 6, 466)) rfl (fun _ _ _ => rfl) : mo_Sim 134 33 (ma_getf 11 6 36)) (mt_none)))
set_option maxRecDepth 100000 in
theorem smt134_12 (k : Nat) : ∀ f, mt134_12 k = some f → mo_Sim 134 k f := mt_leaf (ms_getf (e := (.getfield 255, 39, 9, 1, 250)) rfl (fun _ _ _ => rfl) : mo_Sim 134 36 (ma_getf 9 1 39)) (mt_leaf (ms_if2 (e := (.if_icmp .ge 60, 42, 99, 0, 0)) rfl (fun _ _ _ => rfl) : mo_Sim 134 39 (ma_if2 .ge 99 39 42)) (mt_leaf (ms_ald (e := (.aload_n 0, 43, 0, 0, 0)) rfl (fun _ _ _ => rfl) : mo_Sim 134 42 (ma_lda 0 43)) (mt_leaf (ms_getf (e := (.getfield 58, 46, 11, 7, 467)) rfl (fun _ _ _ => rfl) : mo_Sim 134 43 (ma_getf 11 7 46)) (mt_none))))
set_option maxRecDepth 100000 in
theorem smt134_10 (k : Nat) : ∀ f, mt134_10 k = some f → mo_Sim 134 k f := mt_node (smt134_11 k) (smt134_12 k)
set_option maxRecDepth 100000 in
theorem smt134_14 (k : Nat) : ∀ f, mt134_14 k = some f → mo_Sim 134 k f := mt_leaf (ms_ald (e := (.aload_n 0, 47, 0, 0, 0)) rfl (fun _ _ _ => rfl) : mo_Sim 134 46 (ma_lda 0 47)) (mt_leaf (ms_getf (e := (.getfield 51, 50, 11, 6, 466)) rfl (fun _ _ _ => rfl) : mo_Sim 134 47 (ma_getf 11 6 50)) (mt_leaf (ms_getf (e := (.getfield 355, 53, 9, 3, 254)) rfl (fun _ _ _ => rfl) : mo_Sim 134 50 (ma_getf 9 3 53)) (mt_leaf (ms_ild (e := (.iload_n 1, 54, 0, 0, 0)) rfl (fun _ _ _ => rfl) : mo_Sim 134 53 (ma_load 0 1 54)) (mt_none))))
set_option maxRecDepth 100000 in
theorem smt134_15 (k : Nat) : ∀ f, mt134_15 k = some f → mo_Sim 134 k f := mt_leaf (ms_iald (e := (.iaload, 55, 0, 0, 0)) rfl (fun _ _ _ => rfl) : mo_Sim 134 54 (ma_iald 54 55)) (mt_leaf (ms_ald (e := (.aload_n 0, 56, 0, 0, 0)) rfl (fun _ _ _ => rfl) : mo_Sim 134 55 (ma_lda 0 56)) (mt_leaf (ms_getf (e := (.getfield 51, 59, 11, 6, 466)) rfl (fun _ _ _ => rfl) : mo_Sim 134 56 (ma_getf 11 6 59)) (mt_leaf (ms_getf (e := (.getfield 358, 62, 9, 4, 256)) rfl (fun _ _ _ => rfl) : mo_Sim 134 59 (ma_getf 9 4 62)) (mt_none))))
set_option maxRecDepth 100000 in
theorem smt134_13 (k : Nat) : ∀ f, mt134_13 k = some f → mo_Sim 134 k f := mt_node (smt134_14 k) (smt134_15 k)
set_option maxRecDepth 100000 in
theorem smt134_9 (k : Nat) : ∀ f, mt134_9 k = some f → mo_Sim 134 k f := mt_node (smt134_10 k) (smt134_13 k)
set_option maxRecDepth 100000 in
theorem smt134_1 (k : Nat) : ∀ f, mt134_1 k = some f → mo_Sim 134 k f := mt_node (smt134_2 k) (smt134_9 k)
set_option maxRecDepth 100000 in
theorem smt134_19 (k : Nat) : ∀ f, mt134_19 k = some f → mo_Sim 134 k f := mt_leaf (ms_ild (e := (.iload_n 1, 63, 0, 0, 0)) rfl (fun _ _ _ => rfl) : mo_Sim 134 62 (ma_load 0 1 63)) (mt_leaf (ms_iald (e := (.iaload, 64, 0, 0, 0)) rfl (fun _ _ _ => rfl) : mo_Sim 134 63 (ma_iald 63 64)) (mt_leaf (ms_ald (e := (.aload_n 0, 65, 0, 0, 0)) rfl (fun _ _ _ => rfl) : mo_Sim 134 64 (ma_lda 0 65)) (mt_none)))
set_option maxRecDepth 100000 in
theorem smt134_20 (k : Nat) : ∀ f, mt134_20 k = some f → mo_Sim 134 k f := mt_leaf (ms_getf (e := (.getfield 51, 68, 11, 6, 466)) rfl (fun _ _ _ => rfl) : mo_Sim 134 65 (ma_getf 11 6 68)) (mt_leaf (ms_getf (e := (.getfield 361, 71, 9, 5, 258)) rfl (fun _ _ _ => rfl) : mo_Sim 134 68 (ma_getf 9 5 71)) (mt_leaf (ms_ild (e := (.iload_n 1, 72, 0, 0, 0)) rfl (fun _ _ _ => rfl) : mo_Sim 134 71 (ma_load 0 1 72)) (mt_leaf (ms_iald (e := (.iaload, 73, 0, 0, 0)) rfl (fun _ _ _ => rfl) : mo_Sim 134 72 (ma_iald 72 73)) (mt_none))))
set_option maxRecDepth 100000 in
theorem smt134_18 (k : Nat) : ∀ f, mt134_18 k = some f → mo_Sim 134 k f := mt_node (smt134_19 k) (smt134_20 k)
set_option maxRecDepth 100000 in
theorem smt134_22 (k : Nat) : ∀ f, mt134_22 k = some f → mo_Sim 134 k f := mt_leaf (ms_ald (e := (.aload_n 0, 74, 0, 0, 0)) rfl (fun _ _ _ => rfl) : mo_Sim 134 73 (ma_lda 0 74)) (mt_leaf (ms_getf (e := (.getfield 31, 77, 11, 3, 463)) rfl (fun _ _ _ => rfl) : mo_Sim 134 74 (ma_getf 11 3 77)) (mt_leaf (ms_ald (e := (.aload_n 0, 78, 0, 0, 0)) rfl (fun _ _ _ => rfl) : mo_Sim 134 77 (ma_lda 0 78)) (mt_leaf (ms_getf (e := (.getfield 51, 81, 11, 6, 466)) rfl (fun _ _ _ => rfl) : mo_Sim 134 78 (ma_getf 11 6 81)) (mt_none))))
set_option maxRecDepth 100000 in
theorem smt134_23 (k : Nat) : ∀ f, mt134_23 k = some f → mo_Sim 134 k f := mt_leaf (ms_getf (e := (.getfield 364, 84, 9, 2, 252)) rfl (fun _ _ _ => rfl) : mo_Sim 134 81 (ma_getf 9 2 84)) (mt_leaf (ms_ild (e := (.iload_n 1, 85, 0, 0, 0)) rfl (fun _ _ _ => rfl) : mo_Sim 134 84 (ma_load 0 1 85)) (mt_leaf (ms_iald (e := (.iaload, 86, 0, 0, 0)) rfl (fun _ _ _ => rfl) : mo_Sim 134 85 (ma_iald 85 86)) (mt_leaf (ms_aald (e := (.aaload, 87, 0, 0, 0)) rfl (fun _ _ _ => rfl) : mo_Sim 134 86 (ma_aald 86 87)) (mt_none))))
set_option maxRecDepth 100000 in
theorem smt134_21 (k : Nat) : ∀ f, mt134_21 k = some f → mo_Sim 134 k f := mt_node (smt134_22 k) (smt134_23 k)
set_option maxRecDepth 100000 in
theorem smt134_17 (k : Nat) : ∀ f, mt134_17 k = some f → mo_Sim 134 k f := mt_node (smt134_18 k) (smt134_21 k)
set_option maxRecDepth 100000 in
theorem smt134_26 (k : Nat) : ∀ f, mt134_26 k = some f → mo_Sim 134 k f := mt_leaf (ms_getf (e := (.getfield 367, 90, 4, 2, 364)) rfl (fun _ _ _ => rfl) : mo_Sim 134 87 (ma_getf 4 2 90)) (mt_leaf (ms_invV (p := 4) (e := (.invokevirtual 370, 93, 65, 0, 990)) rfl rfl (fun _ _ _ => rfl) rfl rfl rfl (by decide) : mo_Sim 134 90 (ma_inv 65 5 5 8 93)) (mt_leaf (ms_iinc (e := (.iinc 1 1, 96, 0, 0, 0)) rfl (fun _ _ _ => rfl) (by decide) : mo_Sim 134 93 (ma_iinc 1 (.ofNat 1) 93 96)) (mt_leaf (ms_goto (e := (.goto (-65), 99, 31, 0, 0)) rfl (fun _ _ _ => rfl) : mo_Sim 134 96 (ma_goto 31)) (mt_none))))
set_option maxRecDepth 100000 in
theorem smt134_27 (k : Nat) : ∀ f, mt134_27 k = some f → mo_Sim 134 k f := mt_leaf (ms_ald (e := (.aload_n 0, 100, 0, 0, 0)) rfl (fun _ _ _ => rfl) : mo_Sim 134 99 (ma_lda 0 100)) (mt_leaf (ms_getf (e := (.getfield 58, 103, 11, 7, 467)) rfl (fun _ _ _ => rfl) : mo_Sim 134 100 (ma_getf 11 7 103)) (mt_leaf (ms_invV (p := 0) (e := (.invokevirtual 291, 106, 67, 0, 837)) rfl rfl (fun _ _ _ => rfl) rfl rfl rfl (by decide) : mo_Sim 134 103 (ma_inv 67 1 8 8 106)) (mt_leaf (ms_ald (e := (.aload_n 0, 107, 0, 0, 0)) rfl (fun _ _ _ => rfl) : mo_Sim 134 106 (ma_lda 0 107)) (mt_none))))
set_option maxRecDepth 100000 in
theorem smt134_25 (k : Nat) : ∀ f, mt134_25 k = some f → mo_Sim 134 k f := mt_node (smt134_26 k) (smt134_27 k)
set_option maxRecDepth 100000 in
theorem smt134_29 (k : Nat) : ∀ f, mt134_29 k = some f → mo_Sim 134 k f := mt_leaf (ms_getf (e := (.getfield 58, 110, 11, 7, 467)) rfl (fun _ _ _ => rfl) : mo_Sim 134 107 (ma_getf 11 7 110)) (mt_leaf (ms_ald (e := (.aload_n 0, 111, 0, 0, 0)) rfl (fun _ _ _ => rfl) : mo_Sim 134 110 (ma_lda 0 111)) (mt_leaf (ms_getf (e := (.getfield 78, 114, 11, 10, 470)) rfl (fun _ _ _ => rfl) : mo_Sim 134 111 (ma_getf 11 10 114)) (mt_leaf (ms_invV (p := 1) (e := (.invokevirtual 347, 117, 68, 0, 841)) rfl rfl (fun _ _ _ => rfl) rfl rfl rfl (by decide) : mo_Sim 134 114 (ma_inv 68 2 2 8 117)) (mt_none))))
set_option maxRecDepth 100000 in
theorem smt134_30 (k : Nat) : ∀ f, mt134_30 k = some f → mo_Sim 134 k f := mt_leaf (ms_ald (e := (.aload_n 0, 118, 0, 0, 0)) rfl (fun _ _ _ => rfl) : mo_Sim 134 117 (ma_lda 0 118)) (mt_leaf (ms_pushi (e := (.iconst 1, 119, 0, 0, 0)) rfl (fun _ _ _ => rfl) (by decide) : mo_Sim 134 118 (ma_push (ma_ci (.ofNat 1)) 119)) (mt_leaf (ms_putf (e := (.putfield 249, 122, 11, 18, 478)) rfl rfl (fun _ _ _ => rfl) (Or.inr (Or.inl ⟨rfl, rfl⟩)) : mo_Sim 134 119 (ma_putf 11 18 1 122)) (mt_leaf (ms_retv (e := (.return_, 123, 0, 0, 0)) rfl rfl (fun _ _ _ => rfl) : mo_Sim 134 122 (ma_retv)) (mt_none))))
set_option maxRecDepth 100000 in
theorem smt134_28 (k : Nat) : ∀ f, mt134_28 k = some f → mo_Sim 134 k f := mt_node (smt134_29 k) (smt134_30 k)
set_option maxRecDepth 100000 in
theorem smt134_24 (k : Nat) : ∀ f, mt134_24 k = some f → mo_Sim 134 k f := mt_node (smt134_25 k) (smt134_28 k)
set_option maxRecDepth 100000 in
theorem smt134_16 (k : Nat) : ∀ f, mt134_16 k = some f → mo_Sim 134 k f := mt_node (smt134_17 k) (smt134_24 k)
set_option maxRecDepth 100000 in
theorem smt134_0 (k : Nat) : ∀ f, mt134_0 k = some f → mo_Sim 134 k f := mt_node (smt134_1 k) (smt134_16 k)
set_option maxRecDepth 100000 in
theorem smt135_3 (k : Nat) : ∀ f, mt135_3 k = some f → mo_Sim 135 k f := mt_leaf (ms_pushi (e := (.iconst 0, 1, 0, 0, 0)) rfl (fun _ _ _ => rfl) (by decide) : mo_Sim 135 0 (ma_push (ma_ci (.ofNat 0)) 1)) (mt_leaf (ms_ist (e := (.istore_n 2, 2, 0, 0, 0)) rfl (fun _ _ _ => rfl) : mo_Sim 135 1 (ma_stor 0 2 2)) (mt_none))
set_option maxRecDepth 100000 in
theorem smt135_4 (k : Nat) : ∀ f, mt135_4 k = some f → mo_Sim 135 k f := mt_leaf (ms_ild (e := (.iload_n 2, 3, 0, 0, 0)) rfl (fun _ _ _ => rfl) : mo_Sim 135 2 (ma_load 0 2 3)) (mt_leaf (ms_ald (e := (.aload_n 0, 4, 0, 0, 0)) rfl (fun _ _ _ => rfl) : mo_Sim 135 3 (ma_lda 0 4)) (mt_leaf (ms_getf (e := (.getfield 123, 7, 11, 14, 474)) rfl (fun _ _ _ => rfl) : mo_Sim 135 4 (ma_getf 11 14 7)) (mt_none)))
set_option maxRecDepth 100000 in
theorem smt135_2 (k : Nat) : ∀ f, mt135_2 k = some f → mo_Sim 135 k f := mt_node (smt135_3 k) (smt135_4 k)
set_option maxRecDepth 100000 in
theorem smt135_6 (k : Nat) : ∀ f, mt135_6 k = some f → mo_Sim 135 k f := mt_leaf (ms_if2 (e := (.if_icmp .ge 28, 10, 35, 0, 0)) rfl (fun _ _ _ => rfl) : mo_Sim 135 7 (ma_if2 .ge 35 7 10)) (mt_leaf (ms_ald (e := (.aload_n 0, 11, 0, 0, 0)) rfl (fun _ _ _ => rfl) : mo_Sim 135 10 (ma_lda 0 11)) (mt_none))
set_option maxRecDepth 100000 in
theorem smt135_7 (k : Nat) : ∀ f, mt135_7 k = some f → mo_Sim 135 k f := mt_leaf (ms_getf (e := (.getfield 25, 14, 11, 2, 462)) rfl (fun _ _ _ => rfl) : mo_Sim 135 11 (ma_getf 11 2 14)) (mt_leaf (ms_ild (e := (.iload_n 2, 15, 0, 0, 0)) rfl (fun _ _ _ => rfl) : mo_Sim 135 14 (ma_load 0 2 15)) (mt_leaf (ms_aald (e := (.aaload, 16, 0, 0, 0)) rfl (fun _ _ _ => rfl) : mo_Sim 135 15 (ma_aald 15 16)) (mt_none)))
set_option maxRecDepth 100000 in
theorem smt135_5 (k : Nat) : ∀ f, mt135_5 k = some f → mo_Sim 135 k f := mt_node (smt135_6 k) (smt135_7 k)
set_option maxRecDepth 100000 in
theorem smt135_1 (k : Nat) : ∀ f, mt135_1 k = some f → mo_Sim 135 k f := mt_node (smt135_2 k) (smt135_5 k)
set_option maxRecDepth 100000 in
theorem smt135_10 (k : Nat) : ∀ f, mt135_10 k = some f → mo_Sim 135 k f := mt_leaf (ms_ild (e := (.iload_n 1, 17, 0, 0, 0)) rfl (fun _ _ _ => rfl) : mo_Sim 135 16 (ma_load 0 1 17)) (mt_leaf (ms_ald (e := (.aload_n 0, 18, 0, 0, 0)) rfl (fun _ _ _ => rfl) : mo_Sim 135 17 (ma_lda 0 18)) (mt_none))
set_option maxRecDepth 100000 in
theorem smt135_11 (k : Nat) : ∀ f, mt135_11 k = some f → mo_Sim 135 k f := mt_leaf (ms_getf (e := (.getfield 10, 21, 11, 0, 460)) rfl (fun _ _ _ => rfl) : mo_Sim 135 18 (ma_getf 11 0 21)) (mt_leaf (ms_invV (p := 2) (e := (.invokevirtual 374, 24, 3, 0, 693)) rfl rfl (fun _ _ _ => rfl) rfl rfl rfl (by decide) : mo_Sim 135 21 (ma_inv 3 3 5 0 24)) (mt_leaf (ms_if0 (e := (.ifCond .ne 5, 27, 29, 0, 0)) rfl (fun _ _ _ => rfl) : mo_Sim 135 24 (ma_if0 .ne 29 24 27)) (mt_none)))
set_option maxRecDepth 100000 in
theorem smt135_9 (k : Nat) : ∀ f, mt135_9 k = some f → mo_Sim 135 k f := mt_node (smt135_10 k) (smt135_11 k)
set_option maxRecDepth 100000 in
theorem smt135_13 (k : Nat) : ∀ f, mt135_13 k = some f → mo_Sim 135 k f := mt_leaf (ms_pushi (e := (.iconst 0, 28, 0, 0, 0)) rfl (fun _ _ _ => rfl) (by decide) : mo_Sim 135 27 (ma_push (ma_ci (.ofNat 0)) 28)) (mt_leaf (ms_ret (e := (.ireturn, 29, 0, 0, 0)) rfl (Or.inr (Or.inl ⟨rfl, rfl, (fun _ _ _ => rfl)⟩)) : mo_Sim 135 28 (ma_ret 1)) (mt_leaf (ms_iinc (e := (.iinc 2 1, 32, 0, 0, 0)) rfl (fun _ _ _ => rfl) (by decide) : mo_Sim 135 29 (ma_iinc 2 (.ofNat 1) 29 32)) (mt_none)))
set_option maxRecDepth 100000 in
theorem smt135_14 (k : Nat) : ∀ f, mt135_14 k = some f → mo_Sim 135 k f := mt_leaf (ms_goto (e := (.goto (-30), 35, 2, 0, 0)) rfl (fun _ _ _ => rfl) : mo_Sim 135 32 (ma_goto 2)) (mt_leaf (ms_pushi (e := (.iconst 1, 36, 0, 0, 0)) rfl (fun _ _ _ => rfl) (by decide) : mo_Sim 135 35 (ma_push (ma_ci (.ofNat 1)) 36)) (mt_leaf (ms_ret (e := (.ireturn, 37, 0, 0, 0)) rfl (Or.inr (Or.inl ⟨rfl, rfl, (fun _ _ _ => rfl)⟩)) : mo_Sim 135 36 (ma_ret 1)) (mt_none)))
set_option maxRecDepth 100000 in
theorem smt135_12 (k : Nat) : ∀ f, mt135_12 k = some f → mo_Sim 135 k f := mt_node (smt135_13 k) (smt135_14 k)
set_option maxRecDepth 100000 in
theorem smt135_8 (k : Nat) : ∀ f, mt135_8 k = some f → mo_Sim 135 k f := mt_node (smt135_9 k) (smt135_12 k)
set_option maxRecDepth 100000 in
theorem smt135_0 (k : Nat) : ∀ f, mt135_0 k = some f → mo_Sim 135 k f := mt_node (smt135_1 k) (smt135_8 k)
set_option maxRecDepth 100000 in
theorem smt136_3 (k : Nat) : ∀ f, mt136_3 k = some f → mo_Sim 136 k f := mt_leaf (ms_ald (e := (.aload_n 0, 1, 0, 0, 0)) rfl (fun _ _ _ => rfl) : mo_Sim 136 0 (ma_lda 0 1)) (mt_leaf (ms_getf (e := (.getfield 10, 4, 11, 0, 460)) rfl (fun _ _ _ => rfl) : mo_Sim 136 1 (ma_getf 11 0 4)) (mt_leaf (ms_invV (p := 0) (e := (.invokevirtual 227, 7, 15, 0, 685)) rfl rfl (fun _ _ _ => rfl) rfl rfl rfl (by decide) : mo_Sim 136 4 (ma_inv 15 1 1 1 7)) (mt_none)))
set_option maxRecDepth 100000 in
theorem smt136_4 (k : Nat) : ∀ f, mt136_4 k = some f → mo_Sim 136 k f := mt_leaf (ms_ist (e := (.istore_n 2, 8, 0, 0, 0)) rfl (fun _ _ _ => rfl) : mo_Sim 136 7 (ma_stor 0 2 8)) (mt_leaf (ms_ild (e := (.iload_n 1, 9, 0, 0, 0)) rfl (fun _ _ _ => rfl) : mo_Sim 136 8 (ma_load 0 1 9)) (mt_leaf (ms_ist (e := (.istore_n 3, 10, 0, 0, 0)) rfl (fun _ _ _ => rfl) : mo_Sim 136 9 (ma_stor 0 3 10)) (mt_none)))
set_option maxRecDepth 100000 in
theorem smt136_2 (k : Nat) : ∀ f, mt136_2 k = some f → mo_Sim 136 k f := mt_node (smt136_3 k) (smt136_4 k)
set_option maxRecDepth 100000 in
theorem smt136_6 (k : Nat) : ∀ f, mt136_6 k = some f → mo_Sim 136 k f := mt_leaf (ms_ild (e := (.iload_n 3, 11, 0, 0, 0)) rfl (fun _ _ _ => rfl) : mo_Sim 136 10 (ma_load 0 3 11)) (mt_leaf (ms_ild (e := (.iload_n 2, 12, 0, 0, 0)) rfl (fun _ _ _ => rfl) : mo_Sim 136 11 (ma_load 0 2 12)) (mt_leaf (ms_if2 (e := (.if_icmp .ge 26, 15, 38, 0, 0)) rfl (fun _ _ _ => rfl) : mo_Sim 136 12 (ma_if2 .ge 38 12 15)) (mt_none)))
set_option maxRecDepth 100000 in
theorem smt136_7 (k : Nat) : ∀ f, mt136_7 k = some f → mo_Sim 136 k f := mt_leaf (ms_ild (e := (.iload_n 3, 16, 0, 0, 0)) rfl (fun _ _ _ => rfl) : mo_Sim 136 15 (ma_load 0 3 16)) (mt_leaf (ms_ild (e := (.iload_n 1, 17, 0, 0, 0)) rfl (fun _ _ _ => rfl) : mo_Sim 136 16 (ma_load 0 1 17)) (mt_leaf (ms_iand (e := (.iand, 18, 0, 0, 0)) rfl (fun _ _ _ => rfl) : mo_Sim 136 17 (ma_iand 17 18)) (mt_none)))
set_option maxRecDepth 100000 in
theorem smt136_5 (k : Nat) : ∀ f, mt136_5 k = some f → mo_Sim 136 k f := mt_node (smt136_6 k) (smt136_7 k)
set_option maxRecDepth 100000 in
theorem smt136_1 (k : Nat) : ∀ f, mt136_1 k = some f → mo_Sim 136 k f := mt_node (smt136_2 k) (smt136_5 k)
set_option maxRecDepth 100000 in
theorem smt136_10 (k : Nat) : ∀ f, mt136_10 k = some f → mo_Sim 136 k f := mt_leaf (ms_ild (e := (.iload_n 1, 19, 0, 0, 0)) rfl (fun _ _ _ => rfl) : mo_Sim 136 18 (ma_load 0 1 19)) (mt_leaf (ms_if2 (e := (.if_icmp .ne 13, 22, 32, 0, 0)) rfl (fun _ _ _ => rfl) : mo_Sim 136 19 (ma_if2 .ne 32 19 22)) (mt_leaf (ms_ald (e := (.aload_n 0, 23, 0, 0, 0)) rfl (fun _ _ _ => rfl) : mo_Sim 136 22 (ma_lda 0 23)) (mt_none)))
set_option maxRecDepth 100000 in
theorem smt136_11 (k : Nat) : ∀ f, mt136_11 k = some f → mo_Sim 136 k f := mt_leaf (ms_ild (e := (.iload_n 3, 24, 0, 0, 0)) rfl (fun _ _ _ => rfl) : mo_Sim 136 23 (ma_load 0 3 24)) (mt_leaf (ms_invV (p := 1) (e := (.invokevirtual 230, 27, 135, 0, 689)) rfl rfl (fun _ _ _ => rfl) rfl rfl rfl (by decide) : mo_Sim 136 24 (ma_inv 135 2 3 11 27)) (mt_leaf (ms_if0 (e := (.ifCond .eq 5, 30, 32, 0, 0)) rfl (fun _ _ _ => rfl) : mo_Sim 136 27 (ma_if0 .eq 32 27 30)) (mt_none)))
set_option maxRecDepth 100000 in
theorem smt136_9 (k : Nat) : ∀ f, mt136_9 k = some f → mo_Sim 136 k f := mt_node (smt136_10 k) (smt136_11 k)
set_option maxRecDepth 100000 in
theorem smt136_13 (k : Nat) : ∀ f, mt136_13 k = some f → mo_Sim 136 k f := mt_leaf (ms_ild (e := (.iload_n 3, 31, 0, 0, 0)) rfl (fun _ _ _ => rfl) : mo_Sim 136 30 (ma_load 0 3 31)) (mt_leaf (ms_ret (e := (.ireturn, 32, 0, 0, 0)) rfl (Or.inl ⟨rfl, rfl, (fun _ _ _ => rfl)⟩) : mo_Sim 136 31 (ma_ret 0)) (mt_leaf (ms_iinc (e := (.iinc 3 1, 35, 0, 0, 0)) rfl (fun _ _ _ => rfl) (by decide) : mo_Sim 136 32 (ma_iinc 3 (.ofNat 1) 32 35)) (mt_none)))
set_option maxRecDepth 100000 in
theorem smt136_14 (k : Nat) : ∀ f, mt136_14 k = some f → mo_Sim 136 k f := mt_leaf (ms_goto (e := (.goto (-25), 38, 10, 0, 0)) rfl (fun _ _ _ => rfl) : mo_Sim 136 35 (ma_goto 10)) (mt_leaf (ms_ild (e := (.iload_n 2, 39, 0, 0, 0)) rfl (fun _ _ _ => rfl) : mo_Sim 136 38 (ma_load 0 2 39)) (mt_leaf (ms_ret (e := (.ireturn, 40, 0, 0, 0)) rfl (Or.inl ⟨rfl, rfl, (fun _ _ _ => rfl)⟩) : mo_Sim 136 39 (ma_ret 0)) (mt_none)))
set_option maxRecDepth 100000 in
theorem smt136_12 (k : Nat) : ∀ f, mt136_12 k = some f → mo_Sim 136 k f := mt_node (smt136_13 k) (smt136_14 k)
set_option maxRecDepth 100000 in
theorem smt136_8 (k : Nat) : ∀ f, mt136_8 k = some f → mo_Sim 136 k f := mt_node (smt136_9 k) (smt136_12 k)
set_option maxRecDepth 100000 in
theorem smt136_0 (k : Nat) : ∀ f, mt136_0 k = some f → mo_Sim 136 k f := mt_node (smt136_1 k) (smt136_8 k)
set_option maxRecDepth 100000 in
theorem smt137_1 (k : Nat) : ∀ f, mt137_1 k = some f → mo_Sim 137 k f := mt_leaf (ms_ald (e := (.aload_n 0, 1, 0, 0, 0)) rfl (fun _ _ _ => rfl) : mo_Sim 137 0 (ma_lda 0 1)) (mt_leaf (ms_getf (e := (.getfield 10, 4, 11, 0, 460)) rfl (fun _ _ _ => rfl) : mo_Sim 137 1 (ma_getf 11 0 4)) (mt_leaf (ms_getf (e := (.getfield 135, 7, 1, 0, 112)) rfl (fun _ _ _ => rfl) : mo_Sim 137 4 (ma_getf 1 0 7)) (mt_leaf (ms_pushi (e := (.iconst 2, 8, 0, 0, 0)) rfl (fun _ _ _ => rfl) (by decide) : mo_Sim 137 7 (ma_push (ma_ci (.ofNat 2)) 8)) (mt_none))))
set_option maxRecDepth 100000 in
theorem smt137_3 (k : Nat) : ∀ f, mt137_3 k = some f → mo_Sim 137 k f := mt_leaf (ms_if2 (e := (.if_icmp .ne 9, 11, 17, 0, 0)) rfl (fun _ _ _ => rfl) : mo_Sim 137 8 (ma_if2 .ne 17 8 11)) (mt_leaf (ms_pushr (e := (.getstatic 378, 14, 0, 0, 897)) rfl (fun _ _ _ => rfl) (by decide) : mo_Sim 137 11 (ma_push (ma_cr 0) 14)) (mt_none))
set_option maxRecDepth 100000 in
theorem smt137_4 (k : Nat) : ∀ f, mt137_4 k = some f → mo_Sim 137 k f := mt_leaf (ms_goto (e := (.goto 6, 17, 20, 0, 0)) rfl (fun _ _ _ => rfl) : mo_Sim 137 14 (ma_goto 20)) (mt_leaf (ms_pushr (e := (.getstatic 381, 20, 1, 0, 899)) rfl (fun _ _ _ => rfl) (by decide) : mo_Sim 137 17 (ma_push (ma_cr 1) 20)) (mt_leaf (ms_ret (e := (.areturn, 21, 0, 0, 0)) rfl (Or.inr (Or.inr (Or.inl ⟨rfl, Or.inr ⟨_, rfl⟩, (fun _ _ _ => rfl)⟩))) : mo_Sim 137 20 (ma_ret 2)) (mt_none)))
set_option maxRecDepth 100000 in
theorem smt137_2 (k : Nat) : ∀ f, mt137_2 k = some f → mo_Sim 137 k f := mt_node (smt137_3 k) (smt137_4 k)
set_option maxRecDepth 100000 in
theorem smt137_0 (k : Nat) : ∀ f, mt137_0 k = some f → mo_Sim 137 k f := mt_node (smt137_1 k) (smt137_2 k)
set_option maxRecDepth 100000 in
theorem smt138_3 (k : Nat) : ∀ f, mt138_3 k = some f → mo_Sim 138 k f := mt_leaf (ms_pushi (e := (.iconst 0, 1, 0, 0, 0)) rfl (fun _ _ _ => rfl) (by decide) : mo_Sim 138 0 (ma_push (ma_ci (.ofNat 0)) 1)) (mt_leaf (ms_ist (e := (.istore_n 2, 2, 0, 0, 0)) rfl (fun _ _ _ => rfl) : mo_Sim 138 1 (ma_stor 0 2 2)) (mt_none))
set_option maxRecDepth 100000 in
theorem smt138_4 (k : Nat) : ∀ f, mt138_4 k = some f → mo_Sim 138 k f := mt_leaf (ms_ild (e := (.iload_n 2, 3, 0, 0, 0)) rfl (fun _ _ _ => rfl) : mo_Sim 138 2 (ma_load 0 2 3)) (mt_leaf (ms_ald (e := (.aload_n 0, 4, 0, 0, 0)) rfl (fun _ _ _ => rfl) : mo_Sim 138 3 (ma_lda 0 4)) (mt_leaf (ms_getf (e := (.getfield 123, 7, 11, 14, 474)) rfl (fun _ _ _ => rfl) : mo_Sim 138 4 (ma_getf 11 14 7)) (mt_none)))
set_option maxRecDepth 100000 in
theorem smt138_2 (k : Nat) : ∀ f, mt138_2 k = some f → mo_Sim 138 k f := mt_node (smt138_3 k) (smt138_4 k)
set_option maxRecDepth 100000 in
theorem smt138_6 (k : Nat) : ∀ f, mt138_6 k = some f → mo_Sim 138 k f := mt_leaf (ms_if2 (e := (.if_icmp .ge 28, 10, 35, 0, 0)) rfl (fun _ _ _ => rfl) : mo_Sim 138 7 (ma_if2 .ge 35 7 10)) (mt_leaf (ms_ald (e := (.aload_n 0, 11, 0, 0, 0)) rfl (fun _ _ _ => rfl) : mo_Sim 138 10 (ma_lda 0 11)) (mt_none))
set_option maxRecDepth 100000 in
theorem smt138_7 (k : Nat) : ∀ f, mt138_7 k = some f → mo_Sim 138 k f := mt_leaf (ms_getf (e := (.getfield 25, 14, 11, 2, 462)) rfl (fun _ _ _ => rfl) : mo_Sim 138 11 (ma_getf 11 2 14)) (mt_leaf (ms_ild (e := (.iload_n 2, 15, 0, 0, 0)) rfl (fun _ _ _ => rfl) : mo_Sim 138 14 (ma_load 0 2 15)) (mt_leaf (ms_aald (e := (.aaload, 16, 0, 0, 0)) rfl (fun _ _ _ => rfl) : mo_Sim 138 15 (ma_aald 15 16)) (mt_none)))
set_option maxRecDepth 100000 in
theorem smt138_5 (k : Nat) : ∀ f, mt138_5 k = some f → mo_Sim 138 k f := mt_node (smt138_6 k) (smt138_7 k)
set_option maxRecDepth 100000 in
theorem smt138_1 (k : Nat) : ∀ f, mt138_1 k = some f → mo_Sim 138 k f := mt_node (smt138_2 k) (smt138_5 k)
set_option maxRecDepth 100000 in
theorem smt138_10 (k : Nat) : ∀ f, mt138_10 k = some f → mo_Sim 138 k f := mt_leaf (ms_ild (e := (.iload_n 1, 17, 0, 0, 0)) rfl (fun _ _ _ => rfl) : mo_Sim 138 16 (ma_load 0 1 17)) (mt_leaf (ms_ald (e := (.aload_n 0, 18, 0, 0, 0)) rfl (fun _ _ _ => rfl) : mo_Sim 138 17 (ma_lda 0 18)) (mt_none))
set_option maxRecDepth 100000 in
theorem smt138_11 (k : Nat) : ∀ f, mt138_11 k = some f → mo_Sim 138 k f := mt_leaf (ms_getf (e := (.getfield 10, 21, 11, 0, 460)) rfl (fun _ _ _ => rfl) : mo_Sim 138 18 (ma_getf 11 0 21)) (mt_leaf (ms_invV (p := 2) (e := (.invokevirtual 384, 24, 4, 0, 905)) rfl rfl (fun _ _ _ => rfl) rfl rfl rfl (by decide) : mo_Sim 138 21 (ma_inv 4 3 5 0 24)) (mt_leaf (ms_if0 (e := (.ifCond .ne 5, 27, 29, 0, 0)) rfl (fun _ _ _ => rfl) : mo_Sim 138 24 (ma_if0 .ne 29 24 27)) (mt_none)))
set_option maxRecDepth 100000 in
theorem smt138_9 (k : Nat) : ∀ f, mt138_9 k = some f → mo_Sim 138 k f := mt_node (smt138_10 k) (smt138_11 k)
set_option maxRecDepth 100000 in
theorem smt138_13 (k : Nat) : ∀ f, mt138_13 k = some f → mo_Sim 138 k f := mt_leaf (ms_pushi (e := (.iconst 0, 28, 0, 0, 0)) rfl (fun _ _ _ => rfl) (by decide) : mo_Sim 138 27 (ma_push (ma_ci (.ofNat 0)) 28)) (mt_leaf (ms_ret (e := (.ireturn, 29, 0, 0, 0)) rfl (Or.inr (Or.inl ⟨rfl, rfl, (fun _ _ _ => rfl)⟩)) : mo_Sim 138 28 (ma_ret 1)) (mt_leaf (ms_iinc (e := (.iinc 2 1, 32, 0, 0, 0)) rfl (fun _ _ _ => rfl) (by decide) : mo_Sim 138 29 (ma_iinc 2 (.ofNat 1) 29 32)) (mt_none)))
set_option maxRecDepth 100000 in
theorem smt138_14 (k : Nat) : ∀ f, mt138_14 k = some f → mo_Sim 138 k f := mt_leaf (ms_goto (e := (.goto (-30), 35, 2, 0, 0)) rfl (fun _ _ _ => rfl) : mo_Sim 138 32 (ma_goto 2)) (mt_leaf (ms_pushi (e := (.iconst 1, 36, 0, 0, 0)) rfl (fun _ _ _ => rfl) (by decide) : mo_Sim 138 35 (ma_push (ma_ci (.ofNat 1)) 36)) (mt_leaf (ms_ret (e := (.ireturn, 37, 0, 0, 0)) rfl (Or.inr (Or.inl ⟨rfl, rfl, (fun _ _ _ => rfl)⟩)) : mo_Sim 138 36 (ma_ret 1)) (mt_none)))
set_option maxRecDepth 100000 in
theorem smt138_12 (k : Nat) : ∀ f, mt138_12 k = some f → mo_Sim 138 k f := mt_node (smt138_13 k) (smt138_14 k)
set_option maxRecDepth 100000 in
theorem smt138_8 (k : Nat) : ∀ f, mt138_8 k = some f → mo_Sim 138 k f := mt_node (smt138_9 k) (smt138_12 k)
set_option maxRecDepth 100000 in
theorem smt138_0 (k : Nat) : ∀ f, mt138_0 k = some f → mo_Sim 138 k f := mt_node (smt138_1 k) (smt138_8 k)
set_option maxRecDepth 100000 in
theorem smt139_5 (k : Nat) : ∀ f, mt139_5 k = some f → mo_Sim 139 k f := mt_leaf (ms_ald (e := (.aload_n 0, 1, 0, 0, 0)) rfl (fun _ _ _ => rfl) : mo_Sim 139 0 (ma_lda 0 1)) (mt_leaf (ms_obj (e := (.invokespecial 1, 4, 0, 4, 1051)) rfl (fun _ _ _ => rfl) : mo_Sim 139 1 (ma_obj 4)) (mt_leaf (ms_ald (e := (.aload_n 0, 5, 0, 0, 0)) rfl (fun _ _ _ => rfl) : mo_Sim 139 4 (ma_lda 0 5)) (mt_none)))
set_option maxRecDepth 100000 in
theorem smt139_6 (k : Nat) : ∀ f, mt139_6 k = some f → mo_Sim 139 k f := mt_leaf (ms_pushi (e := (.iconst 2, 6, 0, 0, 0)) rfl (fun _ _ _ => rfl) (by decide) : mo_Sim 139 5 (ma_push (ma_ci (.ofNat 2)) 6)) (mt_leaf (ms_putf (e := (.putfield 7, 9, 12, 0, 1052)) rfl rfl (fun _ _ _ => rfl) (Or.inl ⟨rfl, rfl⟩) : mo_Sim 139 6 (ma_putf 12 0 0 9)) (mt_leaf (ms_ald (e := (.aload_n 0, 10, 0, 0, 0)) rfl (fun _ _ _ => rfl) : mo_Sim 139 9 (ma_lda 0 10)) (mt_none)))
set_option maxRecDepth 100000 in
theorem smt139_4 (k : Nat) : ∀ f, mt139_4 k = some f → mo_Sim 139 k f := mt_node (smt139_5 k) (smt139_6 k)
set_option maxRecDepth 100000 in
theorem smt139_8 (k : Nat) : ∀ f, mt139_8 k = some f → mo_Sim 139 k f := mt_leaf (ms_pushi (e := (.bipush 10, 12, 0, 0, 0)) rfl (fun _ _ _ => rfl) (by decide) : mo_Sim 139 10 (ma_push (ma_ci (.ofNat 10)) 12)) (mt_leaf (ms_newaI (e := (.newarray .int, 14, 0, 0, 0)) rfl rfl (fun _ _ _ => rfl) : mo_Sim 139 12 (ma_newa 13 (ma_ci (.ofNat 0)) 14)) (mt_leaf (ms_putf (e := (.putfield 13, 17, 12, 1, 1053)) rfl rfl (fun _ _ _ => rfl) (Or.inr (Or.inr (Or.inl ⟨rfl, Or.inr ⟨_, rfl⟩⟩))) : mo_Sim 139 14 (ma_putf 12 1 2 17)) (mt_none)))
set_option maxRecDepth 100000 in
theorem smt139_9 (k : Nat) : ∀ f, mt139_9 k = some f → mo_Sim 139 k f := mt_leaf (ms_ald (e := (.aload_n 0, 18, 0, 0, 0)) rfl (fun _ _ _ => rfl) : mo_Sim 139 17 (ma_lda 0 18)) (mt_leaf (ms_pushi (e := (.bipush 10, 20, 0, 0, 0)) rfl (fun _ _ _ => rfl) (by decide) : mo_Sim 139 18 (ma_push (ma_ci (.ofNat 10)) 20)) (mt_leaf (ms_newaI (e := (.newarray .int, 22, 0, 0, 0)) rfl rfl (fun _ _ _ => rfl) : mo_Sim 139 20 (ma_newa 13 (ma_ci (.ofNat 0)) 22)) (mt_none)))
set_option maxRecDepth 100000 in
theorem smt139_7 (k : Nat) : ∀ f, mt139_7 k = some f → mo_Sim 139 k f := mt_node (smt139_8 k) (smt139_9 k)
set_option maxRecDepth 100000 in
theorem smt139_3 (k : Nat) : ∀ f, mt139_3 k = some f → mo_Sim 139 k f := mt_node (smt139_4 k) (smt139_7 k)
set_option maxRecDepth 100000 in
theorem smt139_12 (k : Nat) : ∀ f, mt139_12 k = some f → mo_Sim 139 k f := mt_leaf (ms_putf (e := (.putfield 17, 25, 12, 2, 1054)) rfl rfl (fun _ _ _ => rfl) (Or.inr (Or.inr (Or.inl ⟨rfl, Or.inr ⟨_, rfl⟩⟩))) : mo_Sim 139 22 (ma_putf 12 2 2 25)) (mt_leaf (ms_ald (e := (.aload_n 0, 26, 0, 0, 0)) rfl (fun _ _ _ => rfl) : mo_Sim 139 25 (ma_lda 0 26)) (mt_leaf (ms_pushi (e := (.sipush 320, 29, 0, 0, 0)) rfl (fun _ _ _ => rfl) (by decide) : mo_Sim 139 26 (ma_push (ma_ci (.ofNat 320)) 29)) (mt_none)))
set_option maxRecDepth 100000 in
theorem smt139_13 (k : Nat) : ∀ f, mt139_13 k = some f → mo_Sim 139 k f := mt_leaf (ms_newaL (e := (.newarray .long, 31, 0, 0, 0)) rfl rfl (fun _ _ _ => rfl) : mo_Sim 139 29 (ma_newa 14 (ma_cl (.ofNat 0)) 31)) (mt_leaf (ms_putf (e := (.putfield 20, 34, 12, 3, 1055)) rfl rfl (fun _ _ _ => rfl) (Or.inr (Or.inr (Or.inl ⟨rfl, Or.inr ⟨_, rfl⟩⟩))) : mo_Sim 139 31 (ma_putf 12 3 2 34)) (mt_leaf (ms_ald (e := (.aload_n 0, 35, 0, 0, 0)) rfl (fun _ _ _ => rfl) : mo_Sim 139 34 (ma_lda 0 35)) (mt_none)))
set_option maxRecDepth 100000 in
theorem smt139_11 (k : Nat) : ∀ f, mt139_11 k = some f → mo_Sim 139 k f := mt_node (smt139_12 k) (smt139_13 k)
set_option maxRecDepth 100000 in
theorem smt139_15 (k : Nat) : ∀ f, mt139_15 k = some f → mo_Sim 139 k f := mt_leaf (ms_pushi (e := (.bipush 8, 37, 0, 0, 0)) rfl (fun _ _ _ => rfl) (by decide) : mo_Sim 139 35 (ma_push (ma_ci (.ofNat 8)) 37)) (mt_leaf (ms_newaI (e := (.newarray .int, 39, 0, 0, 0)) rfl rfl (fun _ _ _ => rfl) : mo_Sim 139 37 (ma_newa 13 (ma_ci (.ofNat 0)) 39)) (mt_leaf (ms_putf (e := (.putfield 24, 42, 12, 5, 1057)) rfl rfl (fun _ _ _ => rfl) (Or.inr (Or.inr (Or.inl ⟨rfl, Or.inr ⟨_, rfl⟩⟩))) : mo_Sim 139 39 (ma_putf 12 5 2 42)) (mt_none)))
set_option maxRecDepth 100000 in
theorem smt139_16 (k : Nat) : ∀ f, mt139_16 k = some f → mo_Sim 139 k f := mt_leaf (ms_ald (e := (.aload_n 0, 43, 0, 0, 0)) rfl (fun _ _ _ => rfl) : mo_Sim 139 42 (ma_lda 0 43)) (mt_leaf (ms_pushi (e := (.sipush 216, 46, 0, 0, 0)) rfl (fun _ _ _ => rfl) (by decide) : mo_Sim 139 43 (ma_push (ma_ci (.ofNat 216)) 46)) (mt_leaf (ms_newaI (e := (.newarray .int, 48, 0, 0, 0)) rfl rfl (fun _ _ _ => rfl) : mo_Sim 139 46 (ma_newa 13 (ma_ci (.ofNat 0)) 48)) (mt_none)))
set_option maxRecDepth 100000 in
theorem smt139_14 (k : Nat) : ∀ f, mt139_14 k = some f → mo_Sim 139 k f := mt_node (smt139_15 k) (smt139_16 k)
set_option maxRecDepth 100000 in
theorem smt139_10 (k : Nat) : ∀ f, mt139_10 k = some f → mo_Sim 139 k f := mt_node (smt139_11 k) (smt139_14 k)
set_option maxRecDepth 100000 in
theorem smt139_2 (k : Nat) : ∀ f, mt139_2 k = some f → mo_Sim 139 k f := mt_node (smt139_3 k) (smt139_10 k)
set_option maxRecDepth 100000 in
theorem smt139_20 (k : Nat) : ∀ f, mt139_20 k = some f → mo_Sim 139 k f := mt_leaf (ms_putf (e := (.putfield 27, 51, 12, 6, 1058)) rfl rfl (fun _ _ _ => rfl) (Or.inr (Or.inr (Or.inl ⟨rfl, Or.inr ⟨_, rfl⟩⟩))) : mo_Sim 139 48 (ma_putf 12 6 2 51)) (mt_leaf (ms_ald (e := (.aload_n 0, 52, 0, 0, 0)) rfl (fun _ _ _ => rfl) : mo_Sim 139 51 (ma_lda 0 52)) (mt_leaf (ms_pushi (e := (.bipush 12, 54, 0, 0, 0)) rfl (fun _ _ _ => rfl) (by decide) : mo_Sim 139 52 (ma_push (ma_ci (.ofNat 12)) 54)) (mt_none)))
set_option maxRecDepth 100000 in
theorem smt139_21 (k : Nat) : ∀ f, mt139_21 k = some f → mo_Sim 139 k f := mt_leaf (ms_newaI (e := (.newarray .int, 56, 0, 0, 0)) rfl rfl (fun _ _ _ => rfl) : mo_Sim 139 54 (ma_newa 13 (ma_ci (.ofNat 0)) 56)) (mt_leaf (ms_putf (e := (.putfield 30, 59, 12, 8, 1060)) rfl rfl (fun _ _ _ => rfl) (Or.inr (Or.inr (Or.inl ⟨rfl, Or.inr ⟨_, rfl⟩⟩))) : mo_Sim 139 56 (ma_putf 12 8 2 59)) (mt_leaf (ms_ald (e := (.aload_n 0, 60, 0, 0, 0)) rfl (fun _ _ _ => rfl) : mo_Sim 139 59 (ma_lda 0 60)) (mt_none)))
set_option maxRecDepth 100000 in
theorem smt139_19 (k : Nat) : ∀ f, mt139_19 k = some f → mo_Sim 139 k f := mt_node (smt139_20 k) (smt139_21 k)
set_option maxRecDepth 100000 in
theorem smt139_23 (k : Nat) : ∀ f, mt139_23 k = some f → mo_Sim 139 k f := mt_leaf (ms_pushi (e := (.bipush 12, 62, 0, 0, 0)) rfl (fun _ _ _ => rfl) (by decide) : mo_Sim 139 60 (ma_push (ma_ci (.ofNat 12)) 62)) (mt_leaf (ms_newaL (e := (.newarray .long, 64, 0, 0, 0)) rfl rfl (fun _ _ _ => rfl) : mo_Sim 139 62 (ma_newa 14 (ma_cl (.ofNat 0)) 64)) (mt_leaf (ms_putf (e := (.putfield 33, 67, 12, 9, 1061)) rfl rfl (fun _ _ _ => rfl) (Or.inr (Or.inr (Or.inl ⟨rfl, Or.inr ⟨_, rfl⟩⟩))) : mo_Sim 139 64 (ma_putf 12 9 2 67)) (mt_none)))
set_option maxRecDepth 100000 in
theorem smt139_24 (k : Nat) : ∀ f, mt139_24 k = some f → mo_Sim 139 k f := mt_leaf (ms_ald (e := (.aload_n 0, 68, 0, 0, 0)) rfl (fun _ _ _ => rfl) : mo_Sim 139 67 (ma_lda 0 68)) (mt_leaf (ms_pushi (e := (.iconst 1, 69, 0, 0, 0)) rfl (fun _ _ _ => rfl) (by decide) : mo_Sim 139 68 (ma_push (ma_ci (.ofNat 1)) 69)) (mt_leaf (ms_putf (e := (.putfield 36, 72, 12, 10, 1062)) rfl rfl (fun _ _ _ => rfl) (Or.inl ⟨rfl, rfl⟩) : mo_Sim 139 69 (ma_putf 12 10 0 72)) (mt_none)))
set_option maxRecDepth 100000 in
theorem smt139_22 (k : Nat) : ∀ f, mt139_22 k = some f → mo_Sim 139 k f := mt_node (smt139_23 k) (smt139_24 k)
set_option maxRecDepth 100000 in
theorem smt139_18 (k : Nat) : ∀ f, mt139_18 k = some f → mo_Sim 139 k f := mt_node (smt139_19 k) (smt139_22 k)
set_option maxRecDepth 100000 in
theorem smt139_27 (k : Nat) : ∀ f, mt139_27 k = some f → mo_Sim 139 k f := mt_leaf (ms_ald (e := (.aload_n 0, 73, 0, 0, 0)) rfl (fun _ _ _ => rfl) : mo_Sim 139 72 (ma_lda 0 73)) (mt_leaf (ms_pushi (e := (.bipush 30, 75, 0, 0, 0)) rfl (fun _ _ _ => rfl) (by decide) : mo_Sim 139 73 (ma_push (ma_ci (.ofNat 30)) 75)) (mt_leaf (ms_newaI (e := (.newarray .int, 77, 0, 0, 0)) rfl rfl (fun _ _ _ => rfl) : mo_Sim 139 75 (ma_newa 13 (ma_ci (.ofNat 0)) 77)) (mt_none)))
set_option maxRecDepth 100000 in
theorem smt139_28 (k : Nat) : ∀ f, mt139_28 k = some f → mo_Sim 139 k f := mt_leaf (ms_putf (e := (.putfield 39, 80, 12, 12, 1064)) rfl rfl (fun _ _ _ => rfl) (Or.inr (Or.inr (Or.inl ⟨rfl, Or.inr ⟨_, rfl⟩⟩))) : mo_Sim 139 77 (ma_putf 12 12 2 80)) (mt_leaf (ms_ald (e := (.aload_n 0, 81, 0, 0, 0)) rfl (fun _ _ _ => rfl) : mo_Sim 139 80 (ma_lda 0 81)) (mt_leaf (ms_pushi (e := (.bipush 90, 83, 0, 0, 0)) rfl (fun _ _ _ => rfl) (by decide) : mo_Sim 139 81 (ma_push (ma_ci (.ofNat 90)) 83)) (mt_none)))
set_option maxRecDepth 100000 in
theorem smt139_26 (k : Nat) : ∀ f, mt139_26 k = some f → mo_Sim 139 k f := mt_node (smt139_27 k) (smt139_28 k)
set_option maxRecDepth 100000 in
theorem smt139_30 (k : Nat) : ∀ f, mt139_30 k = some f → mo_Sim 139 k f := mt_leaf (ms_newaI (e := (.newarray .int, 85, 0, 0, 0)) rfl rfl (fun _ _ _ => rfl) : mo_Sim 139 83 (ma_newa 13 (ma_ci (.ofNat 0)) 85)) (mt_leaf (ms_putf (e := (.putfield 42, 88, 12, 13, 1065)) rfl rfl (fun _ _ _ => rfl) (Or.inr (Or.inr (Or.inl ⟨rfl, Or.inr ⟨_, rfl⟩⟩))) : mo_Sim 139 85 (ma_putf 12 13 2 88)) (mt_leaf (ms_ald (e := (.aload_n 0, 89, 0, 0, 0)) rfl (fun _ _ _ => rfl) : mo_Sim 139 88 (ma_lda 0 89)) (mt_none)))
set_option maxRecDepth 100000 in
theorem smt139_31 (k : Nat) : ∀ f, mt139_31 k = some f → mo_Sim 139 k f := mt_leaf (ms_pushi (e := (.sipush 1024, 92, 0, 0, 0)) rfl (fun _ _ _ => rfl) (by decide) : mo_Sim 139 89 (ma_push (ma_ci (.ofNat 1024)) 92)) (mt_leaf (ms_newaI (e := (.newarray .int, 94, 0, 0, 0)) rfl rfl (fun _ _ _ => rfl) : mo_Sim 139 92 (ma_newa 13 (ma_ci (.ofNat 0)) 94)) (mt_leaf (ms_putf (e := (.putfield 45, 97, 12, 14, 1066)) rfl rfl (fun _ _ _ => rfl) (Or.inr (Or.inr (Or.inl ⟨rfl, Or.inr ⟨_, rfl⟩⟩))) : mo_Sim 139 94 (ma_putf 12 14 2 97)) (mt_none)))
set_option maxRecDepth 100000 in
theorem smt139_29 (k : Nat) : ∀ f, mt139_29 k = some f → mo_Sim 139 k f := mt_node (smt139_30 k) (smt139_31 k)
set_option maxRecDepth 100000 in
theorem smt139_25 (k : Nat) : ∀ f, mt139_25 k = some f → mo_Sim 139 k f := mt_node (smt139_26 k) (smt139_29 k)
set_option maxRecDepth 100000 in
theorem smt139_17 (k : Nat) : ∀ f, mt139_17 k = some f → mo_Sim 139 k f := mt_node (smt139_18 k) (smt139_25 k)
set_option maxRecDepth 100000 in
theorem smt139_1 (k : Nat) : ∀ f, mt139_1 k = some f → mo_Sim 139 k f := mt_node (smt139_2 k) (smt139_17 k)
set_option maxRecDepth 100000 in
theorem smt139_36 (k : Nat) : ∀ f, mt139_36 k = some f → mo_Sim 139 k f := mt_leaf (ms_ald (e := (.aload_n 0, 98, 0, 0, 0)) rfl (fun _ _ _ => rfl) : mo_Sim 139 97 (ma_lda 0 98)) (mt_leaf (ms_pushi (e := (.sipush 1024, 101, 0, 0, 0)) rfl (fun _ _ _ => rfl) (by decide) : mo_Sim 139 98 (ma_push (ma_ci (.ofNat 1024)) 101)) (mt_leaf (ms_newaI (e := (.newarray .int, 103, 0, 0, 0)) rfl rfl (fun _ _ _ => rfl) : mo_Sim 139 101 (ma_newa 13 (ma_ci (.ofNat 0)) 103)) (mt_none)))
set_option maxRecDepth 100000 in
theorem smt139_37 (k : Nat) : ∀ f, mt139_37 k = some f → mo_Sim 139 k f := mt_leaf (ms_putf (e := (.putfield 48, 106, 12, 15, 1067)) rfl rfl (fun _ _ _ => rfl) (Or.inr (Or.inr (Or.inl ⟨rfl, Or.inr ⟨_, rfl⟩⟩))) : mo_Sim 139 103 (ma_putf 12 15 2 106)) (mt_leaf (ms_ald (e := (.aload_n 0, 107, 0, 0, 0)) rfl (fun _ _ _ => rfl) : mo_Sim 139 106 (ma_lda 0 107)) (mt_leaf (ms_pushi (e := (.iconst 4, 108, 0, 0, 0)) rfl (fun _ _ _ => rfl) (by decide) : mo_Sim 139 107 (ma_push (ma_ci (.ofNat 4)) 108)) (mt_none)))
set_option maxRecDepth 100000 in
theorem smt139_35 (k : Nat) : ∀ f, mt139_35 k = some f → mo_Sim 139 k f := mt_node (smt139_36 k) (smt139_37 k)
set_option maxRecDepth 100000 in
theorem smt139_39 (k : Nat) : ∀ f, mt139_39 k = some f → mo_Sim 139 k f := mt_leaf (ms_newaI (e := (.newarray .int, 110, 0, 0, 0)) rfl rfl (fun _ _ _ => rfl) : mo_Sim 139 108 (ma_newa 13 (ma_ci (.ofNat 0)) 110)) (mt_leaf (ms_dup (e := (.dup, 111, 0, 0, 0)) rfl (fun _ _ _ => rfl) : mo_Sim 139 110 (ma_dup 111)) (mt_leaf (ms_pushi (e := (.iconst 0, 112, 0, 0, 0)) rfl (fun _ _ _ => rfl) (by decide) : mo_Sim 139 111 (ma_push (ma_ci (.ofNat 0)) 112)) (mt_none)))
set_option maxRecDepth 100000 in
theorem smt139_40 (k : Nat) : ∀ f, mt139_40 k = some f → mo_Sim 139 k f := mt_leaf (ms_pushi (e := (.iconst (-1), 113, 0, 0, 0)) rfl (fun _ _ _ => rfl) (by decide) : mo_Sim 139 112 (ma_push (ma_ci (.negSucc 0)) 113)) (mt_leaf (ms_iast (e := (.iastore, 114, 0, 0, 0)) rfl rfl (fun _ _ _ => rfl) : mo_Sim 139 113 (ma_ast 13 0 113 114)) (mt_leaf (ms_dup (e := (.dup, 115, 0, 0, 0)) rfl (fun _ _ _ => rfl) : mo_Sim 139 114 (ma_dup 115)) (mt_none)))
set_option maxRecDepth 100000 in
theorem smt139_38 (k : Nat) : ∀ f, mt139_38 k = some f → mo_Sim 139 k f := mt_node (smt139_39 k) (smt139_40 k)
set_option maxRecDepth 100000 in
theorem smt139_34 (k : Nat) : ∀ f, mt139_34 k = some f → mo_Sim 139 k f := mt_node (smt139_35 k) (smt139_38 k)
set_option maxRecDepth 100000 in
theorem smt139_43 (k : Nat) : ∀ f, mt139_43 k = some f → mo_Sim 139 k f := mt_leaf (ms_pushi (e := (.iconst 1, 116, 0, 0, 0)) rfl (fun _ _ _ => rfl) (by decide) : mo_Sim 139 115 (ma_push (ma_ci (.ofNat 1)) 116)) (mt_leaf (ms_pushi (e := (.iconst (-1), 117, 0, 0, 0)) rfl (fun _ _ _ => rfl) (by decide) : mo_Sim 139 116 (ma_push (ma_ci (.negSucc 0)) 117)) (mt_leaf (ms_iast (e := (.iastore, 118, 0, 0, 0)) rfl rfl (fun _ _ _ => rfl) : mo_Sim 139 117 (ma_ast 13 0 117 118)) (mt_none)))
set_option maxRecDepth 100000 in
theorem smt139_44 (k : Nat) : ∀ f, mt139_44 k = some f → mo_Sim 139 k f := mt_leaf (ms_dup (e := (.dup, 119, 0, 0, 0)) rfl (fun _ _ _ => rfl) : mo_Sim 139 118 (ma_dup 119)) (mt_leaf (ms_pushi (e := (.iconst 2, 120, 0, 0, 0)) rfl (fun _ _ _ => rfl) (by decide) : mo_Sim 139 119 (ma_push (ma_ci (.ofNat 2)) 120)) (mt_leaf (ms_pushi (e := (.iconst (-1), 121, 0, 0, 0)) rfl (fun _ _ _ => rfl) (by decide) : mo_Sim 139 120 (ma_push (ma_ci (.negSucc 0)) 121)) (mt_none)))
set_option maxRecDepth 100000 in
theorem smt139_42 (k : Nat) : ∀ f, mt139_42 k = some f → mo_Sim 139 k f := mt_node (smt139_43 k) (smt139_44 k)
set_option maxRecDepth 100000 in
theorem smt139_46 (k : Nat) : ∀ f, mt139_46 k = some f → mo_Sim 139 k f := mt_leaf (ms_iast (e := (.iastore, 122, 0, 0, 0)) rfl rfl (fun _ _ _ => rfl) : mo_Sim 139 121 (ma_ast 13 0 121 122)) (mt_leaf (ms_dup (e := (.dup, 123, 0, 0, 0)) rfl (fun _ _ _ => rfl) : mo_Sim 139 122 (ma_dup 123)) (mt_leaf (ms_pushi (e := (.iconst 3, 124, 0, 0, 0)) rfl (fun _ _ _ => rfl) (by decide) : mo_Sim 139 123 (ma_push (ma_ci (.ofNat 3)) 124)) (mt_none)))
set_option maxRecDepth 100000 in
theorem smt139_47 (k : Nat) : ∀ f, mt139_47 k = some f → mo_Sim 139 k f := mt_leaf (ms_pushi (e := (.iconst (-1), 125, 0, 0, 0)) rfl (fun _ _ _ => rfl) (by decide) : mo_Sim 139 124 (ma_push (ma_ci (.negSucc 0)) 125)) (mt_leaf (ms_iast (e := (.iastore, 126, 0, 0, 0)) rfl rfl (fun _ _ _ => rfl) : mo_Sim 139 125 (ma_ast 13 0 125 126)) (mt_leaf (ms_putf (e := (.putfield 51, 129, 12, 16, 1068)) rfl rfl (fun _ _ _ => rfl) (Or.inr (Or.inr (Or.inl ⟨rfl, Or.inr ⟨_, rfl⟩⟩))) : mo_Sim 139 126 (ma_putf 12 16 2 129)) (mt_none)))
set_option maxRecDepth 100000 in
theorem smt139_45 (k : Nat) : ∀ f, mt139_45 k = some f → mo_Sim 139 k f := mt_node (smt139_46 k) (smt139_47 k)
set_option maxRecDepth 100000 in
theorem smt139_41 (k : Nat) : ∀ f, mt139_41 k = some f → mo_Sim 139 k f := mt_node (smt139_42 k) (smt139_45 k)
set_option maxRecDepth 100000 in
theorem smt139_33 (k : Nat) : ∀ f, mt139_33 k = some f → mo_Sim 139 k f := mt_node (smt139_34 k) (smt139_41 k)
set_option maxRecDepth 100000 in
theorem smt139_51 (k : Nat) : ∀ f, mt139_51 k = some f → mo_Sim 139 k f := mt_leaf (ms_ald (e := (.aload_n 0, 130, 0, 0, 0)) rfl (fun _ _ _ => rfl) : mo_Sim 139 129 (ma_lda 0 130)) (mt_leaf (ms_pushi (e := (.sipush 19683, 133, 0, 0, 0)) rfl (fun _ _ _ => rfl) (by decide) : mo_Sim 139 130 (ma_push (ma_ci (.ofNat 19683)) 133)) (mt_leaf (ms_newaI (e := (.newarray .int, 135, 0, 0, 0)) rfl rfl (fun _ _ _ => rfl) : mo_Sim 139 133 (ma_newa 13 (ma_ci (.ofNat 0)) 135)) (mt_none)))
set_option maxRecDepth 100000 in
theorem smt139_52 (k : Nat) : ∀ f, mt139_52 k = some f → mo_Sim 139 k f := mt_leaf (ms_putf (e := (.putfield 54, 138, 12, 17, 1069)) rfl rfl (fun _ _ _ => rfl) (Or.inr (Or.inr (Or.inl ⟨rfl, Or.inr ⟨_, rfl⟩⟩))) : mo_Sim 139 135 (ma_putf 12 17 2 138)) (mt_leaf (ms_ald (e := (.aload_n 0, 139, 0, 0, 0)) rfl (fun _ _ _ => rfl) : mo_Sim 139 138 (ma_lda 0 139)) (mt_leaf (ms_pushi (e := (.sipush 2313, 142, 0, 0, 0)) rfl (fun _ _ _ => rfl) (by decide) : mo_Sim 139 139 (ma_push (ma_ci (.ofNat 2313)) 142)) (mt_none)))
set_option maxRecDepth 100000 in
theorem smt139_50 (k : Nat) : ∀ f, mt139_50 k = some f → mo_Sim 139 k f := mt_node (smt139_51 k) (smt139_52 k)
set_option maxRecDepth 100000 in
theorem smt139_54 (k : Nat) : ∀ f, mt139_54 k = some f → mo_Sim 139 k f := mt_leaf (ms_newaI (e := (.newarray .int, 144, 0, 0, 0)) rfl rfl (fun _ _ _ => rfl) : mo_Sim 139 142 (ma_newa 13 (ma_ci (.ofNat 0)) 144)) (mt_leaf (ms_putf (e := (.putfield 57, 147, 12, 18, 1070)) rfl rfl (fun _ _ _ => rfl) (Or.inr (Or.inr (Or.inl ⟨rfl, Or.inr ⟨_, rfl⟩⟩))) : mo_Sim 139 144 (ma_putf 12 18 2 147)) (mt_leaf (ms_ald (e := (.aload_n 0, 148, 0, 0, 0)) rfl (fun _ _ _ => rfl) : mo_Sim 139 147 (ma_lda 0 148)) (mt_none)))
set_option maxRecDepth 100000 in
theorem smt139_55 (k : Nat) : ∀ f, mt139_55 k = some f → mo_Sim 139 k f := mt_leaf (ms_pushi (e := (.bipush 27, 150, 0, 0, 0)) rfl (fun _ _ _ => rfl) (by decide) : mo_Sim 139 148 (ma_push (ma_ci (.ofNat 27)) 150)) (mt_leaf (ms_newaI (e := (.newarray .int, 152, 0, 0, 0)) rfl rfl (fun _ _ _ => rfl) : mo_Sim 139 150 (ma_newa 13 (ma_ci (.ofNat 0)) 152)) (mt_leaf (ms_putf (e := (.putfield 60, 155, 12, 19, 1071)) rfl rfl (fun _ _ _ => rfl) (Or.inr (Or.inr (Or.inl ⟨rfl, Or.inr ⟨_, rfl⟩⟩))) : mo_Sim 139 152 (ma_putf 12 19 2 155)) (mt_none)))
set_option maxRecDepth 100000 in
theorem smt139_53 (k : Nat) : ∀ f, mt139_53 k = some f → mo_Sim 139 k f := mt_node (smt139_54 k) (smt139_55 k)
set_option maxRecDepth 100000 in
theorem smt139_49 (k : Nat) : ∀ f, mt139_49 k = some f → mo_Sim 139 k f := mt_node (smt139_50 k) (smt139_53 k)
set_option maxRecDepth 100000 in
theorem smt139_58 (k : Nat) : ∀ f, mt139_58 k = some f → mo_Sim 139 k f := mt_leaf (ms_ald (e := (.aload_n 0, 156, 0, 0, 0)) rfl (fun _ _ _ => rfl) : mo_Sim 139 155 (ma_lda 0 156)) (mt_leaf (ms_pushi (e := (.iconst (-1), 157, 0, 0, 0)) rfl (fun _ _ _ => rfl) (by decide) : mo_Sim 139 156 (ma_push (ma_ci (.negSucc 0)) 157)) (mt_leaf (ms_putf (e := (.putfield 63, 160, 12, 20, 1072)) rfl rfl (fun _ _ _ => rfl) (Or.inl ⟨rfl, rfl⟩) : mo_Sim 139 157 (ma_putf 12 20 0 160)) (mt_none)))
set_option maxRecDepth 100000 in
theorem smt139_59 (k : Nat) : ∀ f, mt139_59 k = some f → mo_Sim 139 k f := mt_leaf (ms_ald (e := (.aload_n 0, 161, 0, 0, 0)) rfl (fun _ _ _ => rfl) : mo_Sim 139 160 (ma_lda 0 161)) (mt_leaf (ms_pushi (e := (.sipush 19683, 164, 0, 0, 0)) rfl (fun _ _ _ => rfl) (by decide) : mo_Sim 139 161 (ma_push (ma_ci (.ofNat 19683)) 164)) (mt_leaf (ms_newaI (e := (.newarray .int, 166, 0, 0, 0)) rfl rfl (fun _ _ _ => rfl) : mo_Sim 139 164 (ma_newa 13 (ma_ci (.ofNat 0)) 166)) (mt_none)))
set_option maxRecDepth 100000 in
theorem smt139_57 (k : Nat) : ∀ f, mt139_57 k = some f → mo_Sim 139 k f := mt_node (smt139_58 k) (smt139_59 k)
set_option maxRecDepth 100000 in
theorem smt139_61 (k : Nat) : ∀ f, mt139_61 k = some f → mo_Sim 139 k f := mt_leaf (ms_putf (e := (.putfield 66, 169, 12, 23, 1075)) rfl rfl (fun _ _ _ => rfl) (Or.inr (Or.inr (Or.inl ⟨rfl, Or.inr ⟨_, rfl⟩⟩))) : mo_Sim 139 166 (ma_putf 12 23 2 169)) (mt_leaf (ms_ald (e := (.aload_n 0, 170, 0, 0, 0)) rfl (fun _ _ _ => rfl) : mo_Sim 139 169 (ma_lda 0 170)) (mt_leaf (ms_pushi (e := (.bipush 8, 172, 0, 0, 0)) rfl (fun _ _ _ => rfl) (by decide) : mo_Sim 139 170 (ma_push (ma_ci (.ofNat 8)) 172)) (mt_none)))
set_option maxRecDepth 100000 in
theorem smt139_62 (k : Nat) : ∀ f, mt139_62 k = some f → mo_Sim 139 k f := mt_leaf (ms_newaI (e := (.newarray .int, 174, 0, 0, 0)) rfl rfl (fun _ _ _ => rfl) : mo_Sim 139 172 (ma_newa 13 (ma_ci (.ofNat 0)) 174)) (mt_leaf (ms_putf (e := (.putfield 69, 177, 12, 24, 1076)) rfl rfl (fun _ _ _ => rfl) (Or.inr (Or.inr (Or.inl ⟨rfl, Or.inr ⟨_, rfl⟩⟩))) : mo_Sim 139 174 (ma_putf 12 24 2 177)) (mt_leaf (ms_retv (e := (.return_, 178, 0, 0, 0)) rfl rfl (fun _ _ _ => rfl) : mo_Sim 139 177 (ma_retv)) (mt_none)))
set_option maxRecDepth 100000 in
theorem smt139_60 (k : Nat) : ∀ f, mt139_60 k = some f → mo_Sim 139 k f := mt_node (smt139_61 k) (smt139_62 k)
set_option maxRecDepth 100000 in
theorem smt139_56 (k : Nat) : ∀ f, mt139_56 k = some f → mo_Sim 139 k f := mt_node (smt139_57 k) (smt139_60 k)
set_option maxRecDepth 100000 in
theorem smt139_48 (k : Nat) : ∀ f, mt139_48 k = some f → mo_Sim 139 k f := mt_node (smt139_49 k) (smt139_56 k)
set_option maxRecDepth 100000 in
theorem smt139_32 (k : Nat) : ∀ f, mt139_32 k = some f → mo_Sim 139 k f := mt_node (smt139_33 k) (smt139_48 k)
set_option maxRecDepth 100000 in
theorem smt139_0 (k : Nat) : ∀ f, mt139_0 k = some f → mo_Sim 139 k f := mt_node (smt139_1 k) (smt139_32 k)
set_option maxRecDepth 100000 in
theorem smt140_2 (k : Nat) : ∀ f, mt140_2 k = some f → mo_Sim 140 k f := mt_leaf (ms_pushi (e := (.iconst 1, 1, 0, 0, 0)) rfl (fun _ _ _ => rfl) (by decide) : mo_Sim 140 0 (ma_push (ma_ci (.ofNat 1)) 1)) (mt_leaf (ms_ist (e := (.istore_n 2, 2, 0, 0, 0)) rfl (fun _ _ _ => rfl) : mo_Sim 140 1 (ma_stor 0 2 2)) (mt_leaf (ms_pushi (e := (.iconst 0, 3, 0, 0, 0)) rfl (fun _ _ _ => rfl) (by decide) : mo_Sim 140 2 (ma_push (ma_ci (.ofNat 0)) 3)) (mt_none)))
set_option maxRecDepth 100000 in
theorem smt140_3 (k : Nat) : ∀ f, mt140_3 k = some f → mo_Sim 140 k f := mt_leaf (ms_ist (e := (.istore_n 3, 4, 0, 0, 0)) rfl (fun _ _ _ => rfl) : mo_Sim 140 3 (ma_stor 0 3 4)) (mt_leaf (ms_ild (e := (.iload_n 3, 5, 0, 0, 0)) rfl (fun _ _ _ => rfl) : mo_Sim 140 4 (ma_load 0 3 5)) (mt_leaf (ms_ild (e := (.iload_n 1, 6, 0, 0, 0)) rfl (fun _ _ _ => rfl) : mo_Sim 140 5 (ma_load 0 1 6)) (mt_leaf (ms_if2 (e := (.if_icmp .ge 13, 9, 19, 0, 0)) rfl (fun _ _ _ => rfl) : mo_Sim 140 6 (ma_if2 .ge 19 6 9)) (mt_none))))
set_option maxRecDepth 100000 in
theorem smt140_1 (k : Nat) : ∀ f, mt140_1 k = some f → mo_Sim 140 k f := mt_node (smt140_2 k) (smt140_3 k)
set_option maxRecDepth 100000 in
theorem smt140_5 (k : Nat) : ∀ f, mt140_5 k = some f → mo_Sim 140 k f := mt_leaf (ms_ild (e := (.iload_n 2, 10, 0, 0, 0)) rfl (fun _ _ _ => rfl) : mo_Sim 140 9 (ma_load 0 2 10)) (mt_leaf (ms_ild (e := (.iload_n 0, 11, 0, 0, 0)) rfl (fun _ _ _ => rfl) : mo_Sim 140 10 (ma_load 0 0 11)) (mt_leaf (ms_i2 (e := (.imul, 12, 0, 0, 0)) rfl (fun _ _ _ => rfl) hf_mul : mo_Sim 140 11 (ma_i2 ma_fmul 11 12)) (mt_leaf (ms_ist (e := (.istore_n 2, 13, 0, 0, 0)) rfl (fun _ _ _ => rfl) : mo_Sim 140 12 (ma_stor 0 2 13)) (mt_none))))
set_option maxRecDepth 100000 in
theorem smt140_6 (k : Nat) : ∀ f, mt140_6 k = some f → mo_Sim 140 k f := mt_leaf (ms_iinc (e := (.iinc 3 1, 16, 0, 0, 0)) rfl (fun _ _ _ => rfl) (by decide) : mo_Sim 140 13 (ma_iinc 3 (.ofNat 1) 13 16)) (mt_leaf (ms_goto (e := (.goto (-12), 19, 4, 0, 0)) rfl (fun _ _ _ => rfl) : mo_Sim 140 16 (ma_goto 4)) (mt_leaf (ms_ild (e := (.iload_n 2, 20, 0, 0, 0)) rfl (fun _ _ _ => rfl) : mo_Sim 140 19 (ma_load 0 2 20)) (mt_leaf (ms_ret (e := (.ireturn, 21, 0, 0, 0)) rfl (Or.inl ⟨rfl, rfl, (fun _ _ _ => rfl)⟩) : mo_Sim 140 20 (ma_ret 0)) (mt_none))))
set_option maxRecDepth 100000 in
theorem smt140_4 (k : Nat) : ∀ f, mt140_4 k = some f → mo_Sim 140 k f := mt_node (smt140_5 k) (smt140_6 k)
set_option maxRecDepth 100000 in
theorem smt140_0 (k : Nat) : ∀ f, mt140_0 k = some f → mo_Sim 140 k f := mt_node (smt140_1 k) (smt140_4 k)
set_option maxRecDepth 100000 in
theorem smt141_2 (k : Nat) : ∀ f, mt141_2 k = some f → mo_Sim 141 k f := mt_leaf (ms_pushi (e := (.iconst 0, 1, 0, 0, 0)) rfl (fun _ _ _ => rfl) (by decide) : mo_Sim 141 0 (ma_push (ma_ci (.ofNat 0)) 1)) (mt_leaf (ms_ist (e := (.istore_n 1, 2, 0, 0, 0)) rfl (fun _ _ _ => rfl) : mo_Sim 141 1 (ma_stor 0 1 2)) (mt_leaf (ms_ild (e := (.iload_n 1, 3, 0, 0, 0)) rfl (fun _ _ _ => rfl) : mo_Sim 141 2 (ma_load 0 1 3)) (mt_none)))
set_option maxRecDepth 100000 in
theorem smt141_3 (k : Nat) : ∀ f, mt141_3 k = some f → mo_Sim 141 k f := mt_leaf (ms_pushi (e := (.iconst 4, 4, 0, 0, 0)) rfl (fun _ _ _ => rfl) (by decide) : mo_Sim 141 3 (ma_push (ma_ci (.ofNat 4)) 4)) (mt_leaf (ms_if2 (e := (.if_icmp .ge 16, 7, 20, 0, 0)) rfl (fun _ _ _ => rfl) : mo_Sim 141 4 (ma_if2 .ge 20 4 7)) (mt_leaf (ms_ald (e := (.aload_n 0, 8, 0, 0, 0)) rfl (fun _ _ _ => rfl) : mo_Sim 141 7 (ma_lda 0 8)) (mt_none)))
set_option maxRecDepth 100000 in
theorem smt141_1 (k : Nat) : ∀ f, mt141_1 k = some f → mo_Sim 141 k f := mt_node (smt141_2 k) (smt141_3 k)
set_option maxRecDepth 100000 in
theorem smt141_5 (k : Nat) : ∀ f, mt141_5 k = some f → mo_Sim 141 k f := mt_leaf (ms_getf (e := (.getfield 51, 11, 12, 16, 1068)) rfl (fun _ _ _ => rfl) : mo_Sim 141 8 (ma_getf 12 16 11)) (mt_leaf (ms_ild (e := (.iload_n 1, 12, 0, 0, 0)) rfl (fun _ _ _ => rfl) : mo_Sim 141 11 (ma_load 0 1 12)) (mt_leaf (ms_pushi (e := (.iconst (-1), 13, 0, 0, 0)) rfl (fun _ _ _ => rfl) (by decide) : mo_Sim 141 12 (ma_push (ma_ci (.negSucc 0)) 13)) (mt_none)))
set_option maxRecDepth 100000 in
theorem smt141_6 (k : Nat) : ∀ f, mt141_6 k = some f → mo_Sim 141 k f := mt_leaf (ms_iast (e := (.iastore, 14, 0, 0, 0)) rfl rfl (fun _ _ _ => rfl) : mo_Sim 141 13 (ma_ast 13 0 13 14)) (mt_leaf (ms_iinc (e := (.iinc 1 1, 17, 0, 0, 0)) rfl (fun _ _ _ => rfl) (by decide) : mo_Sim 141 14 (ma_iinc 1 (.ofNat 1) 14 17)) (mt_leaf (ms_goto (e := (.goto (-15), 20, 2, 0, 0)) rfl (fun _ _ _ => rfl) : mo_Sim 141 17 (ma_goto 2)) (mt_leaf (ms_retv (e := (.return_, 21, 0, 0, 0)) rfl rfl (fun _ _ _ => rfl) : mo_Sim 141 20 (ma_retv)) (mt_none))))
set_option maxRecDepth 100000 in
theorem smt141_4 (k : Nat) : ∀ f, mt141_4 k = some f → mo_Sim 141 k f := mt_node (smt141_5 k) (smt141_6 k)
set_option maxRecDepth 100000 in
theorem smt141_0 (k : Nat) : ∀ f, mt141_0 k = some f → mo_Sim 141 k f := mt_node (smt141_1 k) (smt141_4 k)
set_option maxRecDepth 100000 in
theorem smt142_3 (k : Nat) : ∀ f, mt142_3 k = some f → mo_Sim 142 k f := mt_leaf (ms_ild (e := (.iload_n 1, 1, 0, 0, 0)) rfl (fun _ _ _ => rfl) : mo_Sim 142 0 (ma_load 0 1 1)) (mt_leaf (ms_pushi (e := (.iconst 2, 2, 0, 0, 0)) rfl (fun _ _ _ => rfl) (by decide) : mo_Sim 142 1 (ma_push (ma_ci (.ofNat 2)) 2)) (mt_leaf (ms_if2 (e := (.if_icmp .lt 8, 5, 10, 0, 0)) rfl (fun _ _ _ => rfl) : mo_Sim 142 2 (ma_if2 .lt 10 2 5)) (mt_none)))
set_option maxRecDepth 100000 in
theorem smt142_4 (k : Nat) : ∀ f, mt142_4 k = some f → mo_Sim 142 k f := mt_leaf (ms_ild (e := (.iload_n 1, 6, 0, 0, 0)) rfl (fun _ _ _ => rfl) : mo_Sim 142 5 (ma_load 0 1 6)) (mt_leaf (ms_pushi (e := (.iconst 3, 7, 0, 0, 0)) rfl (fun _ _ _ => rfl) (by decide) : mo_Sim 142 6 (ma_push (ma_ci (.ofNat 3)) 7)) (mt_leaf (ms_if2 (e := (.if_icmp .le 5, 10, 12, 0, 0)) rfl (fun _ _ _ => rfl) : mo_Sim 142 7 (ma_if2 .le 12 7 10)) (mt_leaf (ms_pushi (e := (.iconst 0, 11, 0, 0, 0)) rfl (fun _ _ _ => rfl) (by decide) : mo_Sim 142 10 (ma_push (ma_ci (.ofNat 0)) 11)) (mt_none))))
set_option maxRecDepth 100000 in
theorem smt142_2 (k : Nat) : ∀ f, mt142_2 k = some f → mo_Sim 142 k f := mt_node (smt142_3 k) (smt142_4 k)
set_option maxRecDepth 100000 in
theorem smt142_6 (k : Nat) : ∀ f, mt142_6 k = some f → mo_Sim 142 k f := mt_leaf (ms_ret (e := (.ireturn, 12, 0, 0, 0)) rfl (Or.inr (Or.inl ⟨rfl, rfl, (fun _ _ _ => rfl)⟩)) : mo_Sim 142 11 (ma_ret 1)) (mt_leaf (ms_ald (e := (.aload_n 0, 13, 0, 0, 0)) rfl (fun _ _ _ => rfl) : mo_Sim 142 12 (ma_lda 0 13)) (mt_leaf (ms_ild (e := (.iload_n 1, 14, 0, 0, 0)) rfl (fun _ _ _ => rfl) : mo_Sim 142 13 (ma_load 0 1 14)) (mt_leaf (ms_putf (e := (.putfield 7, 17, 12, 0, 1052)) rfl rfl (fun _ _ _ => rfl) (Or.inl ⟨rfl, rfl⟩) : mo_Sim 142 14 (ma_putf 12 0 0 17)) (mt_none))))
set_option maxRecDepth 100000 in
theorem smt142_7 (k : Nat) : ∀ f, mt142_7 k = some f → mo_Sim 142 k f := mt_leaf (ms_ald (e := (.aload_n 0, 18, 0, 0, 0)) rfl (fun _ _ _ => rfl) : mo_Sim 142 17 (ma_lda 0 18)) (mt_leaf (ms_pushi (e := (.iconst 0, 19, 0, 0, 0)) rfl (fun _ _ _ => rfl) (by decide) : mo_Sim 142 18 (ma_push (ma_ci (.ofNat 0)) 19)) (mt_leaf (ms_putf (e := (.putfield 72, 22, 12, 4, 1056)) rfl rfl (fun _ _ _ => rfl) (Or.inl ⟨rfl, rfl⟩) : mo_Sim 142 19 (ma_putf 12 4 0 22)) (mt_leaf (ms_ald (e := (.aload_n 0, 23, 0, 0, 0)) rfl (fun _ _ _ => rfl) : mo_Sim 142 22 (ma_lda 0 23)) (mt_none))))
set_option maxRecDepth 100000 in
theorem smt142_5 (k : Nat) : ∀ f, mt142_5 k = some f → mo_Sim 142 k f := mt_node (smt142_6 k) (smt142_7 k)
set_option maxRecDepth 100000 in
theorem smt142_1 (k : Nat) : ∀ f, mt142_1 k = some f → mo_Sim 142 k f := mt_node (smt142_2 k) (smt142_5 k)
set_option maxRecDepth 100000 in
theorem smt142_10 (k : Nat) : ∀ f, mt142_10 k = some f → mo_Sim 142 k f := mt_leaf (ms_pushi (e := (.iconst 0, 24, 0, 0, 0)) rfl (fun _ _ _ => rfl) (by decide) : mo_Sim 142 23 (ma_push (ma_ci (.ofNat 0)) 24)) (mt_leaf (ms_putf (e := (.putfield 75, 27, 12, 7, 1059)) rfl rfl (fun _ _ _ => rfl) (Or.inl ⟨rfl, rfl⟩) : mo_Sim 142 24 (ma_putf 12 7 0 27)) (mt_leaf (ms_ald (e := (.aload_n 0, 28, 0, 0, 0)) rfl (fun _ _ _ => rfl) : mo_Sim 142 27 (ma_lda 0 28)) (mt_none)))
set_option maxRecDepth 100000 in
theorem smt142_11 (k : Nat) : ∀ f, mt142_11 k = some f → mo_Sim 142 k f := mt_leaf (ms_pushi (e := (.iconst 1, 29, 0, 0, 0)) rfl (fun _ _ _ => rfl) (by decide) : mo_Sim 142 28 (ma_push (ma_ci (.ofNat 1)) 29)) (mt_leaf (ms_putf (e := (.putfield 36, 32, 12, 10, 1062)) rfl rfl (fun _ _ _ => rfl) (Or.inl ⟨rfl, rfl⟩) : mo_Sim 142 29 (ma_putf 12 10 0 32)) (mt_leaf (ms_ald (e := (.aload_n 0, 33, 0, 0, 0)) rfl (fun _ _ _ => rfl) : mo_Sim 142 32 (ma_lda 0 33)) (mt_leaf (ms_pushi (e := (.iconst 0, 34, 0, 0, 0)) rfl (fun _ _ _ => rfl) (by decide) : mo_Sim 142 33 (ma_push (ma_ci (.ofNat 0)) 34)) (mt_none))))
set_option maxRecDepth 100000 in
theorem smt142_9 (k : Nat) : ∀ f, mt142_9 k = some f → mo_Sim 142 k f := mt_node (smt142_10 k) (smt142_11 k)
set_option maxRecDepth 100000 in
theorem smt142_13 (k : Nat) : ∀ f, mt142_13 k = some f → mo_Sim 142 k f := mt_leaf (ms_putf (e := (.putfield 78, 37, 12, 11, 1063)) rfl rfl (fun _ _ _ => rfl) (Or.inl ⟨rfl, rfl⟩) : mo_Sim 142 34 (ma_putf 12 11 0 37)) (mt_leaf (ms_ald (e := (.aload_n 0, 38, 0, 0, 0)) rfl (fun _ _ _ => rfl) : mo_Sim 142 37 (ma_lda 0 38)) (mt_leaf (ms_invV (p := 0) (e := (.invokevirtual 81, 41, 141, 0, 1132)) rfl rfl (fun _ _ _ => rfl) rfl rfl rfl (by decide) : mo_Sim 142 38 (ma_inv 141 1 2 12 41)) (mt_leaf (ms_ald (e := (.aload_n 0, 42, 0, 0, 0)) rfl (fun _ _ _ => rfl) : mo_Sim 142 41 (ma_lda 0 42)) (mt_none))))
set_option maxRecDepth 100000 in
theorem smt142_14 (k : Nat) : ∀ f, mt142_14 k = some f → mo_Sim 142 k f := mt_leaf (ms_pushi (e := (.iconst (-1), 43, 0, 0, 0)) rfl (fun _ _ _ => rfl) (by decide) : mo_Sim 142 42 (ma_push (ma_ci (.negSucc 0)) 43)) (mt_leaf (ms_putf (e := (.putfield 63, 46, 12, 20, 1072)) rfl rfl (fun _ _ _ => rfl) (Or.inl ⟨rfl, rfl⟩) : mo_Sim 142 43 (ma_putf 12 20 0 46)) (mt_leaf (ms_pushi (e := (.iconst 1, 47, 0, 0, 0)) rfl (fun _ _ _ => rfl) (by decide) : mo_Sim 142 46 (ma_push (ma_ci (.ofNat 1)) 47)) (mt_leaf (ms_ret (e := (.ireturn, 48, 0, 0, 0)) rfl (Or.inr (Or.inl ⟨rfl, rfl, (fun _ _ _ => rfl)⟩)) : mo_Sim 142 47 (ma_ret 1)) (mt_none))))
set_option maxRecDepth 100000 in
theorem smt142_12 (k : Nat) : ∀ f, mt142_12 k = some f → mo_Sim 142 k f := mt_node (smt142_13 k) (smt142_14 k)
set_option maxRecDepth 100000 in
theorem smt142_8 (k : Nat) : ∀ f, mt142_8 k = some f → mo_Sim 142 k f := mt_node (smt142_9 k) (smt142_12 k)
set_option maxRecDepth 100000 in
theorem smt142_0 (k : Nat) : ∀ f, mt142_0 k = some f → mo_Sim 142 k f := mt_node (smt142_1 k) (smt142_8 k)
set_option maxRecDepth 100000 in
theorem smt143_1 (k : Nat) : ∀ f, mt143_1 k = some f → mo_Sim 143 k f := mt_leaf (ms_ild (e := (.iload_n 0, 1, 0, 0, 0)) rfl (fun _ _ _ => rfl) : mo_Sim 143 0 (ma_load 0 0 1)) (mt_leaf (ms_if0 (e := (.ifCond .lt 13, 4, 14, 0, 0)) rfl (fun _ _ _ => rfl) : mo_Sim 143 1 (ma_if0 .lt 14 1 4)) (mt_leaf (ms_ild (e := (.iload_n 0, 5, 0, 0, 0)) rfl (fun _ _ _ => rfl) : mo_Sim 143 4 (ma_load 0 0 5)) (mt_leaf (ms_pushi (e := (.bipush 7, 7, 0, 0, 0)) rfl (fun _ _ _ => rfl) (by decide) : mo_Sim 143 5 (ma_push (ma_ci (.ofNat 7)) 7)) (mt_none))))
set_option maxRecDepth 100000 in
theorem smt143_3 (k : Nat) : ∀ f, mt143_3 k = some f → mo_Sim 143 k f := mt_leaf (ms_if2 (e := (.if_icmp .gt 7, 10, 14, 0, 0)) rfl (fun _ _ _ => rfl) : mo_Sim 143 7 (ma_if2 .gt 14 7 10)) (mt_leaf (ms_pushi (e := (.iconst 1, 11, 0, 0, 0)) rfl (fun _ _ _ => rfl) (by decide) : mo_Sim 143 10 (ma_push (ma_ci (.ofNat 1)) 11)) (mt_none))
set_option maxRecDepth 100000 in
theorem smt143_4 (k : Nat) : ∀ f, mt143_4 k = some f → mo_Sim 143 k f := mt_leaf (ms_goto (e := (.goto 4, 14, 15, 0, 0)) rfl (fun _ _ _ => rfl) : mo_Sim 143 11 (ma_goto 15)) (mt_leaf (ms_pushi (e := (.iconst 0, 15, 0, 0, 0)) rfl (fun _ _ _ => rfl) (by decide) : mo_Sim 143 14 (ma_push (ma_ci (.ofNat 0)) 15)) (mt_leaf (ms_ret (e := (.ireturn, 16, 0, 0, 0)) rfl (Or.inr (Or.inl ⟨rfl, rfl, (fun _ _ _ => rfl)⟩)) : mo_Sim 143 15 (ma_ret 1)) (mt_none)))
set_option maxRecDepth 100000 in
theorem smt143_2 (k : Nat) : ∀ f, mt143_2 k = some f → mo_Sim 143 k f := mt_node (smt143_3 k) (smt143_4 k)
set_option maxRecDepth 100000 in
theorem smt143_0 (k : Nat) : ∀ f, mt143_0 k = some f → mo_Sim 143 k f := mt_node (smt143_1 k) (smt143_2 k)
set_option maxRecDepth 100000 in
theorem smt144_4 (k : Nat) : ∀ f, mt144_4 k = some f → mo_Sim 144 k f := mt_leaf (ms_ild (e := (.iload_n 1, 1, 0, 0, 0)) rfl (fun _ _ _ => rfl) : mo_Sim 144 0 (ma_load 0 1 1)) (mt_leaf (ms_invS (e := (.invokestatic 84, 4, 143, 1, 1140)) rfl rfl (fun _ _ _ => rfl) rfl rfl : mo_Sim 144 1 (ma_inv 143 1 1 20 4)) (mt_none))
set_option maxRecDepth 100000 in
theorem smt144_5 (k : Nat) : ∀ f, mt144_5 k = some f → mo_Sim 144 k f := mt_leaf (ms_if0 (e := (.ifCond .eq 18, 7, 22, 0, 0)) rfl (fun _ _ _ => rfl) : mo_Sim 144 4 (ma_if0 .eq 22 4 7)) (mt_leaf (ms_ild (e := (.iload_n 2, 8, 0, 0, 0)) rfl (fun _ _ _ => rfl) : mo_Sim 144 7 (ma_load 0 2 8)) (mt_leaf (ms_if0 (e := (.ifCond .lt 14, 11, 22, 0, 0)) rfl (fun _ _ _ => rfl) : mo_Sim 144 8 (ma_if0 .lt 22 8 11)) (mt_none)))
set_option maxRecDepth 100000 in
theorem smt144_3 (k : Nat) : ∀ f, mt144_3 k = some f → mo_Sim 144 k f := mt_node (smt144_4 k) (smt144_5 k)
set_option maxRecDepth 100000 in
theorem smt144_7 (k : Nat) : ∀ f, mt144_7 k = some f → mo_Sim 144 k f := mt_leaf (ms_ild (e := (.iload_n 2, 12, 0, 0, 0)) rfl (fun _ _ _ => rfl) : mo_Sim 144 11 (ma_load 0 2 12)) (mt_leaf (ms_pushi (e := (.iconst 3, 13, 0, 0, 0)) rfl (fun _ _ _ => rfl) (by decide) : mo_Sim 144 12 (ma_push (ma_ci (.ofNat 3)) 13)) (mt_leaf (ms_if2 (e := (.if_icmp .gt 9, 16, 22, 0, 0)) rfl (fun _ _ _ => rfl) : mo_Sim 144 13 (ma_if2 .gt 22 13 16)) (mt_none)))
set_option maxRecDepth 100000 in
theorem smt144_8 (k : Nat) : ∀ f, mt144_8 k = some f → mo_Sim 144 k f := mt_leaf (ms_ild (e := (.iload_n 3, 17, 0, 0, 0)) rfl (fun _ _ _ => rfl) : mo_Sim 144 16 (ma_load 0 3 17)) (mt_leaf (ms_pushi (e := (.bipush 40, 19, 0, 0, 0)) rfl (fun _ _ _ => rfl) (by decide) : mo_Sim 144 17 (ma_push (ma_ci (.ofNat 40)) 19)) (mt_leaf (ms_if2 (e := (.if_icmp .le 6, 22, 25, 0, 0)) rfl (fun _ _ _ => rfl) : mo_Sim 144 19 (ma_if2 .le 25 19 22)) (mt_none)))
set_option maxRecDepth 100000 in
theorem smt144_6 (k : Nat) : ∀ f, mt144_6 k = some f → mo_Sim 144 k f := mt_node (smt144_7 k) (smt144_8 k)
set_option maxRecDepth 100000 in
theorem smt144_2 (k : Nat) : ∀ f, mt144_2 k = some f → mo_Sim 144 k f := mt_node (smt144_3 k) (smt144_6 k)
set_option maxRecDepth 100000 in
theorem smt144_11 (k : Nat) : ∀ f, mt144_11 k = some f → mo_Sim 144 k f := mt_leaf (ms_pushi (e := (.bipush (-2), 24, 0, 0, 0)) rfl (fun _ _ _ => rfl) (by decide) : mo_Sim 144 22 (ma_push (ma_ci (.negSucc 1)) 24)) (mt_leaf (ms_ret (e := (.ireturn, 25, 0, 0, 0)) rfl (Or.inl ⟨rfl, rfl, (fun _ _ _ => rfl)⟩) : mo_Sim 144 24 (ma_ret 0)) (mt_leaf (ms_ild (e := (.iload_n 3, 26, 0, 0, 0)) rfl (fun _ _ _ => rfl) : mo_Sim 144 25 (ma_load 0 3 26)) (mt_none)))
set_option maxRecDepth 100000 in
theorem smt144_12 (k : Nat) : ∀ f, mt144_12 k = some f → mo_Sim 144 k f := mt_leaf (ms_if0 (e := (.ifCond .ge 6, 29, 32, 0, 0)) rfl (fun _ _ _ => rfl) : mo_Sim 144 26 (ma_if0 .ge 32 26 29)) (mt_leaf (ms_pushi (e := (.bipush (-3), 31, 0, 0, 0)) rfl (fun _ _ _ => rfl) (by decide) : mo_Sim 144 29 (ma_push (ma_ci (.negSucc 2)) 31)) (mt_leaf (ms_ret (e := (.ireturn, 32, 0, 0, 0)) rfl (Or.inl ⟨rfl, rfl, (fun _ _ _ => rfl)⟩) : mo_Sim 144 31 (ma_ret 0)) (mt_none)))
set_option maxRecDepth 100000 in
theorem smt144_10 (k : Nat) : ∀ f, mt144_10 k = some f → mo_Sim 144 k f := mt_node (smt144_11 k) (smt144_12 k)
set_option maxRecDepth 100000 in
theorem smt144_14 (k : Nat) : ∀ f, mt144_14 k = some f → mo_Sim 144 k f := mt_leaf (ms_ald (e := (.aload_n 0, 33, 0, 0, 0)) rfl (fun _ _ _ => rfl) : mo_Sim 144 32 (ma_lda 0 33)) (mt_leaf (ms_getf (e := (.getfield 13, 36, 12, 1, 1053)) rfl (fun _ _ _ => rfl) : mo_Sim 144 33 (ma_getf 12 1 36)) (mt_leaf (ms_ild (e := (.iload_n 1, 37, 0, 0, 0)) rfl (fun _ _ _ => rfl) : mo_Sim 144 36 (ma_load 0 1 37)) (mt_none)))
set_option maxRecDepth 100000 in
theorem smt144_15 (k : Nat) : ∀ f, mt144_15 k = some f → mo_Sim 144 k f := mt_leaf (ms_ild (e := (.iload_n 3, 38, 0, 0, 0)) rfl (fun _ _ _ => rfl) : mo_Sim 144 37 (ma_load 0 3 38)) (mt_leaf (ms_pushi (e := (.iconst 1, 39, 0, 0, 0)) rfl (fun _ _ _ => rfl) (by decide) : mo_Sim 144 38 (ma_push (ma_ci (.ofNat 1)) 39)) (mt_leaf (ms_iadd (e := (.iadd, 40, 0, 0, 0)) rfl (fun _ _ _ => rfl) : mo_Sim 144 39 (ma_iadd 39 40)) (mt_none)))
set_option maxRecDepth 100000 in
theorem smt144_13 (k : Nat) : ∀ f, mt144_13 k = some f → mo_Sim 144 k f := mt_node (smt144_14 k) (smt144_15 k)
set_option maxRecDepth 100000 in
theorem smt144_9 (k : Nat) : ∀ f, mt144_9 k = some f → mo_Sim 144 k f := mt_node (smt144_10 k) (smt144_13 k)
set_option maxRecDepth 100000 in
theorem smt144_1 (k : Nat) : ∀ f, mt144_1 k = some f → mo_Sim 144 k f := mt_node (smt144_2 k) (smt144_9 k)
set_option maxRecDepth 100000 in
theorem smt144_19 (k : Nat) : ∀ f, mt144_19 k = some f → mo_Sim 144 k f := mt_leaf (ms_iast (e := (.iastore, 41, 0, 0, 0)) rfl rfl (fun _ _ _ => rfl) : mo_Sim 144 40 (ma_ast 13 0 40 41)) (mt_leaf (ms_ald (e := (.aload_n 0, 42, 0, 0, 0)) rfl (fun _ _ _ => rfl) : mo_Sim 144 41 (ma_lda 0 42)) (mt_leaf (ms_getf (e := (.getfield 17, 45, 12, 2, 1054)) rfl (fun _ _ _ => rfl) : mo_Sim 144 42 (ma_getf 12 2 45)) (mt_none)))
set_option maxRecDepth 100000 in
theorem smt144_20 (k : Nat) : ∀ f, mt144_20 k = some f → mo_Sim 144 k f := mt_leaf (ms_ild (e := (.iload_n 1, 46, 0, 0, 0)) rfl (fun _ _ _ => rfl) : mo_Sim 144 45 (ma_load 0 1 46)) (mt_leaf (ms_ild (e := (.iload_n 2, 47, 0, 0, 0)) rfl (fun _ _ _ => rfl) : mo_Sim 144 46 (ma_load 0 2 47)) (mt_leaf (ms_iast (e := (.iastore, 48, 0, 0, 0)) rfl rfl (fun _ _ _ => rfl) : mo_Sim 144 47 (ma_ast 13 0 47 48)) (mt_none)))
set_option maxRecDepth 100000 in
theorem smt144_18 (k : Nat) : ∀ f, mt144_18 k = some f → mo_Sim 144 k f := mt_node (smt144_19 k) (smt144_20 k)
set_option maxRecDepth 100000 in
theorem smt144_22 (k : Nat) : ∀ f, mt144_22 k = some f → mo_Sim 144 k f := mt_leaf (ms_pushi (e := (.iconst 0, 49, 0, 0, 0)) rfl (fun _ _ _ => rfl) (by decide) : mo_Sim 144 48 (ma_push (ma_ci (.ofNat 0)) 49)) (mt_leaf (ms_ist (e := (.istore 4, 51, 0, 0, 0)) rfl (fun _ _ _ => rfl) : mo_Sim 144 49 (ma_stor 0 4 51)) (mt_leaf (ms_ild (e := (.iload 4, 53, 0, 0, 0)) rfl (fun _ _ _ => rfl) : mo_Sim 144 51 (ma_load 0 4 53)) (mt_none)))
set_option maxRecDepth 100000 in
theorem smt144_23 (k : Nat) : ∀ f, mt144_23 k = some f → mo_Sim 144 k f := mt_leaf (ms_ild (e := (.iload_n 3, 54, 0, 0, 0)) rfl (fun _ _ _ => rfl) : mo_Sim 144 53 (ma_load 0 3 54)) (mt_leaf (ms_if2 (e := (.if_icmp .ge 22, 57, 76, 0, 0)) rfl (fun _ _ _ => rfl) : mo_Sim 144 54 (ma_if2 .ge 76 54 57)) (mt_leaf (ms_ald (e := (.aload_n 0, 58, 0, 0, 0)) rfl (fun _ _ _ => rfl) : mo_Sim 144 57 (ma_lda 0 58)) (mt_none)))
set_option maxRecDepth 100000 in
theorem smt144_21 (k : Nat) : ∀ f, mt144_21 k = some f → mo_Sim 144 k f := mt_node (smt144_22 k) (smt144_23 k)
set_option maxRecDepth 100000 in
theorem smt144_17 (k : Nat) : ∀ f, mt144_17 k = some f → mo_Sim 144 k f := mt_node (smt144_18 k) (smt144_21 k)
set_option maxRecDepth 100000 in
theorem smt144_26 (k : Nat) : ∀ f, mt144_26 k = some f → mo_Sim 144 k f := mt_leaf (ms_getf (e := (.getfield 20, 61, 12, 3, 1055)) rfl (fun _ _ _ => rfl) : mo_Sim 144 58 (ma_getf 12 3 61)) (mt_leaf (ms_pushi (e := (.bipush 40, 63, 0, 0, 0)) rfl (fun _ _ _ => rfl) (by decide) : mo_Sim 144 61 (ma_push (ma_ci (.ofNat 40)) 63)) (mt_leaf (ms_ild (e := (.iload_n 1, 64, 0, 0, 0)) rfl (fun _ _ _ => rfl) : mo_Sim 144 63 (ma_load 0 1 64)) (mt_none)))
set_option maxRecDepth 100000 in
theorem smt144_27 (k : Nat) : ∀ f, mt144_27 k = some f → mo_Sim 144 k f := mt_leaf (ms_i2 (e := (.imul, 65, 0, 0, 0)) rfl (fun _ _ _ => rfl) hf_mul : mo_Sim 144 64 (ma_i2 ma_fmul 64 65)) (mt_leaf (ms_ild (e := (.iload 4, 67, 0, 0, 0)) rfl (fun _ _ _ => rfl) : mo_Sim 144 65 (ma_load 0 4 67)) (mt_leaf (ms_iadd (e := (.iadd, 68, 0, 0, 0)) rfl (fun _ _ _ => rfl) : mo_Sim 144 67 (ma_iadd 67 68)) (mt_none)))
set_option maxRecDepth 100000 in
theorem smt144_25 (k : Nat) : ∀ f, mt144_25 k = some f → mo_Sim 144 k f := mt_node (smt144_26 k) (smt144_27 k)
set_option maxRecDepth 100000 in
theorem smt144_29 (k : Nat) : ∀ f, mt144_29 k = some f → mo_Sim 144 k f := mt_leaf (ms_pushl (e := (.lconst 0, 69, 0, 0, 0)) rfl (fun _ _ _ => rfl) (by decide) : mo_Sim 144 68 (ma_push (ma_cl (.ofNat 0)) 69)) (mt_leaf (ms_last (e := (.lastore, 70, 0, 0, 0)) rfl rfl (fun _ _ _ => rfl) : mo_Sim 144 69 (ma_ast 14 2 69 70)) (mt_leaf (ms_iinc (e := (.iinc 4 1, 73, 0, 0, 0)) rfl (fun _ _ _ => rfl) (by decide) : mo_Sim 144 70 (ma_iinc 4 (.ofNat 1) 70 73)) (mt_none)))
set_option maxRecDepth 100000 in
theorem smt144_30 (k : Nat) : ∀ f, mt144_30 k = some f → mo_Sim 144 k f := mt_leaf (ms_goto (e := (.goto (-22), 76, 51, 0, 0)) rfl (fun _ _ _ => rfl) : mo_Sim 144 73 (ma_goto 51)) (mt_leaf (ms_pushi (e := (.iconst 0, 77, 0, 0, 0)) rfl (fun _ _ _ => rfl) (by decide) : mo_Sim 144 76 (ma_push (ma_ci (.ofNat 0)) 77)) (mt_leaf (ms_ret (e := (.ireturn, 78, 0, 0, 0)) rfl (Or.inl ⟨rfl, rfl, (fun _ _ _ => rfl)⟩) : mo_Sim 144 77 (ma_ret 0)) (mt_none)))
set_option maxRecDepth 100000 in
theorem smt144_28 (k : Nat) : ∀ f, mt144_28 k = some f → mo_Sim 144 k f := mt_node (smt144_29 k) (smt144_30 k)
set_option maxRecDepth 100000 in
theorem smt144_24 (k : Nat) : ∀ f, mt144_24 k = some f → mo_Sim 144 k f := mt_node (smt144_25 k) (smt144_28 k)
set_option maxRecDepth 100000 in
theorem smt144_16 (k : Nat) : ∀ f, mt144_16 k = some f → mo_Sim 144 k f := mt_node (smt144_17 k) (smt144_24 k)
set_option maxRecDepth 100000 in
theorem smt144_0 (k : Nat) : ∀ f, mt144_0 k = some f → mo_Sim 144 k f := mt_node (smt144_1 k) (smt144_16 k)
set_option maxRecDepth 100000 in
theorem smt145_2 (k : Nat) : ∀ f, mt145_2 k = some f → mo_Sim 145 k f := mt_leaf (ms_ild (e := (.iload_n 1, 1, 0, 0, 0)) rfl (fun _ _ _ => rfl) : mo_Sim 145 0 (ma_load 0 1 1)) (mt_leaf (ms_invS (e := (.invokestatic 84, 4, 143, 1, 1140)) rfl rfl (fun _ _ _ => rfl) rfl rfl : mo_Sim 145 1 (ma_inv 143 1 1 20 4)) (mt_leaf (ms_if0 (e := (.ifCond .eq 12, 7, 16, 0, 0)) rfl (fun _ _ _ => rfl) : mo_Sim 145 4 (ma_if0 .eq 16 4 7)) (mt_leaf (ms_ald (e := (.aload_n 0, 8, 0, 0, 0)) rfl (fun _ _ _ => rfl) : mo_Sim 145 7 (ma_lda 0 8)) (mt_none))))
set_option maxRecDepth 100000 in
theorem smt145_3 (k : Nat) : ∀ f, mt145_3 k = some f → mo_Sim 145 k f := mt_leaf (ms_getf (e := (.getfield 13, 11, 12, 1, 1053)) rfl (fun _ _ _ => rfl) : mo_Sim 145 8 (ma_getf 12 1 11)) (mt_leaf (ms_ild (e := (.iload_n 1, 12, 0, 0, 0)) rfl (fun _ _ _ => rfl) : mo_Sim 145 11 (ma_load 0 1 12)) (mt_leaf (ms_iald (e := (.iaload, 13, 0, 0, 0)) rfl (fun _ _ _ => rfl) : mo_Sim 145 12 (ma_iald 12 13)) (mt_leaf (ms_if0 (e := (.ifCond .ne 5, 16, 18, 0, 0)) rfl (fun _ _ _ => rfl) : mo_Sim 145 13 (ma_if0 .ne 18 13 16)) (mt_none))))
set_option maxRecDepth 100000 in
theorem smt145_1 (k : Nat) : ∀ f, mt145_1 k = some f → mo_Sim 145 k f := mt_node (smt145_2 k) (smt145_3 k)
set_option maxRecDepth 100000 in
theorem smt145_5 (k : Nat) : ∀ f, mt145_5 k = some f → mo_Sim 145 k f := mt_leaf (ms_pushi (e := (.iconst 0, 17, 0, 0, 0)) rfl (fun _ _ _ => rfl) (by decide) : mo_Sim 145 16 (ma_push (ma_ci (.ofNat 0)) 17)) (mt_leaf (ms_ret (e := (.ireturn, 18, 0, 0, 0)) rfl (Or.inr (Or.inl ⟨rfl, rfl, (fun _ _ _ => rfl)⟩)) : mo_Sim 145 17 (ma_ret 1)) (mt_leaf (ms_ald (e := (.aload_n 0, 19, 0, 0, 0)) rfl (fun _ _ _ => rfl) : mo_Sim 145 18 (ma_lda 0 19)) (mt_leaf (ms_getf (e := (.getfield 13, 22, 12, 1, 1053)) rfl (fun _ _ _ => rfl) : mo_Sim 145 19 (ma_getf 12 1 22)) (mt_none))))
set_option maxRecDepth 100000 in
theorem smt145_7 (k : Nat) : ∀ f, mt145_7 k = some f → mo_Sim 145 k f := mt_leaf (ms_ild (e := (.iload_n 1, 23, 0, 0, 0)) rfl (fun _ _ _ => rfl) : mo_Sim 145 22 (ma_load 0 1 23)) (mt_leaf (ms_pushi (e := (.iconst 0, 24, 0, 0, 0)) rfl (fun _ _ _ => rfl) (by decide) : mo_Sim 145 23 (ma_push (ma_ci (.ofNat 0)) 24)) (mt_none))
set_option maxRecDepth 100000 in
theorem smt145_8 (k : Nat) : ∀ f, mt145_8 k = some f → mo_Sim 145 k f := mt_leaf (ms_iast (e := (.iastore, 25, 0, 0, 0)) rfl rfl (fun _ _ _ => rfl) : mo_Sim 145 24 (ma_ast 13 0 24 25)) (mt_leaf (ms_pushi (e := (.iconst 1, 26, 0, 0, 0)) rfl (fun _ _ _ => rfl) (by decide) : mo_Sim 145 25 (ma_push (ma_ci (.ofNat 1)) 26)) (mt_leaf (ms_ret (e := (.ireturn, 27, 0, 0, 0)) rfl (Or.inr (Or.inl ⟨rfl, rfl, (fun _ _ _ => rfl)⟩)) : mo_Sim 145 26 (ma_ret 1)) (mt_none)))
set_option maxRecDepth 100000 in
theorem smt145_6 (k : Nat) : ∀ f, mt145_6 k = some f → mo_Sim 145 k f := mt_node (smt145_7 k) (smt145_8 k)
set_option maxRecDepth 100000 in
theorem smt145_4 (k : Nat) : ∀ f, mt145_4 k = some f → mo_Sim 145 k f := mt_node (smt145_5 k) (smt145_6 k)
set_option maxRecDepth 100000 in
theorem smt145_0 (k : Nat) : ∀ f, mt145_0 k = some f → mo_Sim 145 k f := mt_node (smt145_1 k) (smt145_4 k)
set_option maxRecDepth 100000 in
theorem smt146_4 (k : Nat) : ∀ f, mt146_4 k = some f → mo_Sim 146 k f := mt_leaf (ms_ild (e := (.iload_n 1, 1, 0, 0, 0)) rfl (fun _ _ _ => rfl) : mo_Sim 146 0 (ma_load 0 1 1)) (mt_leaf (ms_invS (e := (.invokestatic 84, 4, 143, 1, 1140)) rfl rfl (fun _ _ _ => rfl) rfl rfl : mo_Sim 146 1 (ma_inv 143 1 1 20 4)) (mt_leaf (ms_if0 (e := (.ifCond .ne 6, 7, 10, 0, 0)) rfl (fun _ _ _ => rfl) : mo_Sim 146 4 (ma_if0 .ne 10 4 7)) (mt_none)))
set_option maxRecDepth 100000 in
theorem smt146_5 (k : Nat) : ∀ f, mt146_5 k = some f → mo_Sim 146 k f := mt_leaf (ms_pushi (e := (.bipush (-2), 9, 0, 0, 0)) rfl (fun _ _ _ => rfl) (by decide) : mo_Sim 146 7 (ma_push (ma_ci (.negSucc 1)) 9)) (mt_leaf (ms_ret (e := (.ireturn, 10, 0, 0, 0)) rfl (Or.inl ⟨rfl, rfl, (fun _ _ _ => rfl)⟩) : mo_Sim 146 9 (ma_ret 0)) (mt_leaf (ms_ald (e := (.aload_n 0, 11, 0, 0, 0)) rfl (fun _ _ _ => rfl) : mo_Sim 146 10 (ma_lda 0 11)) (mt_leaf (ms_getf (e := (.getfield 13, 14, 12, 1, 1053)) rfl (fun _ _ _ => rfl) : mo_Sim 146 11 (ma_getf 12 1 14)) (mt_none))))
set_option maxRecDepth 100000 in
theorem smt146_3 (k : Nat) : ∀ f, mt146_3 k = some f → mo_Sim 146 k f := mt_node (smt146_4 k) (smt146_5 k)
set_option maxRecDepth 100000 in
theorem smt146_7 (k : Nat) : ∀ f, mt146_7 k = some f → mo_Sim 146 k f := mt_leaf (ms_ild (e := (.iload_n 1, 15, 0, 0, 0)) rfl (fun _ _ _ => rfl) : mo_Sim 146 14 (ma_load 0 1 15)) (mt_leaf (ms_iald (e := (.iaload, 16, 0, 0, 0)) rfl (fun _ _ _ => rfl) : mo_Sim 146 15 (ma_iald 15 16)) (mt_leaf (ms_if0 (e := (.ifCond .ne 6, 19, 22, 0, 0)) rfl (fun _ _ _ => rfl) : mo_Sim 146 16 (ma_if0 .ne 22 16 19)) (mt_leaf (ms_pushi (e := (.bipush (-5), 21, 0, 0, 0)) rfl (fun _ _ _ => rfl) (by decide) : mo_Sim 146 19 (ma_push (ma_ci (.negSucc 4)) 21)) (mt_none))))
set_option maxRecDepth 100000 in
theorem smt146_8 (k : Nat) : ∀ f, mt146_8 k = some f → mo_Sim 146 k f := mt_leaf (ms_ret (e := (.ireturn, 22, 0, 0, 0)) rfl (Or.inl ⟨rfl, rfl, (fun _ _ _ => rfl)⟩) : mo_Sim 146 21 (ma_ret 0)) (mt_leaf (ms_ild (e := (.iload_n 2, 23, 0, 0, 0)) rfl (fun _ _ _ => rfl) : mo_Sim 146 22 (ma_load 0 2 23)) (mt_leaf (ms_if0 (e := (.ifCond .lt 15, 26, 38, 0, 0)) rfl (fun _ _ _ => rfl) : mo_Sim 146 23 (ma_if0 .lt 38 23 26)) (mt_leaf (ms_ild (e := (.iload_n 2, 27, 0, 0, 0)) rfl (fun _ _ _ => rfl) : mo_Sim 146 26 (ma_load 0 2 27)) (mt_none))))
set_option maxRecDepth 100000 in
theorem smt146_6 (k : Nat) : ∀ f, mt146_6 k = some f → mo_Sim 146 k f := mt_node (smt146_7 k) (smt146_8 k)
set_option maxRecDepth 100000 in
theorem smt146_2 (k : Nat) : ∀ f, mt146_2 k = some f → mo_Sim 146 k f := mt_node (smt146_3 k) (smt146_6 k)
set_option maxRecDepth 100000 in
theorem smt146_11 (k : Nat) : ∀ f, mt146_11 k = some f → mo_Sim 146 k f := mt_leaf (ms_ald (e := (.aload_n 0, 28, 0, 0, 0)) rfl (fun _ _ _ => rfl) : mo_Sim 146 27 (ma_lda 0 28)) (mt_leaf (ms_getf (e := (.getfield 13, 31, 12, 1, 1053)) rfl (fun _ _ _ => rfl) : mo_Sim 146 28 (ma_getf 12 1 31)) (mt_leaf (ms_ild (e := (.iload_n 1, 32, 0, 0, 0)) rfl (fun _ _ _ => rfl) : mo_Sim 146 31 (ma_load 0 1 32)) (mt_leaf (ms_iald (e := (.iaload, 33, 0, 0, 0)) rfl (fun _ _ _ => rfl) : mo_Sim 146 32 (ma_iald 32 33)) (mt_none))))
set_option maxRecDepth 100000 in
theorem smt146_12 (k : Nat) : ∀ f, mt146_12 k = some f → mo_Sim 146 k f := mt_leaf (ms_pushi (e := (.iconst 1, 34, 0, 0, 0)) rfl (fun _ _ _ => rfl) (by decide) : mo_Sim 146 33 (ma_push (ma_ci (.ofNat 1)) 34)) (mt_leaf (ms_isub (e := (.isub, 35, 0, 0, 0)) rfl (fun _ _ _ => rfl) : mo_Sim 146 34 (ma_isub 34 35)) (mt_leaf (ms_if2 (e := (.if_icmp .lt 6, 38, 41, 0, 0)) rfl (fun _ _ _ => rfl) : mo_Sim 146 35 (ma_if2 .lt 41 35 38)) (mt_leaf (ms_pushi (e := (.bipush (-6), 40, 0, 0, 0)) rfl (fun _ _ _ => rfl) (by decide) : mo_Sim 146 38 (ma_push (ma_ci (.negSucc 5)) 40)) (mt_none))))
set_option maxRecDepth 100000 in
theorem smt146_10 (k : Nat) : ∀ f, mt146_10 k = some f → mo_Sim 146 k f := mt_node (smt146_11 k) (smt146_12 k)
set_option maxRecDepth 100000 in
theorem smt146_14 (k : Nat) : ∀ f, mt146_14 k = some f → mo_Sim 146 k f := mt_leaf (ms_ret (e := (.ireturn, 41, 0, 0, 0)) rfl (Or.inl ⟨rfl, rfl, (fun _ _ _ => rfl)⟩) : mo_Sim 146 40 (ma_ret 0)) (mt_leaf (ms_ald (e := (.aload_n 0, 42, 0, 0, 0)) rfl (fun _ _ _ => rfl) : mo_Sim 146 41 (ma_lda 0 42)) (mt_leaf (ms_getf (e := (.getfield 17, 45, 12, 2, 1054)) rfl (fun _ _ _ => rfl) : mo_Sim 146 42 (ma_getf 12 2 45)) (mt_leaf (ms_ild (e := (.iload_n 1, 46, 0, 0, 0)) rfl (fun _ _ _ => rfl) : mo_Sim 146 45 (ma_load 0 1 46)) (mt_none))))
set_option maxRecDepth 100000 in
theorem smt146_15 (k : Nat) : ∀ f, mt146_15 k = some f → mo_Sim 146 k f := mt_leaf (ms_iald (e := (.iaload, 47, 0, 0, 0)) rfl (fun _ _ _ => rfl) : mo_Sim 146 46 (ma_iald 46 47)) (mt_leaf (ms_ist (e := (.istore 5, 49, 0, 0, 0)) rfl (fun _ _ _ => rfl) : mo_Sim 146 47 (ma_stor 0 5 49)) (mt_leaf (ms_ald (e := (.aload_n 0, 50, 0, 0, 0)) rfl (fun _ _ _ => rfl) : mo_Sim 146 49 (ma_lda 0 50)) (mt_leaf (ms_getf (e := (.getfield 20, 53, 12, 3, 1055)) rfl (fun _ _ _ => rfl) : mo_Sim 146 50 (ma_getf 12 3 53)) (mt_none))))
set_option maxRecDepth 100000 in
theorem smt146_13 (k : Nat) : ∀ f, mt146_13 k = some f → mo_Sim 146 k f := mt_node (smt146_14 k) (smt146_15 k)
set_option maxRecDepth 100000 in
theorem smt146_9 (k : Nat) : ∀ f, mt146_9 k = some f → mo_Sim 146 k f := mt_node (smt146_10 k) (smt146_13 k)
set_option maxRecDepth 100000 in
theorem smt146_1 (k : Nat) : ∀ f, mt146_1 k = some f → mo_Sim 146 k f := mt_node (smt146_2 k) (smt146_9 k)
set_option maxRecDepth 100000 in
theorem smt146_19 (k : Nat) : ∀ f, mt146_19 k = some f → mo_Sim 146 k f := mt_leaf (ms_pushi (e := (.bipush 40, 55, 0, 0, 0)) rfl (fun _ _ _ => rfl) (by decide) : mo_Sim 146 53 (ma_push (ma_ci (.ofNat 40)) 55)) (mt_leaf (ms_ild (e := (.iload_n 1, 56, 0, 0, 0)) rfl (fun _ _ _ => rfl) : mo_Sim 146 55 (ma_load 0 1 56)) (mt_leaf (ms_i2 (e := (.imul, 57, 0, 0, 0)) rfl (fun _ _ _ => rfl) hf_mul : mo_Sim 146 56 (ma_i2 ma_fmul 56 57)) (mt_none)))
set_option maxRecDepth 100000 in
theorem smt146_20 (k : Nat) : ∀ f, mt146_20 k = some f → mo_Sim 146 k f := mt_leaf (ms_ild (e := (.iload_n 2, 58, 0, 0, 0)) rfl (fun _ _ _ => rfl) : mo_Sim 146 57 (ma_load 0 2 58)) (mt_leaf (ms_iadd (e := (.iadd, 59, 0, 0, 0)) rfl (fun _ _ _ => rfl) : mo_Sim 146 58 (ma_iadd 58 59)) (mt_leaf (ms_ild (e := (.iload 5, 61, 0, 0, 0)) rfl (fun _ _ _ => rfl) : mo_Sim 146 59 (ma_load 0 5 61)) (mt_leaf (ms_if0 (e := (.ifCond .ne 10, 64, 71, 0, 0)) rfl (fun _ _ _ => rfl) : mo_Sim 146 61 (ma_if0 .ne 71 61 64)) (mt_none))))
set_option maxRecDepth 100000 in
theorem smt146_18 (k : Nat) : ∀ f, mt146_18 k = some f → mo_Sim 146 k f := mt_node (smt146_19 k) (smt146_20 k)
set_option maxRecDepth 100000 in
theorem smt146_22 (k : Nat) : ∀ f, mt146_22 k = some f → mo_Sim 146 k f := mt_leaf (ms_lld (e := (.lload_n 3, 65, 0, 0, 0)) rfl (fun _ _ _ => rfl) : mo_Sim 146 64 (ma_load 2 3 65)) (mt_leaf (ms_l2i (e := (.l2i, 66, 0, 0, 0)) rfl (fun _ _ _ => rfl) : mo_Sim 146 65 (ma_l2i 66)) (mt_leaf (ms_i1 (e := (.i2b, 67, 0, 0, 0)) rfl (fun _ _ _ => rfl) hh_b : mo_Sim 146 66 (ma_i1 ma_hb 66 67)) (mt_leaf (ms_i2l (e := (.i2l, 68, 0, 0, 0)) rfl (fun _ _ _ => rfl) : mo_Sim 146 67 (ma_i2l 68)) (mt_none))))
set_option maxRecDepth 100000 in
theorem smt146_23 (k : Nat) : ∀ f, mt146_23 k = some f → mo_Sim 146 k f := mt_leaf (ms_goto (e := (.goto 29, 71, 97, 0, 0)) rfl (fun _ _ _ => rfl) : mo_Sim 146 68 (ma_goto 97)) (mt_leaf (ms_ild (e := (.iload 5, 73, 0, 0, 0)) rfl (fun _ _ _ => rfl) : mo_Sim 146 71 (ma_load 0 5 73)) (mt_leaf (ms_pushi (e := (.iconst 1, 74, 0, 0, 0)) rfl (fun _ _ _ => rfl) (by decide) : mo_Sim 146 73 (ma_push (ma_ci (.ofNat 1)) 74)) (mt_leaf (ms_if2 (e := (.if_icmp .ne 10, 77, 84, 0, 0)) rfl (fun _ _ _ => rfl) : mo_Sim 146 74 (ma_if2 .ne 84 74 77)) (mt_none))))
set_option maxRecDepth 100000 in
theorem smt146_21 (k : Nat) : ∀ f, mt146_21 k = some f → mo_Sim 146 k f := mt_node (smt146_22 k) (smt146_23 k)
set_option maxRecDepth 100000 in
theorem smt146_17 (k : Nat) : ∀ f, mt146_17 k = some f → mo_Sim 146 k f := mt_node (smt146_18 k) (smt146_21 k)
set_option maxRecDepth 100000 in
theorem smt146_26 (k : Nat) : ∀ f, mt146_26 k = some f → mo_Sim 146 k f := mt_leaf (ms_lld (e := (.lload_n 3, 78, 0, 0, 0)) rfl (fun _ _ _ => rfl) : mo_Sim 146 77 (ma_load 2 3 78)) (mt_leaf (ms_l2i (e := (.l2i, 79, 0, 0, 0)) rfl (fun _ _ _ => rfl) : mo_Sim 146 78 (ma_l2i 79)) (mt_leaf (ms_i1 (e := (.i2s, 80, 0, 0, 0)) rfl (fun _ _ _ => rfl) hh_s : mo_Sim 146 79 (ma_i1 ma_hs 79 80)) (mt_leaf (ms_i2l (e := (.i2l, 81, 0, 0, 0)) rfl (fun _ _ _ => rfl) : mo_Sim 146 80 (ma_i2l 81)) (mt_none))))
set_option maxRecDepth 100000 in
theorem smt146_27 (k : Nat) : ∀ f, mt146_27 k = some f → mo_Sim 146 k f := mt_leaf (ms_goto (e := (.goto 16, 84, 97, 0, 0)) rfl (fun _ _ _ => rfl) : mo_Sim 146 81 (ma_goto 97)) (mt_leaf (ms_ild (e := (.iload 5, 86, 0, 0, 0)) rfl (fun _ _ _ => rfl) : mo_Sim 146 84 (ma_load 0 5 86)) (mt_leaf (ms_pushi (e := (.iconst 2, 87, 0, 0, 0)) rfl (fun _ _ _ => rfl) (by decide) : mo_Sim 146 86 (ma_push (ma_ci (.ofNat 2)) 87)) (mt_leaf (ms_if2 (e := (.if_icmp .ne 9, 90, 96, 0, 0)) rfl (fun _ _ _ => rfl) : mo_Sim 146 87 (ma_if2 .ne 96 87 90)) (mt_none))))
set_option maxRecDepth 100000 in
theorem smt146_25 (k : Nat) : ∀ f, mt146_25 k = some f → mo_Sim 146 k f := mt_node (smt146_26 k) (smt146_27 k)
set_option maxRecDepth 100000 in
theorem smt146_29 (k : Nat) : ∀ f, mt146_29 k = some f → mo_Sim 146 k f := mt_leaf (ms_lld (e := (.lload_n 3, 91, 0, 0, 0)) rfl (fun _ _ _ => rfl) : mo_Sim 146 90 (ma_load 2 3 91)) (mt_leaf (ms_l2i (e := (.l2i, 92, 0, 0, 0)) rfl (fun _ _ _ => rfl) : mo_Sim 146 91 (ma_l2i 92)) (mt_leaf (ms_i2l (e := (.i2l, 93, 0, 0, 0)) rfl (fun _ _ _ => rfl) : mo_Sim 146 92 (ma_i2l 93)) (mt_leaf (ms_goto (e := (.goto 4, 96, 97, 0, 0)) rfl (fun _ _ _ => rfl) : mo_Sim 146 93 (ma_goto 97)) (mt_none))))
set_option maxRecDepth 100000 in
theorem smt146_30 (k : Nat) : ∀ f, mt146_30 k = some f → mo_Sim 146 k f := mt_leaf (ms_lld (e := (.lload_n 3, 97, 0, 0, 0)) rfl (fun _ _ _ => rfl) : mo_Sim 146 96 (ma_load 2 3 97)) (mt_leaf (ms_last (e := (.lastore, 98, 0, 0, 0)) rfl rfl (fun _ _ _ => rfl) : mo_Sim 146 97 (ma_ast 14 2 97 98)) (mt_leaf (ms_pushi (e := (.iconst 0, 99, 0, 0, 0)) rfl (fun _ _ _ => rfl) (by decide) : mo_Sim 146 98 (ma_push (ma_ci (.ofNat 0)) 99)) (mt_leaf (ms_ret (e := (.ireturn, 100, 0, 0, 0)) rfl (Or.inl ⟨rfl, rfl, (fun _ _ _ => rfl)⟩) : mo_Sim 146 99 (ma_ret 0)) (mt_none))))
set_option maxRecDepth 100000 in
theorem smt146_28 (k : Nat) : ∀ f, mt146_28 k = some f → mo_Sim 146 k f := mt_node (smt146_29 k) (smt146_30 k)
set_option maxRecDepth 100000 in
theorem smt146_24 (k : Nat) : ∀ f, mt146_24 k = some f → mo_Sim 146 k f := mt_node (smt146_25 k) (smt146_28 k)
set_option maxRecDepth 100000 in
theorem smt146_16 (k : Nat) : ∀ f, mt146_16 k = some f → mo_Sim 146 k f := mt_node (smt146_17 k) (smt146_24 k)
set_option maxRecDepth 100000 in
theorem smt146_0 (k : Nat) : ∀ f, mt146_0 k = some f → mo_Sim 146 k f := mt_node (smt146_1 k) (smt146_16 k)
set_option maxRecDepth 100000 in
theorem smt147_2 (k : Nat) : ∀ f, mt147_2 k = some f → mo_Sim 147 k f := mt_leaf (ms_lld (e := (.lload_n 1, 1, 0, 0, 0)) rfl (fun _ _ _ => rfl) : mo_Sim 147 0 (ma_load 2 1 1)) (mt_leaf (ms_pushl (e := (.lconst 0, 2, 0, 0, 0)) rfl (fun _ _ _ => rfl) (by decide) : mo_Sim 147 1 (ma_push (ma_cl (.ofNat 0)) 2)) (mt_leaf (ms_lcmp (e := (.lcmp, 3, 0, 0, 0)) rfl (fun _ _ _ => rfl) : mo_Sim 147 2 (ma_lcmp 3)) (mt_none)))
set_option maxRecDepth 100000 in
theorem smt147_3 (k : Nat) : ∀ f, mt147_3 k = some f → mo_Sim 147 k f := mt_leaf (ms_if0 (e := (.ifCond .lt 17, 6, 20, 0, 0)) rfl (fun _ _ _ => rfl) : mo_Sim 147 3 (ma_if0 .lt 20 3 6)) (mt_leaf (ms_lld (e := (.lload_n 1, 7, 0, 0, 0)) rfl (fun _ _ _ => rfl) : mo_Sim 147 6 (ma_load 2 1 7)) (mt_leaf (ms_ald (e := (.aload_n 0, 8, 0, 0, 0)) rfl (fun _ _ _ => rfl) : mo_Sim 147 7 (ma_lda 0 8)) (mt_leaf (ms_getf (e := (.getfield 7, 11, 12, 0, 1052)) rfl (fun _ _ _ => rfl) : mo_Sim 147 8 (ma_getf 12 0 11)) (mt_none))))
set_option maxRecDepth 100000 in
theorem smt147_1 (k : Nat) : ∀ f, mt147_1 k = some f → mo_Sim 147 k f := mt_node (smt147_2 k) (smt147_3 k)
set_option maxRecDepth 100000 in
theorem smt147_5 (k : Nat) : ∀ f, mt147_5 k = some f → mo_Sim 147 k f := mt_leaf (ms_i2l (e := (.i2l, 12, 0, 0, 0)) rfl (fun _ _ _ => rfl) : mo_Sim 147 11 (ma_i2l 12)) (mt_leaf (ms_lcmp (e := (.lcmp, 13, 0, 0, 0)) rfl (fun _ _ _ => rfl) : mo_Sim 147 12 (ma_lcmp 13)) (mt_leaf (ms_if0 (e := (.ifCond .ge 7, 16, 20, 0, 0)) rfl (fun _ _ _ => rfl) : mo_Sim 147 13 (ma_if0 .ge 20 13 16)) (mt_none)))
set_option maxRecDepth 100000 in
theorem smt147_6 (k : Nat) : ∀ f, mt147_6 k = some f → mo_Sim 147 k f := mt_leaf (ms_pushi (e := (.iconst 1, 17, 0, 0, 0)) rfl (fun _ _ _ => rfl) (by decide) : mo_Sim 147 16 (ma_push (ma_ci (.ofNat 1)) 17)) (mt_leaf (ms_goto (e := (.goto 4, 20, 21, 0, 0)) rfl (fun _ _ _ => rfl) : mo_Sim 147 17 (ma_goto 21)) (mt_leaf (ms_pushi (e := (.iconst 0, 21, 0, 0, 0)) rfl (fun _ _ _ => rfl) (by decide) : mo_Sim 147 20 (ma_push (ma_ci (.ofNat 0)) 21)) (mt_leaf (ms_ret (e := (.ireturn, 22, 0, 0, 0)) rfl (Or.inr (Or.inl ⟨rfl, rfl, (fun _ _ _ => rfl)⟩)) : mo_Sim 147 21 (ma_ret 1)) (mt_none))))
set_option maxRecDepth 100000 in
theorem smt147_4 (k : Nat) : ∀ f, mt147_4 k = some f → mo_Sim 147 k f := mt_node (smt147_5 k) (smt147_6 k)
set_option maxRecDepth 100000 in
theorem smt147_0 (k : Nat) : ∀ f, mt147_0 k = some f → mo_Sim 147 k f := mt_node (smt147_1 k) (smt147_4 k)
set_option maxRecDepth 100000 in
theorem smt148_5 (k : Nat) : ∀ f, mt148_5 k = some f → mo_Sim 148 k f := mt_leaf (ms_ild (e := (.iload_n 2, 1, 0, 0, 0)) rfl (fun _ _ _ => rfl) : mo_Sim 148 0 (ma_load 0 2 1)) (mt_leaf (ms_invS (e := (.invokestatic 84, 4, 143, 1, 1140)) rfl rfl (fun _ _ _ => rfl) rfl rfl : mo_Sim 148 1 (ma_inv 143 1 1 20 4)) (mt_leaf (ms_if0 (e := (.ifCond .eq 13, 7, 17, 0, 0)) rfl (fun _ _ _ => rfl) : mo_Sim 148 4 (ma_if0 .eq 17 4 7)) (mt_none)))
set_option maxRecDepth 100000 in
theorem smt148_6 (k : Nat) : ∀ f, mt148_6 k = some f → mo_Sim 148 k f := mt_leaf (ms_ild (e := (.iload_n 1, 8, 0, 0, 0)) rfl (fun _ _ _ => rfl) : mo_Sim 148 7 (ma_load 0 1 8)) (mt_leaf (ms_pushi (e := (.iconst 1, 9, 0, 0, 0)) rfl (fun _ _ _ => rfl) (by decide) : mo_Sim 148 8 (ma_push (ma_ci (.ofNat 1)) 9)) (mt_leaf (ms_if2 (e := (.if_icmp .lt 8, 12, 17, 0, 0)) rfl (fun _ _ _ => rfl) : mo_Sim 148 9 (ma_if2 .lt 17 9 12)) (mt_leaf (ms_ild (e := (.iload_n 1, 13, 0, 0, 0)) rfl (fun _ _ _ => rfl) : mo_Sim 148 12 (ma_load 0 1 13)) (mt_none))))
set_option maxRecDepth 100000 in
theorem smt148_4 (k : Nat) : ∀ f, mt148_4 k = some f → mo_Sim 148 k f := mt_node (smt148_5 k) (smt148_6 k)
set_option maxRecDepth 100000 in
theorem smt148_8 (k : Nat) : ∀ f, mt148_8 k = some f → mo_Sim 148 k f := mt_leaf (ms_pushi (e := (.iconst 3, 14, 0, 0, 0)) rfl (fun _ _ _ => rfl) (by decide) : mo_Sim 148 13 (ma_push (ma_ci (.ofNat 3)) 14)) (mt_leaf (ms_if2 (e := (.if_icmp .le 6, 17, 20, 0, 0)) rfl (fun _ _ _ => rfl) : mo_Sim 148 14 (ma_if2 .le 20 14 17)) (mt_leaf (ms_pushi (e := (.bipush (-2), 19, 0, 0, 0)) rfl (fun _ _ _ => rfl) (by decide) : mo_Sim 148 17 (ma_push (ma_ci (.negSucc 1)) 19)) (mt_leaf (ms_ret (e := (.ireturn, 20, 0, 0, 0)) rfl (Or.inl ⟨rfl, rfl, (fun _ _ _ => rfl)⟩) : mo_Sim 148 19 (ma_ret 0)) (mt_none))))
set_option maxRecDepth 100000 in
theorem smt148_9 (k : Nat) : ∀ f, mt148_9 k = some f → mo_Sim 148 k f := mt_leaf (ms_pushi (e := (.iconst 0, 21, 0, 0, 0)) rfl (fun _ _ _ => rfl) (by decide) : mo_Sim 148 20 (ma_push (ma_ci (.ofNat 0)) 21)) (mt_leaf (ms_ist (e := (.istore_n 3, 22, 0, 0, 0)) rfl (fun _ _ _ => rfl) : mo_Sim 148 21 (ma_stor 0 3 22)) (mt_leaf (ms_pushi (e := (.iconst 0, 23, 0, 0, 0)) rfl (fun _ _ _ => rfl) (by decide) : mo_Sim 148 22 (ma_push (ma_ci (.ofNat 0)) 23)) (mt_leaf (ms_ist (e := (.istore 4, 25, 0, 0, 0)) rfl (fun _ _ _ => rfl) : mo_Sim 148 23 (ma_stor 0 4 25)) (mt_none))))
set_option maxRecDepth 100000 in
theorem smt148_7 (k : Nat) : ∀ f, mt148_7 k = some f → mo_Sim 148 k f := mt_node (smt148_8 k) (smt148_9 k)
set_option maxRecDepth 100000 in
theorem smt148_3 (k : Nat) : ∀ f, mt148_3 k = some f → mo_Sim 148 k f := mt_node (smt148_4 k) (smt148_7 k)
set_option maxRecDepth 100000 in
theorem smt148_12 (k : Nat) : ∀ f, mt148_12 k = some f → mo_Sim 148 k f := mt_leaf (ms_ild (e := (.iload 4, 27, 0, 0, 0)) rfl (fun _ _ _ => rfl) : mo_Sim 148 25 (ma_load 0 4 27)) (mt_leaf (ms_ald (e := (.aload_n 0, 28, 0, 0, 0)) rfl (fun _ _ _ => rfl) : mo_Sim 148 27 (ma_lda 0 28)) (mt_leaf (ms_getf (e := (.getfield 72, 31, 12, 4, 1056)) rfl (fun _ _ _ => rfl) : mo_Sim 148 28 (ma_getf 12 4 31)) (mt_leaf (ms_if2 (e := (.if_icmp .ge 28, 34, 59, 0, 0)) rfl (fun _ _ _ => rfl) : mo_Sim 148 31 (ma_if2 .ge 59 31 34)) (mt_none))))
set_option maxRecDepth 100000 in
theorem smt148_13 (k : Nat) : ∀ f, mt148_13 k = some f → mo_Sim 148 k f := mt_leaf (ms_ild (e := (.iload_n 3, 35, 0, 0, 0)) rfl (fun _ _ _ => rfl) : mo_Sim 148 34 (ma_load 0 3 35)) (mt_leaf (ms_ald (e := (.aload_n 0, 36, 0, 0, 0)) rfl (fun _ _ _ => rfl) : mo_Sim 148 35 (ma_lda 0 36)) (mt_leaf (ms_getf (e := (.getfield 24, 39, 12, 5, 1057)) rfl (fun _ _ _ => rfl) : mo_Sim 148 36 (ma_getf 12 5 39)) (mt_leaf (ms_ild (e := (.iload 4, 41, 0, 0, 0)) rfl (fun _ _ _ => rfl) : mo_Sim 148 39 (ma_load 0 4 41)) (mt_none))))
set_option maxRecDepth 100000 in
theorem smt148_11 (k : Nat) : ∀ f, mt148_11 k = some f → mo_Sim 148 k f := mt_node (smt148_12 k) (smt148_13 k)
set_option maxRecDepth 100000 in
theorem smt148_15 (k : Nat) : ∀ f, mt148_15 k = some f → mo_Sim 148 k f := mt_leaf (ms_iald (e := (.iaload, 42, 0, 0, 0)) rfl (fun _ _ _ => rfl) : mo_Sim 148 41 (ma_iald 41 42)) (mt_leaf (ms_pushi (e := (.iconst 3, 43, 0, 0, 0)) rfl (fun _ _ _ => rfl) (by decide) : mo_Sim 148 42 (ma_push (ma_ci (.ofNat 3)) 43)) (mt_leaf (ms_if2 (e := (.if_icmp .ne 7, 46, 50, 0, 0)) rfl (fun _ _ _ => rfl) : mo_Sim 148 43 (ma_if2 .ne 50 43 46)) (mt_leaf (ms_pushi (e := (.iconst 1, 47, 0, 0, 0)) rfl (fun _ _ _ => rfl) (by decide) : mo_Sim 148 46 (ma_push (ma_ci (.ofNat 1)) 47)) (mt_none))))
set_option maxRecDepth 100000 in
theorem smt148_16 (k : Nat) : ∀ f, mt148_16 k = some f → mo_Sim 148 k f := mt_leaf (ms_goto (e := (.goto 4, 50, 51, 0, 0)) rfl (fun _ _ _ => rfl) : mo_Sim 148 47 (ma_goto 51)) (mt_leaf (ms_pushi (e := (.iconst 0, 51, 0, 0, 0)) rfl (fun _ _ _ => rfl) (by decide) : mo_Sim 148 50 (ma_push (ma_ci (.ofNat 0)) 51)) (mt_leaf (ms_iadd (e := (.iadd, 52, 0, 0, 0)) rfl (fun _ _ _ => rfl) : mo_Sim 148 51 (ma_iadd 51 52)) (mt_leaf (ms_ist (e := (.istore_n 3, 53, 0, 0, 0)) rfl (fun _ _ _ => rfl) : mo_Sim 148 52 (ma_stor 0 3 53)) (mt_none))))
set_option maxRecDepth 100000 in
theorem smt148_14 (k : Nat) : ∀ f, mt148_14 k = some f → mo_Sim 148 k f := mt_node (smt148_15 k) (smt148_16 k)
set_option maxRecDepth 100000 in
theorem smt148_10 (k : Nat) : ∀ f, mt148_10 k = some f → mo_Sim 148 k f := mt_node (smt148_11 k) (smt148_14 k)
set_option maxRecDepth 100000 in
theorem smt148_2 (k : Nat) : ∀ f, mt148_2 k = some f → mo_Sim 148 k f := mt_node (smt148_3 k) (smt148_10 k)
set_option maxRecDepth 100000 in
theorem smt148_20 (k : Nat) : ∀ f, mt148_20 k = some f → mo_Sim 148 k f := mt_leaf (ms_iinc (e := (.iinc 4 1, 56, 0, 0, 0)) rfl (fun _ _ _ => rfl) (by decide) : mo_Sim 148 53 (ma_iinc 4 (.ofNat 1) 53 56)) (mt_leaf (ms_goto (e := (.goto (-31), 59, 25, 0, 0)) rfl (fun _ _ _ => rfl) : mo_Sim 148 56 (ma_goto 25)) (mt_leaf (ms_ald (e := (.aload_n 0, 60, 0, 0, 0)) rfl (fun _ _ _ => rfl) : mo_Sim 148 59 (ma_lda 0 60)) (mt_none)))
set_option maxRecDepth 100000 in
theorem smt148_21 (k : Nat) : ∀ f, mt148_21 k = some f → mo_Sim 148 k f := mt_leaf (ms_getf (e := (.getfield 72, 63, 12, 4, 1056)) rfl (fun _ _ _ => rfl) : mo_Sim 148 60 (ma_getf 12 4 63)) (mt_leaf (ms_pushi (e := (.bipush 8, 65, 0, 0, 0)) rfl (fun _ _ _ => rfl) (by decide) : mo_Sim 148 63 (ma_push (ma_ci (.ofNat 8)) 65)) (mt_leaf (ms_if2 (e := (.if_icmp .eq 13, 68, 78, 0, 0)) rfl (fun _ _ _ => rfl) : mo_Sim 148 65 (ma_if2 .eq 78 65 68)) (mt_leaf (ms_ild (e := (.iload_n 1, 69, 0, 0, 0)) rfl (fun _ _ _ => rfl) : mo_Sim 148 68 (ma_load 0 1 69)) (mt_none))))
set_option maxRecDepth 100000 in
theorem smt148_19 (k : Nat) : ∀ f, mt148_19 k = some f → mo_Sim 148 k f := mt_node (smt148_20 k) (smt148_21 k)
set_option maxRecDepth 100000 in
theorem smt148_23 (k : Nat) : ∀ f, mt148_23 k = some f → mo_Sim 148 k f := mt_leaf (ms_pushi (e := (.iconst 3, 70, 0, 0, 0)) rfl (fun _ _ _ => rfl) (by decide) : mo_Sim 148 69 (ma_push (ma_ci (.ofNat 3)) 70)) (mt_leaf (ms_if2 (e := (.if_icmp .ne 11, 73, 81, 0, 0)) rfl (fun _ _ _ => rfl) : mo_Sim 148 70 (ma_if2 .ne 81 70 73)) (mt_leaf (ms_ild (e := (.iload_n 3, 74, 0, 0, 0)) rfl (fun _ _ _ => rfl) : mo_Sim 148 73 (ma_load 0 3 74)) (mt_leaf (ms_pushi (e := (.iconst 2, 75, 0, 0, 0)) rfl (fun _ _ _ => rfl) (by decide) : mo_Sim 148 74 (ma_push (ma_ci (.ofNat 2)) 75)) (mt_none))))
set_option maxRecDepth 100000 in
theorem smt148_24 (k : Nat) : ∀ f, mt148_24 k = some f → mo_Sim 148 k f := mt_leaf (ms_if2 (e := (.if_icmp .ne 6, 78, 81, 0, 0)) rfl (fun _ _ _ => rfl) : mo_Sim 148 75 (ma_if2 .ne 81 75 78)) (mt_leaf (ms_pushi (e := (.bipush (-8), 80, 0, 0, 0)) rfl (fun _ _ _ => rfl) (by decide) : mo_Sim 148 78 (ma_push (ma_ci (.negSucc 7)) 80)) (mt_leaf (ms_ret (e := (.ireturn, 81, 0, 0, 0)) rfl (Or.inl ⟨rfl, rfl, (fun _ _ _ => rfl)⟩) : mo_Sim 148 80 (ma_ret 0)) (mt_leaf (ms_ald (e := (.aload_n 0, 82, 0, 0, 0)) rfl (fun _ _ _ => rfl) : mo_Sim 148 81 (ma_lda 0 82)) (mt_none))))
set_option maxRecDepth 100000 in
theorem smt148_22 (k : Nat) : ∀ f, mt148_22 k = some f → mo_Sim 148 k f := mt_node (smt148_23 k) (smt148_24 k)
set_option maxRecDepth 100000 in
theorem smt148_18 (k : Nat) : ∀ f, mt148_18 k = some f → mo_Sim 148 k f := mt_node (smt148_19 k) (smt148_22 k)
set_option maxRecDepth 100000 in
theorem smt148_27 (k : Nat) : ∀ f, mt148_27 k = some f → mo_Sim 148 k f := mt_leaf (ms_getf (e := (.getfield 13, 85, 12, 1, 1053)) rfl (fun _ _ _ => rfl) : mo_Sim 148 82 (ma_getf 12 1 85)) (mt_leaf (ms_ild (e := (.iload_n 2, 86, 0, 0, 0)) rfl (fun _ _ _ => rfl) : mo_Sim 148 85 (ma_load 0 2 86)) (mt_leaf (ms_iald (e := (.iaload, 87, 0, 0, 0)) rfl (fun _ _ _ => rfl) : mo_Sim 148 86 (ma_iald 86 87)) (mt_leaf (ms_if0 (e := (.ifCond .ne 6, 90, 93, 0, 0)) rfl (fun _ _ _ => rfl) : mo_Sim 148 87 (ma_if0 .ne 93 87 90)) (mt_none))))
set_option maxRecDepth 100000 in
theorem smt148_28 (k : Nat) : ∀ f, mt148_28 k = some f → mo_Sim 148 k f := mt_leaf (ms_pushi (e := (.bipush (-5), 92, 0, 0, 0)) rfl (fun _ _ _ => rfl) (by decide) : mo_Sim 148 90 (ma_push (ma_ci (.negSucc 4)) 92)) (mt_leaf (ms_ret (e := (.ireturn, 93, 0, 0, 0)) rfl (Or.inl ⟨rfl, rfl, (fun _ _ _ => rfl)⟩) : mo_Sim 148 92 (ma_ret 0)) (mt_leaf (ms_ald (e := (.aload_n 0, 94, 0, 0, 0)) rfl (fun _ _ _ => rfl) : mo_Sim 148 93 (ma_lda 0 94)) (mt_leaf (ms_getf (e := (.getfield 7, 97, 12, 0, 1052)) rfl (fun _ _ _ => rfl) : mo_Sim 148 94 (ma_getf 12 0 97)) (mt_none))))
set_option maxRecDepth 100000 in
theorem smt148_26 (k : Nat) : ∀ f, mt148_26 k = some f → mo_Sim 148 k f := mt_node (smt148_27 k) (smt148_28 k)
set_option maxRecDepth 100000 in
theorem smt148_30 (k : Nat) : ∀ f, mt148_30 k = some f → mo_Sim 148 k f := mt_leaf (ms_ild (e := (.iload_n 1, 98, 0, 0, 0)) rfl (fun _ _ _ => rfl) : mo_Sim 148 97 (ma_load 0 1 98)) (mt_leaf (ms_invS (e := (.invokestatic 88, 101, 140, 1, 1155)) rfl rfl (fun _ _ _ => rfl) rfl rfl : mo_Sim 148 98 (ma_inv 140 2 4 20 101)) (mt_leaf (ms_ist (e := (.istore 4, 103, 0, 0, 0)) rfl (fun _ _ _ => rfl) : mo_Sim 148 101 (ma_stor 0 4 103)) (mt_leaf (ms_pushi (e := (.iconst 0, 104, 0, 0, 0)) rfl (fun _ _ _ => rfl) (by decide) : mo_Sim 148 103 (ma_push (ma_ci (.ofNat 0)) 104)) (mt_none))))
set_option maxRecDepth 100000 in
theorem smt148_31 (k : Nat) : ∀ f, mt148_31 k = some f → mo_Sim 148 k f := mt_leaf (ms_ist (e := (.istore 5, 106, 0, 0, 0)) rfl (fun _ _ _ => rfl) : mo_Sim 148 104 (ma_stor 0 5 106)) (mt_leaf (ms_ild (e := (.iload 5, 108, 0, 0, 0)) rfl (fun _ _ _ => rfl) : mo_Sim 148 106 (ma_load 0 5 108)) (mt_leaf (ms_ild (e := (.iload 4, 110, 0, 0, 0)) rfl (fun _ _ _ => rfl) : mo_Sim 148 108 (ma_load 0 4 110)) (mt_leaf (ms_if2 (e := (.if_icmp .ge 75, 113, 185, 0, 0)) rfl (fun _ _ _ => rfl) : mo_Sim 148 110 (ma_if2 .ge 185 110 113)) (mt_none))))
set_option maxRecDepth 100000 in
theorem smt148_29 (k : Nat) : ∀ f, mt148_29 k = some f → mo_Sim 148 k f := mt_node (smt148_30 k) (smt148_31 k)
set_option maxRecDepth 100000 in
theorem smt148_25 (k : Nat) : ∀ f, mt148_25 k = some f → mo_Sim 148 k f := mt_node (smt148_26 k) (smt148_29 k)
set_option maxRecDepth 100000 in
theorem smt148_17 (k : Nat) : ∀ f, mt148_17 k = some f → mo_Sim 148 k f := mt_node (smt148_18 k) (smt148_25 k)
set_option maxRecDepth 100000 in
theorem smt148_1 (k : Nat) : ∀ f, mt148_1 k = some f → mo_Sim 148 k f := mt_node (smt148_2 k) (smt148_17 k)
set_option maxRecDepth 100000 in
theorem smt148_36 (k : Nat) : ∀ f, mt148_36 k = some f → mo_Sim 148 k f := mt_leaf (ms_ild (e := (.iload 5, 115, 0, 0, 0)) rfl (fun _ _ _ => rfl) : mo_Sim 148 113 (ma_load 0 5 115)) (mt_leaf (ms_ald (e := (.aload_n 0, 116, 0, 0, 0)) rfl (fun _ _ _ => rfl) : mo_Sim 148 115 (ma_lda 0 116)) (mt_leaf (ms_getf (e := (.getfield 13, 119, 12, 1, 1053)) rfl (fun _ _ _ => rfl) : mo_Sim 148 116 (ma_getf 12 1 119)) (mt_none)))
set_option maxRecDepth 100000 in
theorem smt148_37 (k : Nat) : ∀ f, mt148_37 k = some f → mo_Sim 148 k f := mt_leaf (ms_ild (e := (.iload_n 2, 120, 0, 0, 0)) rfl (fun _ _ _ => rfl) : mo_Sim 148 119 (ma_load 0 2 120)) (mt_leaf (ms_iald (e := (.iaload, 121, 0, 0, 0)) rfl (fun _ _ _ => rfl) : mo_Sim 148 120 (ma_iald 120 121)) (mt_leaf (ms_pushi (e := (.iconst 1, 122, 0, 0, 0)) rfl (fun _ _ _ => rfl) (by decide) : mo_Sim 148 121 (ma_push (ma_ci (.ofNat 1)) 122)) (mt_leaf (ms_isub (e := (.isub, 123, 0, 0, 0)) rfl (fun _ _ _ => rfl) : mo_Sim 148 122 (ma_isub 122 123)) (mt_none))))
set_option maxRecDepth 100000 in
theorem smt148_35 (k : Nat) : ∀ f, mt148_35 k = some f → mo_Sim 148 k f := mt_node (smt148_36 k) (smt148_37 k)
set_option maxRecDepth 100000 in
theorem smt148_39 (k : Nat) : ∀ f, mt148_39 k = some f → mo_Sim 148 k f := mt_leaf (ms_if2 (e := (.if_icmp .lt 6, 126, 129, 0, 0)) rfl (fun _ _ _ => rfl) : mo_Sim 148 123 (ma_if2 .lt 129 123 126)) (mt_leaf (ms_pushi (e := (.bipush (-6), 128, 0, 0, 0)) rfl (fun _ _ _ => rfl) (by decide) : mo_Sim 148 126 (ma_push (ma_ci (.negSucc 5)) 128)) (mt_leaf (ms_ret (e := (.ireturn, 129, 0, 0, 0)) rfl (Or.inl ⟨rfl, rfl, (fun _ _ _ => rfl)⟩) : mo_Sim 148 128 (ma_ret 0)) (mt_leaf (ms_ald (e := (.aload_n 0, 130, 0, 0, 0)) rfl (fun _ _ _ => rfl) : mo_Sim 148 129 (ma_lda 0 130)) (mt_none))))
set_option maxRecDepth 100000 in
theorem smt148_40 (k : Nat) : ∀ f, mt148_40 k = some f → mo_Sim 148 k f := mt_leaf (ms_ald (e := (.aload_n 0, 131, 0, 0, 0)) rfl (fun _ _ _ => rfl) : mo_Sim 148 130 (ma_lda 0 131)) (mt_leaf (ms_getf (e := (.getfield 20, 134, 12, 3, 1055)) rfl (fun _ _ _ => rfl) : mo_Sim 148 131 (ma_getf 12 3 134)) (mt_leaf (ms_pushi (e := (.bipush 40, 136, 0, 0, 0)) rfl (fun _ _ _ => rfl) (by decide) : mo_Sim 148 134 (ma_push (ma_ci (.ofNat 40)) 136)) (mt_leaf (ms_ild (e := (.iload_n 2, 137, 0, 0, 0)) rfl (fun _ _ _ => rfl) : mo_Sim 148 136 (ma_load 0 2 137)) (mt_none))))
set_option maxRecDepth 100000 in
theorem smt148_38 (k : Nat) : ∀ f, mt148_38 k = some f → mo_Sim 148 k f := mt_node (smt148_39 k) (smt148_40 k)
set_option maxRecDepth 100000 in
theorem smt148_34 (k : Nat) : ∀ f, mt148_34 k = some f → mo_Sim 148 k f := mt_node (smt148_35 k) (smt148_38 k)
set_option maxRecDepth 100000 in
theorem smt148_43 (k : Nat) : ∀ f, mt148_43 k = some f → mo_Sim 148 k f := mt_leaf (ms_i2 (e := (.imul, 138, 0, 0, 0)) rfl (fun _ _ _ => rfl) hf_mul : mo_Sim 148 137 (ma_i2 ma_fmul 137 138)) (mt_leaf (ms_ild (e := (.iload 5, 140, 0, 0, 0)) rfl (fun _ _ _ => rfl) : mo_Sim 148 138 (ma_load 0 5 140)) (mt_leaf (ms_iadd (e := (.iadd, 141, 0, 0, 0)) rfl (fun _ _ _ => rfl) : mo_Sim 148 140 (ma_iadd 140 141)) (mt_leaf (ms_lald (e := (.laload, 142, 0, 0, 0)) rfl (fun _ _ _ => rfl) : mo_Sim 148 141 (ma_lald 142)) (mt_none))))
set_option maxRecDepth 100000 in
theorem smt148_44 (k : Nat) : ∀ f, mt148_44 k = some f → mo_Sim 148 k f := mt_leaf (ms_invV (p := 1) (e := (.invokevirtual 92, 145, 147, 0, 1158)) rfl rfl (fun _ _ _ => rfl) rfl rfl rfl (by decide) : mo_Sim 148 142 (ma_inv 147 2 3 12 145)) (mt_leaf (ms_if0 (e := (.ifCond .ne 6, 148, 151, 0, 0)) rfl (fun _ _ _ => rfl) : mo_Sim 148 145 (ma_if0 .ne 151 145 148)) (mt_leaf (ms_pushi (e := (.bipush (-4), 150, 0, 0, 0)) rfl (fun _ _ _ => rfl) (by decide) : mo_Sim 148 148 (ma_push (ma_ci (.negSucc 3)) 150)) (mt_leaf (ms_ret (e := (.ireturn, 151, 0, 0, 0)) rfl (Or.inl ⟨rfl, rfl, (fun _ _ _ => rfl)⟩) : mo_Sim 148 150 (ma_ret 0)) (mt_none))))
set_option maxRecDepth 100000 in
theorem smt148_42 (k : Nat) : ∀ f, mt148_42 k = some f → mo_Sim 148 k f := mt_node (smt148_43 k) (smt148_44 k)
set_option maxRecDepth 100000 in
theorem smt148_46 (k : Nat) : ∀ f, mt148_46 k = some f → mo_Sim 148 k f := mt_leaf (ms_ald (e := (.aload_n 0, 152, 0, 0, 0)) rfl (fun _ _ _ => rfl) : mo_Sim 148 151 (ma_lda 0 152)) (mt_leaf (ms_getf (e := (.getfield 27, 155, 12, 6, 1058)) rfl (fun _ _ _ => rfl) : mo_Sim 148 152 (ma_getf 12 6 155)) (mt_leaf (ms_pushi (e := (.bipush 27, 157, 0, 0, 0)) rfl (fun _ _ _ => rfl) (by decide) : mo_Sim 148 155 (ma_push (ma_ci (.ofNat 27)) 157)) (mt_leaf (ms_ald (e := (.aload_n 0, 158, 0, 0, 0)) rfl (fun _ _ _ => rfl) : mo_Sim 148 157 (ma_lda 0 158)) (mt_none))))
set_option maxRecDepth 100000 in
theorem smt148_47 (k : Nat) : ∀ f, mt148_47 k = some f → mo_Sim 148 k f := mt_leaf (ms_getf (e := (.getfield 72, 161, 12, 4, 1056)) rfl (fun _ _ _ => rfl) : mo_Sim 148 158 (ma_getf 12 4 161)) (mt_leaf (ms_i2 (e := (.imul, 162, 0, 0, 0)) rfl (fun _ _ _ => rfl) hf_mul : mo_Sim 148 161 (ma_i2 ma_fmul 161 162)) (mt_leaf (ms_ild (e := (.iload 5, 164, 0, 0, 0)) rfl (fun _ _ _ => rfl) : mo_Sim 148 162 (ma_load 0 5 164)) (mt_leaf (ms_iadd (e := (.iadd, 165, 0, 0, 0)) rfl (fun _ _ _ => rfl) : mo_Sim 148 164 (ma_iadd 164 165)) (mt_none))))
set_option maxRecDepth 100000 in
theorem smt148_45 (k : Nat) : ∀ f, mt148_45 k = some f → mo_Sim 148 k f := mt_node (smt148_46 k) (smt148_47 k)
set_option maxRecDepth 100000 in
theorem smt148_41 (k : Nat) : ∀ f, mt148_41 k = some f → mo_Sim 148 k f := mt_node (smt148_42 k) (smt148_45 k)
set_option maxRecDepth 100000 in
theorem smt148_33 (k : Nat) : ∀ f, mt148_33 k = some f → mo_Sim 148 k f := mt_node (smt148_34 k) (smt148_41 k)
set_option maxRecDepth 100000 in
theorem smt148_51 (k : Nat) : ∀ f, mt148_51 k = some f → mo_Sim 148 k f := mt_leaf (ms_ald (e := (.aload_n 0, 166, 0, 0, 0)) rfl (fun _ _ _ => rfl) : mo_Sim 148 165 (ma_lda 0 166)) (mt_leaf (ms_getf (e := (.getfield 20, 169, 12, 3, 1055)) rfl (fun _ _ _ => rfl) : mo_Sim 148 166 (ma_getf 12 3 169)) (mt_leaf (ms_pushi (e := (.bipush 40, 171, 0, 0, 0)) rfl (fun _ _ _ => rfl) (by decide) : mo_Sim 148 169 (ma_push (ma_ci (.ofNat 40)) 171)) (mt_none)))
set_option maxRecDepth 100000 in
theorem smt148_52 (k : Nat) : ∀ f, mt148_52 k = some f → mo_Sim 148 k f := mt_leaf (ms_ild (e := (.iload_n 2, 172, 0, 0, 0)) rfl (fun _ _ _ => rfl) : mo_Sim 148 171 (ma_load 0 2 172)) (mt_leaf (ms_i2 (e := (.imul, 173, 0, 0, 0)) rfl (fun _ _ _ => rfl) hf_mul : mo_Sim 148 172 (ma_i2 ma_fmul 172 173)) (mt_leaf (ms_ild (e := (.iload 5, 175, 0, 0, 0)) rfl (fun _ _ _ => rfl) : mo_Sim 148 173 (ma_load 0 5 175)) (mt_leaf (ms_iadd (e := (.iadd, 176, 0, 0, 0)) rfl (fun _ _ _ => rfl) : mo_Sim 148 175 (ma_iadd 175 176)) (mt_none))))
set_option maxRecDepth 100000 in
theorem smt148_50 (k : Nat) : ∀ f, mt148_50 k = some f → mo_Sim 148 k f := mt_node (smt148_51 k) (smt148_52 k)
set_option maxRecDepth 100000 in
theorem smt148_54 (k : Nat) : ∀ f, mt148_54 k = some f → mo_Sim 148 k f := mt_leaf (ms_lald (e := (.laload, 177, 0, 0, 0)) rfl (fun _ _ _ => rfl) : mo_Sim 148 176 (ma_lald 177)) (mt_leaf (ms_l2i (e := (.l2i, 178, 0, 0, 0)) rfl (fun _ _ _ => rfl) : mo_Sim 148 177 (ma_l2i 178)) (mt_leaf (ms_iast (e := (.iastore, 179, 0, 0, 0)) rfl rfl (fun _ _ _ => rfl) : mo_Sim 148 178 (ma_ast 13 0 178 179)) (mt_leaf (ms_iinc (e := (.iinc 5 1, 182, 0, 0, 0)) rfl (fun _ _ _ => rfl) (by decide) : mo_Sim 148 179 (ma_iinc 5 (.ofNat 1) 179 182)) (mt_none))))
set_option maxRecDepth 100000 in
theorem smt148_55 (k : Nat) : ∀ f, mt148_55 k = some f → mo_Sim 148 k f := mt_leaf (ms_goto (e := (.goto (-76), 185, 106, 0, 0)) rfl (fun _ _ _ => rfl) : mo_Sim 148 182 (ma_goto 106)) (mt_leaf (ms_ald (e := (.aload_n 0, 186, 0, 0, 0)) rfl (fun _ _ _ => rfl) : mo_Sim 148 185 (ma_lda 0 186)) (mt_leaf (ms_getf (e := (.getfield 24, 189, 12, 5, 1057)) rfl (fun _ _ _ => rfl) : mo_Sim 148 186 (ma_getf 12 5 189)) (mt_leaf (ms_ald (e := (.aload_n 0, 190, 0, 0, 0)) rfl (fun _ _ _ => rfl) : mo_Sim 148 189 (ma_lda 0 190)) (mt_none))))
set_option maxRecDepth 100000 in
theorem smt148_53 (k : Nat) : ∀ f, mt148_53 k = some f → mo_Sim 148 k f := mt_node (smt148_54 k) (smt148_55 k)
set_option maxRecDepth 100000 in
theorem smt148_49 (k : Nat) : ∀ f, mt148_49 k = some f → mo_Sim 148 k f := mt_node (smt148_50 k) (smt148_53 k)
set_option maxRecDepth 100000 in
theorem smt148_58 (k : Nat) : ∀ f, mt148_58 k = some f → mo_Sim 148 k f := mt_leaf (ms_getf (e := (.getfield 72, 193, 12, 4, 1056)) rfl (fun _ _ _ => rfl) : mo_Sim 148 190 (ma_getf 12 4 193)) (mt_leaf (ms_ild (e := (.iload_n 1, 194, 0, 0, 0)) rfl (fun _ _ _ => rfl) : mo_Sim 148 193 (ma_load 0 1 194)) (mt_leaf (ms_iast (e := (.iastore, 195, 0, 0, 0)) rfl rfl (fun _ _ _ => rfl) : mo_Sim 148 194 (ma_ast 13 0 194 195)) (mt_leaf (ms_ald (e := (.aload_n 0, 196, 0, 0, 0)) rfl (fun _ _ _ => rfl) : mo_Sim 148 195 (ma_lda 0 196)) (mt_none))))
set_option maxRecDepth 100000 in
theorem smt148_59 (k : Nat) : ∀ f, mt148_59 k = some f → mo_Sim 148 k f := mt_leaf (ms_dup (e := (.dup, 197, 0, 0, 0)) rfl (fun _ _ _ => rfl) : mo_Sim 148 196 (ma_dup 197)) (mt_leaf (ms_getf (e := (.getfield 72, 200, 12, 4, 1056)) rfl (fun _ _ _ => rfl) : mo_Sim 148 197 (ma_getf 12 4 200)) (mt_leaf (ms_pushi (e := (.iconst 1, 201, 0, 0, 0)) rfl (fun _ _ _ => rfl) (by decide) : mo_Sim 148 200 (ma_push (ma_ci (.ofNat 1)) 201)) (mt_leaf (ms_iadd (e := (.iadd, 202, 0, 0, 0)) rfl (fun _ _ _ => rfl) : mo_Sim 148 201 (ma_iadd 201 202)) (mt_none))))
set_option maxRecDepth 100000 in
theorem smt148_57 (k : Nat) : ∀ f, mt148_57 k = some f → mo_Sim 148 k f := mt_node (smt148_58 k) (smt148_59 k)
set_option maxRecDepth 100000 in
theorem smt148_61 (k : Nat) : ∀ f, mt148_61 k = some f → mo_Sim 148 k f := mt_leaf (ms_putf (e := (.putfield 72, 205, 12, 4, 1056)) rfl rfl (fun _ _ _ => rfl) (Or.inl ⟨rfl, rfl⟩) : mo_Sim 148 202 (ma_putf 12 4 0 205)) (mt_leaf (ms_ald (e := (.aload_n 0, 206, 0, 0, 0)) rfl (fun _ _ _ => rfl) : mo_Sim 148 205 (ma_lda 0 206)) (mt_leaf (ms_invV (p := 0) (e := (.invokevirtual 81, 209, 141, 0, 1132)) rfl rfl (fun _ _ _ => rfl) rfl rfl rfl (by decide) : mo_Sim 148 206 (ma_inv 141 1 2 12 209)) (mt_leaf (ms_ald (e := (.aload_n 0, 210, 0, 0, 0)) rfl (fun _ _ _ => rfl) : mo_Sim 148 209 (ma_lda 0 210)) (mt_none))))
set_option maxRecDepth 100000 in
theorem smt148_62 (k : Nat) : ∀ f, mt148_62 k = some f → mo_Sim 148 k f := mt_leaf (ms_getf (e := (.getfield 72, 213, 12, 4, 1056)) rfl (fun _ _ _ => rfl) : mo_Sim 148 210 (ma_getf 12 4 213)) (mt_leaf (ms_pushi (e := (.iconst 1, 214, 0, 0, 0)) rfl (fun _ _ _ => rfl) (by decide) : mo_Sim 148 213 (ma_push (ma_ci (.ofNat 1)) 214)) (mt_leaf (ms_isub (e := (.isub, 215, 0, 0, 0)) rfl (fun _ _ _ => rfl) : mo_Sim 148 214 (ma_isub 214 215)) (mt_leaf (ms_ret (e := (.ireturn, 216, 0, 0, 0)) rfl (Or.inl ⟨rfl, rfl, (fun _ _ _ => rfl)⟩) : mo_Sim 148 215 (ma_ret 0)) (mt_none))))
set_option maxRecDepth 100000 in
theorem smt148_60 (k : Nat) : ∀ f, mt148_60 k = some f → mo_Sim 148 k f := mt_node (smt148_61 k) (smt148_62 k)
set_option maxRecDepth 100000 in
theorem smt148_56 (k : Nat) : ∀ f, mt148_56 k = some f → mo_Sim 148 k f := mt_node (smt148_57 k) (smt148_60 k)
set_option maxRecDepth 100000 in
theorem smt148_48 (k : Nat) : ∀ f, mt148_48 k = some f → mo_Sim 148 k f := mt_node (smt148_49 k) (smt148_56 k)
set_option maxRecDepth 100000 in
theorem smt148_32 (k : Nat) : ∀ f, mt148_32 k = some f → mo_Sim 148 k f := mt_node (smt148_33 k) (smt148_48 k)
set_option maxRecDepth 100000 in
theorem smt148_0 (k : Nat) : ∀ f, mt148_0 k = some f → mo_Sim 148 k f := mt_node (smt148_1 k) (smt148_32 k)
