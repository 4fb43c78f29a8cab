set_option maxRecDepth 100000 in
theorem smt50_4 (k : Nat) : ∀ f, mt50_4 k = some f → mo_Sim 50 k f := mt_leaf (ms_ald (e := (.aload_n 0, 1, 0, 0, 0)) rfl (fun _ _ _ => rfl) : mo_Sim 50 0 (ma_lda 0 1)) (mt_leaf (ms_getf (e := (.getfield 14, 4, 7, 0, 204)) rfl (fun _ _ _ => rfl) : mo_Sim 50 1 (ma_getf 7 0 4)) (mt_leaf (ms_ild (e := (.iload_n 1, 5, 0, 0, 0)) rfl (fun _ _ _ => rfl) : mo_Sim 50 4 (ma_load 0 1 5)) (mt_leaf (ms_invV (p := 1) (e := (.invokevirtual 77, 8, 12, 0, 712)) rfl rfl (fun _ _ _ => rfl) rfl rfl rfl (by decide) : mo_Sim 50 5 (ma_inv 12 2 4 1 8)) (mt_none))))
set_option maxRecDepth 100000 in
theorem smt50_6 (k : Nat) : ∀ f, mt50_6 k = some f → mo_Sim 50 k f := mt_leaf (ms_ist (e := (.istore_n 2, 9, 0, 0, 0)) rfl (fun _ _ _ => rfl) : mo_Sim 50 8 (ma_stor 0 2 9)) (mt_leaf (ms_ald (e := (.aload_n 0, 10, 0, 0, 0)) rfl (fun _ _ _ => rfl) : mo_Sim 50 9 (ma_lda 0 10)) (mt_none))
set_option maxRecDepth 100000 in
theorem smt50_7 (k : Nat) : ∀ f, mt50_7 k = some f → mo_Sim 50 k f := mt_leaf (ms_getf (e := (.getfield 47, 13, 7, 9, 213)) rfl (fun _ _ _ => rfl) : mo_Sim 50 10 (ma_getf 7 9 13)) (mt_leaf (ms_alen (e := (.arraylength, 14, 0, 0, 0)) rfl (fun _ _ _ => rfl) : mo_Sim 50 13 (ma_alen 14)) (mt_leaf (ms_ald (e := (.aload_n 0, 15, 0, 0, 0)) rfl (fun _ _ _ => rfl) : mo_Sim 50 14 (ma_lda 0 15)) (mt_none)))
set_option maxRecDepth 100000 in
theorem smt50_5 (k : Nat) : ∀ f, mt50_5 k = some f → mo_Sim 50 k f := mt_node (smt50_6 k) (smt50_7 k)
set_option maxRecDepth 100000 in
theorem smt50_3 (k : Nat) : ∀ f, mt50_3 k = some f → mo_Sim 50 k f := mt_node (smt50_4 k) (smt50_5 k)
set_option maxRecDepth 100000 in
theorem smt50_9 (k : Nat) : ∀ f, mt50_9 k = some f → mo_Sim 50 k f := mt_leaf (ms_getf (e := (.getfield 14, 18, 7, 0, 204)) rfl (fun _ _ _ => rfl) : mo_Sim 50 15 (ma_getf 7 0 18)) (mt_leaf (ms_ild (e := (.iload_n 1, 19, 0, 0, 0)) rfl (fun _ _ _ => rfl) : mo_Sim 50 18 (ma_load 0 1 19)) (mt_leaf (ms_invV (p := 1) (e := (.invokevirtual 80, 22, 14, 0, 713)) rfl rfl (fun _ _ _ => rfl) rfl rfl rfl (by decide) : mo_Sim 50 19 (ma_inv 14 2 2 1 22)) (mt_leaf (ms_if2 (e := (.if_icmp .ge 12, 25, 34, 0, 0)) rfl (fun _ _ _ => rfl) : mo_Sim 50 22 (ma_if2 .ge 34 22 25)) (mt_none))))
set_option maxRecDepth 100000 in
theorem smt50_11 (k : Nat) : ∀ f, mt50_11 k = some f → mo_Sim 50 k f := mt_leaf (ms_ald (e := (.aload_n 0, 26, 0, 0, 0)) rfl (fun _ _ _ => rfl) : mo_Sim 50 25 (ma_lda 0 26)) (mt_leaf (ms_pushi (e := (.sipush 19683, 29, 0, 0, 0)) rfl (fun _ _ _ => rfl) (by decide) : mo_Sim 50 26 (ma_push (ma_ci (.ofNat 19683)) 29)) (mt_none))
set_option maxRecDepth 100000 in
theorem smt50_12 (k : Nat) : ∀ f, mt50_12 k = some f → mo_Sim 50 k f := mt_leaf (ms_newaI (e := (.newarray .int, 31, 0, 0, 0)) rfl rfl (fun _ _ _ => rfl) : mo_Sim 50 29 (ma_newa 13 (ma_ci (.ofNat 0)) 31)) (mt_leaf (ms_putf (e := (.putfield 47, 34, 7, 9, 213)) rfl rfl (fun _ _ _ => rfl) (Or.inr (Or.inr (Or.inl ⟨rfl, Or.inr ⟨_, rfl⟩⟩))) : mo_Sim 50 31 (ma_putf 7 9 2 34)) (mt_leaf (ms_ald (e := (.aload_n 0, 35, 0, 0, 0)) rfl (fun _ _ _ => rfl) : mo_Sim 50 34 (ma_lda 0 35)) (mt_none)))
set_option maxRecDepth 100000 in
theorem smt50_10 (k : Nat) : ∀ f, mt50_10 k = some f → mo_Sim 50 k f := mt_node (smt50_11 k) (smt50_12 k)
set_option maxRecDepth 100000 in
theorem smt50_8 (k : Nat) : ∀ f, mt50_8 k = some f → mo_Sim 50 k f := mt_node (smt50_9 k) (smt50_10 k)
set_option maxRecDepth 100000 in
theorem smt50_2 (k : Nat) : ∀ f, mt50_2 k = some f → mo_Sim 50 k f := mt_node (smt50_3 k) (smt50_8 k)
set_option maxRecDepth 100000 in
theorem smt50_15 (k : Nat) : ∀ f, mt50_15 k = some f → mo_Sim 50 k f := mt_leaf (ms_ald (e := (.aload_n 0, 36, 0, 0, 0)) rfl (fun _ _ _ => rfl) : mo_Sim 50 35 (ma_lda 0 36)) (mt_leaf (ms_getf (e := (.getfield 37, 39, 7, 6, 210)) rfl (fun _ _ _ => rfl) : mo_Sim 50 36 (ma_getf 7 6 39)) (mt_leaf (ms_pushi (e := (.iconst 0, 40, 0, 0, 0)) rfl (fun _ _ _ => rfl) (by decide) : mo_Sim 50 39 (ma_push (ma_ci (.ofNat 0)) 40)) (mt_leaf (ms_ild (e := (.iload_n 2, 41, 0, 0, 0)) rfl (fun _ _ _ => rfl) : mo_Sim 50 40 (ma_load 0 2 41)) (mt_none))))
set_option maxRecDepth 100000 in
theorem smt50_17 (k : Nat) : ∀ f, mt50_17 k = some f → mo_Sim 50 k f := mt_leaf (ms_invV (p := 3) (e := (.invokevirtual 82, 44, 51, 0, 718)) rfl rfl (fun _ _ _ => rfl) rfl rfl rfl (by decide) : mo_Sim 50 41 (ma_inv 51 4 4 7 44)) (mt_leaf (ms_ald (e := (.aload_n 0, 45, 0, 0, 0)) rfl (fun _ _ _ => rfl) : mo_Sim 50 44 (ma_lda 0 45)) (mt_none))
set_option maxRecDepth 100000 in
theorem smt50_18 (k : Nat) : ∀ f, mt50_18 k = some f → mo_Sim 50 k f := mt_leaf (ms_ald (e := (.aload_n 0, 46, 0, 0, 0)) rfl (fun _ _ _ => rfl) : mo_Sim 50 45 (ma_lda 0 46)) (mt_leaf (ms_getf (e := (.getfield 41, 49, 7, 7, 211)) rfl (fun _ _ _ => rfl) : mo_Sim 50 46 (ma_getf 7 7 49)) (mt_leaf (ms_pushi (e := (.iconst 3, 50, 0, 0, 0)) rfl (fun _ _ _ => rfl) (by decide) : mo_Sim 50 49 (ma_push (ma_ci (.ofNat 3)) 50)) (mt_none)))
set_option maxRecDepth 100000 in
theorem smt50_16 (k : Nat) : ∀ f, mt50_16 k = some f → mo_Sim 50 k f := mt_node (smt50_17 k) (smt50_18 k)
set_option maxRecDepth 100000 in
theorem smt50_14 (k : Nat) : ∀ f, mt50_14 k = some f → mo_Sim 50 k f := mt_node (smt50_15 k) (smt50_16 k)
set_option maxRecDepth 100000 in
theorem smt50_20 (k : Nat) : ∀ f, mt50_20 k = some f → mo_Sim 50 k f := mt_leaf (ms_ild (e := (.iload_n 2, 51, 0, 0, 0)) rfl (fun _ _ _ => rfl) : mo_Sim 50 50 (ma_load 0 2 51)) (mt_leaf (ms_invV (p := 3) (e := (.invokevirtual 82, 54, 51, 0, 718)) rfl rfl (fun _ _ _ => rfl) rfl rfl rfl (by decide) : mo_Sim 50 51 (ma_inv 51 4 4 7 54)) (mt_leaf (ms_ald (e := (.aload_n 0, 55, 0, 0, 0)) rfl (fun _ _ _ => rfl) : mo_Sim 50 54 (ma_lda 0 55)) (mt_leaf (ms_ald (e := (.aload_n 0, 56, 0, 0, 0)) rfl (fun _ _ _ => rfl) : mo_Sim 50 55 (ma_lda 0 56)) (mt_none))))
set_option maxRecDepth 100000 in
theorem smt50_22 (k : Nat) : ∀ f, mt50_22 k = some f → mo_Sim 50 k f := mt_leaf (ms_getf (e := (.getfield 44, 59, 7, 8, 212)) rfl (fun _ _ _ => rfl) : mo_Sim 50 56 (ma_getf 7 8 59)) (mt_leaf (ms_pushi (e := (.bipush 6, 61, 0, 0, 0)) rfl (fun _ _ _ => rfl) (by decide) : mo_Sim 50 59 (ma_push (ma_ci (.ofNat 6)) 61)) (mt_none))
set_option maxRecDepth 100000 in
theorem smt50_23 (k : Nat) : ∀ f, mt50_23 k = some f → mo_Sim 50 k f := mt_leaf (ms_ild (e := (.iload_n 2, 62, 0, 0, 0)) rfl (fun _ _ _ => rfl) : mo_Sim 50 61 (ma_load 0 2 62)) (mt_leaf (ms_invV (p := 3) (e := (.invokevirtual 82, 65, 51, 0, 718)) rfl rfl (fun _ _ _ => rfl) rfl rfl rfl (by decide) : mo_Sim 50 62 (ma_inv 51 4 4 7 65)) (mt_leaf (ms_ald (e := (.aload_n 0, 66, 0, 0, 0)) rfl (fun _ _ _ => rfl) : mo_Sim 50 65 (ma_lda 0 66)) (mt_none)))
set_option maxRecDepth 100000 in
theorem smt50_21 (k : Nat) : ∀ f, mt50_21 k = some f → mo_Sim 50 k f := mt_node (smt50_22 k) (smt50_23 k)
set_option maxRecDepth 100000 in
theorem smt50_19 (k : Nat) : ∀ f, mt50_19 k = some f → mo_Sim 50 k f := mt_node (smt50_20 k) (smt50_21 k)
set_option maxRecDepth 100000 in
theorem smt50_13 (k : Nat) : ∀ f, mt50_13 k = some f → mo_Sim 50 k f := mt_node (smt50_14 k) (smt50_19 k)
set_option maxRecDepth 100000 in
theorem smt50_1 (k : Nat) : ∀ f, mt50_1 k = some f → mo_Sim 50 k f := mt_node (smt50_2 k) (smt50_13 k)
set_option maxRecDepth 100000 in
theorem smt50_27 (k : Nat) : ∀ f, mt50_27 k = some f → mo_Sim 50 k f := mt_leaf (ms_pushi (e := (.iconst 0, 67, 0, 0, 0)) rfl (fun _ _ _ => rfl) (by decide) : mo_Sim 50 66 (ma_push (ma_ci (.ofNat 0)) 67)) (mt_leaf (ms_putf (e := (.putfield 54, 70, 7, 10, 214)) rfl rfl (fun _ _ _ => rfl) (Or.inl ⟨rfl, rfl⟩) : mo_Sim 50 67 (ma_putf 7 10 0 70)) (mt_leaf (ms_ald (e := (.aload_n 0, 71, 0, 0, 0)) rfl (fun _ _ _ => rfl) : mo_Sim 50 70 (ma_lda 0 71)) (mt_leaf (ms_ald (e := (.aload_n 0, 72, 0, 0, 0)) rfl (fun _ _ _ => rfl) : mo_Sim 50 71 (ma_lda 0 72)) (mt_none))))
set_option maxRecDepth 100000 in
theorem smt50_29 (k : Nat) : ∀ f, mt50_29 k = some f → mo_Sim 50 k f := mt_leaf (ms_ald (e := (.aload_n 0, 73, 0, 0, 0)) rfl (fun _ _ _ => rfl) : mo_Sim 50 72 (ma_lda 0 73)) (mt_leaf (ms_getf (e := (.getfield 14, 76, 7, 0, 204)) rfl (fun _ _ _ => rfl) : mo_Sim 50 73 (ma_getf 7 0 76)) (mt_none))
set_option maxRecDepth 100000 in
theorem smt50_30 (k : Nat) : ∀ f, mt50_30 k = some f → mo_Sim 50 k f := mt_leaf (ms_getf (e := (.getfield 86, 79, 1, 4, 133)) rfl (fun _ _ _ => rfl) : mo_Sim 50 76 (ma_getf 1 4 79)) (mt_leaf (ms_ild (e := (.iload_n 2, 80, 0, 0, 0)) rfl (fun _ _ _ => rfl) : mo_Sim 50 79 (ma_load 0 2 80)) (mt_leaf (ms_invV (p := 2) (e := (.invokevirtual 89, 83, 53, 0, 727)) rfl rfl (fun _ _ _ => rfl) rfl rfl rfl (by decide) : mo_Sim 50 80 (ma_inv 53 3 5 7 83)) (mt_none)))
set_option maxRecDepth 100000 in
theorem smt50_28 (k : Nat) : ∀ f, mt50_28 k = some f → mo_Sim 50 k f := mt_node (smt50_29 k) (smt50_30 k)
set_option maxRecDepth 100000 in
theorem smt50_26 (k : Nat) : ∀ f, mt50_26 k = some f → mo_Sim 50 k f := mt_node (smt50_27 k) (smt50_28 k)
set_option maxRecDepth 100000 in
theorem smt50_32 (k : Nat) : ∀ f, mt50_32 k = some f → mo_Sim 50 k f := mt_leaf (ms_pushi (e := (.iconst 0, 84, 0, 0, 0)) rfl (fun _ _ _ => rfl) (by decide) : mo_Sim 50 83 (ma_push (ma_ci (.ofNat 0)) 84)) (mt_leaf (ms_invV (p := 2) (e := (.invokevirtual 93, 87, 56, 0, 731)) rfl rfl (fun _ _ _ => rfl) rfl rfl rfl (by decide) : mo_Sim 50 84 (ma_inv 56 3 3 7 87)) (mt_leaf (ms_ild (e := (.iload_n 1, 88, 0, 0, 0)) rfl (fun _ _ _ => rfl) : mo_Sim 50 87 (ma_load 0 1 88)) (mt_leaf (ms_pushi (e := (.iconst 1, 89, 0, 0, 0)) rfl (fun _ _ _ => rfl) (by decide) : mo_Sim 50 88 (ma_push (ma_ci (.ofNat 1)) 89)) (mt_none))))
set_option maxRecDepth 100000 in
theorem smt50_34 (k : Nat) : ∀ f, mt50_34 k = some f → mo_Sim 50 k f := mt_leaf (ms_if2 (e := (.if_icmp .le 20, 92, 109, 0, 0)) rfl (fun _ _ _ => rfl) : mo_Sim 50 89 (ma_if2 .le 109 89 92)) (mt_leaf (ms_ald (e := (.aload_n 0, 93, 0, 0, 0)) rfl (fun _ _ _ => rfl) : mo_Sim 50 92 (ma_lda 0 93)) (mt_none))
set_option maxRecDepth 100000 in
theorem smt50_35 (k : Nat) : ∀ f, mt50_35 k = some f → mo_Sim 50 k f := mt_leaf (ms_ald (e := (.aload_n 0, 94, 0, 0, 0)) rfl (fun _ _ _ => rfl) : mo_Sim 50 93 (ma_lda 0 94)) (mt_leaf (ms_ald (e := (.aload_n 0, 95, 0, 0, 0)) rfl (fun _ _ _ => rfl) : mo_Sim 50 94 (ma_lda 0 95)) (mt_leaf (ms_getf (e := (.getfield 14, 98, 7, 0, 204)) rfl (fun _ _ _ => rfl) : mo_Sim 50 95 (ma_getf 7 0 98)) (mt_none)))
set_option maxRecDepth 100000 in
theorem smt50_33 (k : Nat) : ∀ f, mt50_33 k = some f → mo_Sim 50 k f := mt_node (smt50_34 k) (smt50_35 k)
set_option maxRecDepth 100000 in
theorem smt50_31 (k : Nat) : ∀ f, mt50_31 k = some f → mo_Sim 50 k f := mt_node (smt50_32 k) (smt50_33 k)
set_option maxRecDepth 100000 in
theorem smt50_25 (k : Nat) : ∀ f, mt50_25 k = some f → mo_Sim 50 k f := mt_node (smt50_26 k) (smt50_31 k)
set_option maxRecDepth 100000 in
theorem smt50_38 (k : Nat) : ∀ f, mt50_38 k = some f → mo_Sim 50 k f := mt_leaf (ms_getf (e := (.getfield 97, 101, 1, 3, 126)) rfl (fun _ _ _ => rfl) : mo_Sim 50 98 (ma_getf 1 3 101)) (mt_leaf (ms_ild (e := (.iload_n 2, 102, 0, 0, 0)) rfl (fun _ _ _ => rfl) : mo_Sim 50 101 (ma_load 0 2 102)) (mt_leaf (ms_invV (p := 2) (e := (.invokevirtual 89, 105, 53, 0, 727)) rfl rfl (fun _ _ _ => rfl) rfl rfl rfl (by decide) : mo_Sim 50 102 (ma_inv 53 3 5 7 105)) (mt_leaf (ms_pushi (e := (.iconst 0, 106, 0, 0, 0)) rfl (fun _ _ _ => rfl) (by decide) : mo_Sim 50 105 (ma_push (ma_ci (.ofNat 0)) 106)) (mt_none))))
set_option maxRecDepth 100000 in
theorem smt50_40 (k : Nat) : ∀ f, mt50_40 k = some f → mo_Sim 50 k f := mt_leaf (ms_invV (p := 2) (e := (.invokevirtual 93, 109, 56, 0, 731)) rfl rfl (fun _ _ _ => rfl) rfl rfl rfl (by decide) : mo_Sim 50 106 (ma_inv 56 3 3 7 109)) (mt_leaf (ms_ild (e := (.iload_n 1, 110, 0, 0, 0)) rfl (fun _ _ _ => rfl) : mo_Sim 50 109 (ma_load 0 1 110)) (mt_none))
set_option maxRecDepth 100000 in
theorem smt50_41 (k : Nat) : ∀ f, mt50_41 k = some f → mo_Sim 50 k f := mt_leaf (ms_pushi (e := (.iconst 2, 111, 0, 0, 0)) rfl (fun _ _ _ => rfl) (by decide) : mo_Sim 50 110 (ma_push (ma_ci (.ofNat 2)) 111)) (mt_leaf (ms_if2 (e := (.if_icmp .le 20, 114, 131, 0, 0)) rfl (fun _ _ _ => rfl) : mo_Sim 50 111 (ma_if2 .le 131 111 114)) (mt_leaf (ms_ald (e := (.aload_n 0, 115, 0, 0, 0)) rfl (fun _ _ _ => rfl) : mo_Sim 50 114 (ma_lda 0 115)) (mt_none)))
set_option maxRecDepth 100000 in
theorem smt50_39 (k : Nat) : ∀ f, mt50_39 k = some f → mo_Sim 50 k f := mt_node (smt50_40 k) (smt50_41 k)
set_option maxRecDepth 100000 in
theorem smt50_37 (k : Nat) : ∀ f, mt50_37 k = some f → mo_Sim 50 k f := mt_node (smt50_38 k) (smt50_39 k)
set_option maxRecDepth 100000 in
theorem smt50_43 (k : Nat) : ∀ f, mt50_43 k = some f → mo_Sim 50 k f := mt_leaf (ms_ald (e := (.aload_n 0, 116, 0, 0, 0)) rfl (fun _ _ _ => rfl) : mo_Sim 50 115 (ma_lda 0 116)) (mt_leaf (ms_ald (e := (.aload_n 0, 117, 0, 0, 0)) rfl (fun _ _ _ => rfl) : mo_Sim 50 116 (ma_lda 0 117)) (mt_leaf (ms_getf (e := (.getfield 14, 120, 7, 0, 204)) rfl (fun _ _ _ => rfl) : mo_Sim 50 117 (ma_getf 7 0 120)) (mt_leaf (ms_getf (e := (.getfield 100, 123, 1, 2, 119)) rfl (fun _ _ _ => rfl) : mo_Sim 50 120 (ma_getf 1 2 123)) (mt_none))))
set_option maxRecDepth 100000 in
theorem smt50_45 (k : Nat) : ∀ f, mt50_45 k = some f → mo_Sim 50 k f := mt_leaf (ms_ild (e := (.iload_n 2, 124, 0, 0, 0)) rfl (fun _ _ _ => rfl) : mo_Sim 50 123 (ma_load 0 2 124)) (mt_leaf (ms_invV (p := 2) (e := (.invokevirtual 89, 127, 53, 0, 727)) rfl rfl (fun _ _ _ => rfl) rfl rfl rfl (by decide) : mo_Sim 50 124 (ma_inv 53 3 5 7 127)) (mt_none))
set_option maxRecDepth 100000 in
theorem smt50_46 (k : Nat) : ∀ f, mt50_46 k = some f → mo_Sim 50 k f := mt_leaf (ms_pushi (e := (.iconst 0, 128, 0, 0, 0)) rfl (fun _ _ _ => rfl) (by decide) : mo_Sim 50 127 (ma_push (ma_ci (.ofNat 0)) 128)) (mt_leaf (ms_invV (p := 2) (e := (.invokevirtual 93, 131, 56, 0, 731)) rfl rfl (fun _ _ _ => rfl) rfl rfl rfl (by decide) : mo_Sim 50 128 (ma_inv 56 3 3 7 131)) (mt_leaf (ms_retv (e := (.return_, 132, 0, 0, 0)) rfl rfl (fun _ _ _ => rfl) : mo_Sim 50 131 (ma_retv)) (mt_none)))
set_option maxRecDepth 100000 in
theorem smt50_44 (k : Nat) : ∀ f, mt50_44 k = some f → mo_Sim 50 k f := mt_node (smt50_45 k) (smt50_46 k)
set_option maxRecDepth 100000 in
theorem smt50_42 (k : Nat) : ∀ f, mt50_42 k = some f → mo_Sim 50 k f := mt_node (smt50_43 k) (smt50_44 k)
set_option maxRecDepth 100000 in
theorem smt50_36 (k : Nat) : ∀ f, mt50_36 k = some f → mo_Sim 50 k f := mt_node (smt50_37 k) (smt50_42 k)
set_option maxRecDepth 100000 in
theorem smt50_24 (k : Nat) : ∀ f, mt50_24 k = some f → mo_Sim 50 k f := mt_node (smt50_25 k) (smt50_36 k)
set_option maxRecDepth 100000 in
theorem smt50_0 (k : Nat) : ∀ f, mt50_0 k = some f → mo_Sim 50 k f := mt_node (smt50_1 k) (smt50_24 k)
set_option maxRecDepth 100000 in
theorem smt51_2 (k : Nat) : ∀ f, mt51_2 k = some f → mo_Sim 51 k f := mt_leaf (ms_ald (e := (.aload_n 1, 1, 0, 0, 0)) rfl (fun _ _ _ => rfl) : mo_Sim 51 0 (ma_lda 1 1)) (mt_leaf (ms_ald (e := (.aload_n 0, 2, 0, 0, 0)) rfl (fun _ _ _ => rfl) : mo_Sim 51 1 (ma_lda 0 2)) (mt_leaf (ms_ild (e := (.iload_n 2, 3, 0, 0, 0)) rfl (fun _ _ _ => rfl) : mo_Sim 51 2 (ma_load 0 2 3)) (mt_leaf (ms_ild (e := (.iload_n 3, 4, 0, 0, 0)) rfl (fun _ _ _ => rfl) : mo_Sim 51 3 (ma_load 0 3 4)) (mt_none))))
set_option maxRecDepth 100000 in
theorem smt51_4 (k : Nat) : ∀ f, mt51_4 k = some f → mo_Sim 51 k f := mt_leaf (ms_invV (p := 2) (e := (.invokevirtual 103, 7, 52, 0, 722)) rfl rfl (fun _ _ _ => rfl) rfl rfl rfl (by decide) : mo_Sim 51 4 (ma_inv 52 3 3 7 7)) (mt_leaf (ms_ald (e := (.aload_n 0, 8, 0, 0, 0)) rfl (fun _ _ _ => rfl) : mo_Sim 51 7 (ma_lda 0 8)) (mt_none))
set_option maxRecDepth 100000 in
theorem smt51_5 (k : Nat) : ∀ f, mt51_5 k = some f → mo_Sim 51 k f := mt_leaf (ms_ild (e := (.iload_n 2, 9, 0, 0, 0)) rfl (fun _ _ _ => rfl) : mo_Sim 51 8 (ma_load 0 2 9)) (mt_leaf (ms_pushi (e := (.iconst 1, 10, 0, 0, 0)) rfl (fun _ _ _ => rfl) (by decide) : mo_Sim 51 9 (ma_push (ma_ci (.ofNat 1)) 10)) (mt_leaf (ms_iadd (e := (.iadd, 11, 0, 0, 0)) rfl (fun _ _ _ => rfl) : mo_Sim 51 10 (ma_iadd 10 11)) (mt_none)))
set_option maxRecDepth 100000 in
theorem smt51_3 (k : Nat) : ∀ f, mt51_3 k = some f → mo_Sim 51 k f := mt_node (smt51_4 k) (smt51_5 k)
set_option maxRecDepth 100000 in
theorem smt51_1 (k : Nat) : ∀ f, mt51_1 k = some f → mo_Sim 51 k f := mt_node (smt51_2 k) (smt51_3 k)
set_option maxRecDepth 100000 in
theorem smt51_8 (k : Nat) : ∀ f, mt51_8 k = some f → mo_Sim 51 k f := mt_leaf (ms_ild (e := (.iload_n 3, 12, 0, 0, 0)) rfl (fun _ _ _ => rfl) : mo_Sim 51 11 (ma_load 0 3 12)) (mt_leaf (ms_invV (p := 2) (e := (.invokevirtual 103, 15, 52, 0, 722)) rfl rfl (fun _ _ _ => rfl) rfl rfl rfl (by decide) : mo_Sim 51 12 (ma_inv 52 3 3 7 15)) (mt_none))
set_option maxRecDepth 100000 in
theorem smt51_9 (k : Nat) : ∀ f, mt51_9 k = some f → mo_Sim 51 k f := mt_leaf (ms_ald (e := (.aload_n 0, 16, 0, 0, 0)) rfl (fun _ _ _ => rfl) : mo_Sim 51 15 (ma_lda 0 16)) (mt_leaf (ms_ild (e := (.iload_n 2, 17, 0, 0, 0)) rfl (fun _ _ _ => rfl) : mo_Sim 51 16 (ma_load 0 2 17)) (mt_leaf (ms_pushi (e := (.iconst 2, 18, 0, 0, 0)) rfl (fun _ _ _ => rfl) (by decide) : mo_Sim 51 17 (ma_push (ma_ci (.ofNat 2)) 18)) (mt_none)))
set_option maxRecDepth 100000 in
theorem smt51_7 (k : Nat) : ∀ f, mt51_7 k = some f → mo_Sim 51 k f := mt_node (smt51_8 k) (smt51_9 k)
set_option maxRecDepth 100000 in
theorem smt51_11 (k : Nat) : ∀ f, mt51_11 k = some f → mo_Sim 51 k f := mt_leaf (ms_iadd (e := (.iadd, 19, 0, 0, 0)) rfl (fun _ _ _ => rfl) : mo_Sim 51 18 (ma_iadd 18 19)) (mt_leaf (ms_ild (e := (.iload_n 3, 20, 0, 0, 0)) rfl (fun _ _ _ => rfl) : mo_Sim 51 19 (ma_load 0 3 20)) (mt_none))
set_option maxRecDepth 100000 in
theorem smt51_12 (k : Nat) : ∀ f, mt51_12 k = some f → mo_Sim 51 k f := mt_leaf (ms_invV (p := 2) (e := (.invokevirtual 103, 23, 52, 0, 722)) rfl rfl (fun _ _ _ => rfl) rfl rfl rfl (by decide) : mo_Sim 51 20 (ma_inv 52 3 3 7 23)) (mt_leaf (ms_invV (p := 3) (e := (.invokevirtual 107, 26, 44, 0, 726)) rfl rfl (fun _ _ _ => rfl) rfl rfl rfl (by decide) : mo_Sim 51 23 (ma_inv 44 4 4 5 26)) (mt_leaf (ms_retv (e := (.return_, 27, 0, 0, 0)) rfl rfl (fun _ _ _ => rfl) : mo_Sim 51 26 (ma_retv)) (mt_none)))
set_option maxRecDepth 100000 in
theorem smt51_10 (k : Nat) : ∀ f, mt51_10 k = some f → mo_Sim 51 k f := mt_node (smt51_11 k) (smt51_12 k)
set_option maxRecDepth 100000 in
theorem smt51_6 (k : Nat) : ∀ f, mt51_6 k = some f → mo_Sim 51 k f := mt_node (smt51_7 k) (smt51_10 k)
set_option maxRecDepth 100000 in
theorem smt51_0 (k : Nat) : ∀ f, mt51_0 k = some f → mo_Sim 51 k f := mt_node (smt51_1 k) (smt51_6 k)
set_option maxRecDepth 100000 in
theorem smt52_2 (k : Nat) : ∀ f, mt52_2 k = some f → mo_Sim 52 k f := mt_leaf (ms_ild (e := (.iload_n 1, 1, 0, 0, 0)) rfl (fun _ _ _ => rfl) : mo_Sim 52 0 (ma_load 0 1 1)) (mt_leaf (ms_ild (e := (.iload_n 2, 2, 0, 0, 0)) rfl (fun _ _ _ => rfl) : mo_Sim 52 1 (ma_load 0 2 2)) (mt_none))
set_option maxRecDepth 100000 in
theorem smt52_3 (k : Nat) : ∀ f, mt52_3 k = some f → mo_Sim 52 k f := mt_leaf (ms_if2 (e := (.if_icmp .ge 14, 5, 16, 0, 0)) rfl (fun _ _ _ => rfl) : mo_Sim 52 2 (ma_if2 .ge 16 2 5)) (mt_leaf (ms_ald (e := (.aload_n 0, 6, 0, 0, 0)) rfl (fun _ _ _ => rfl) : mo_Sim 52 5 (ma_lda 0 6)) (mt_leaf (ms_getf (e := (.getfield 14, 9, 7, 0, 204)) rfl (fun _ _ _ => rfl) : mo_Sim 52 6 (ma_getf 7 0 9)) (mt_none)))
set_option maxRecDepth 100000 in
theorem smt52_1 (k : Nat) : ∀ f, mt52_1 k = some f → mo_Sim 52 k f := mt_node (smt52_2 k) (smt52_3 k)
set_option maxRecDepth 100000 in
theorem smt52_5 (k : Nat) : ∀ f, mt52_5 k = some f → mo_Sim 52 k f := mt_leaf (ms_ild (e := (.iload_n 1, 10, 0, 0, 0)) rfl (fun _ _ _ => rfl) : mo_Sim 52 9 (ma_load 0 1 10)) (mt_leaf (ms_invV (p := 1) (e := (.invokevirtual 77, 13, 12, 0, 712)) rfl rfl (fun _ _ _ => rfl) rfl rfl rfl (by decide) : mo_Sim 52 10 (ma_inv 12 2 4 1 13)) (mt_none))
set_option maxRecDepth 100000 in
theorem smt52_6 (k : Nat) : ∀ f, mt52_6 k = some f → mo_Sim 52 k f := mt_leaf (ms_goto (e := (.goto 4, 16, 17, 0, 0)) rfl (fun _ _ _ => rfl) : mo_Sim 52 13 (ma_goto 17)) (mt_leaf (ms_pushi (e := (.iconst 0, 17, 0, 0, 0)) rfl (fun _ _ _ => rfl) (by decide) : mo_Sim 52 16 (ma_push (ma_ci (.ofNat 0)) 17)) (mt_leaf (ms_ret (e := (.ireturn, 18, 0, 0, 0)) rfl (Or.inl ⟨rfl, rfl, (fun _ _ _ => rfl)⟩) : mo_Sim 52 17 (ma_ret 0)) (mt_none)))
set_option maxRecDepth 100000 in
theorem smt52_4 (k : Nat) : ∀ f, mt52_4 k = some f → mo_Sim 52 k f := mt_node (smt52_5 k) (smt52_6 k)
set_option maxRecDepth 100000 in
theorem smt52_0 (k : Nat) : ∀ f, mt52_0 k = some f → mo_Sim 52 k f := mt_node (smt52_1 k) (smt52_4 k)
set_option maxRecDepth 100000 in
theorem smt53_3 (k : Nat) : ∀ f, mt53_3 k = some f → mo_Sim 53 k f := mt_leaf (ms_pushi (e := (.iconst 0, 1, 0, 0, 0)) rfl (fun _ _ _ => rfl) (by decide) : mo_Sim 53 0 (ma_push (ma_ci (.ofNat 0)) 1)) (mt_leaf (ms_ist (e := (.istore_n 3, 2, 0, 0, 0)) rfl (fun _ _ _ => rfl) : mo_Sim 53 1 (ma_stor 0 3 2)) (mt_none))
set_option maxRecDepth 100000 in
theorem smt53_4 (k : Nat) : ∀ f, mt53_4 k = some f → mo_Sim 53 k f := mt_leaf (ms_ild (e := (.iload_n 2, 3, 0, 0, 0)) rfl (fun _ _ _ => rfl) : mo_Sim 53 2 (ma_load 0 2 3)) (mt_leaf (ms_pushi (e := (.iconst 1, 4, 0, 0, 0)) rfl (fun _ _ _ => rfl) (by decide) : mo_Sim 53 3 (ma_push (ma_ci (.ofNat 1)) 4)) (mt_leaf (ms_isub (e := (.isub, 5, 0, 0, 0)) rfl (fun _ _ _ => rfl) : mo_Sim 53 4 (ma_isub 4 5)) (mt_none)))
set_option maxRecDepth 100000 in
theorem smt53_2 (k : Nat) : ∀ f, mt53_2 k = some f → mo_Sim 53 k f := mt_node (smt53_3 k) (smt53_4 k)
set_option maxRecDepth 100000 in
theorem smt53_6 (k : Nat) : ∀ f, mt53_6 k = some f → mo_Sim 53 k f := mt_leaf (ms_ist (e := (.istore 4, 7, 0, 0, 0)) rfl (fun _ _ _ => rfl) : mo_Sim 53 5 (ma_stor 0 4 7)) (mt_leaf (ms_ild (e := (.iload 4, 9, 0, 0, 0)) rfl (fun _ _ _ => rfl) : mo_Sim 53 7 (ma_load 0 4 9)) (mt_leaf (ms_if0 (e := (.ifCond .lt 24, 12, 33, 0, 0)) rfl (fun _ _ _ => rfl) : mo_Sim 53 9 (ma_if0 .lt 33 9 12)) (mt_none)))
set_option maxRecDepth 100000 in
theorem smt53_7 (k : Nat) : ∀ f, mt53_7 k = some f → mo_Sim 53 k f := mt_leaf (ms_ild (e := (.iload_n 3, 13, 0, 0, 0)) rfl (fun _ _ _ => rfl) : mo_Sim 53 12 (ma_load 0 3 13)) (mt_leaf (ms_ald (e := (.aload_n 0, 14, 0, 0, 0)) rfl (fun _ _ _ => rfl) : mo_Sim 53 13 (ma_lda 0 14)) (mt_leaf (ms_getf (e := (.getfield 14, 17, 7, 0, 204)) rfl (fun _ _ _ => rfl) : mo_Sim 53 14 (ma_getf 7 0 17)) (mt_none)))
set_option maxRecDepth 100000 in
theorem smt53_5 (k : Nat) : ∀ f, mt53_5 k = some f → mo_Sim 53 k f := mt_node (smt53_6 k) (smt53_7 k)
set_option maxRecDepth 100000 in
theorem smt53_1 (k : Nat) : ∀ f, mt53_1 k = some f → mo_Sim 53 k f := mt_node (smt53_2 k) (smt53_5 k)
set_option maxRecDepth 100000 in
theorem smt53_10 (k : Nat) : ∀ f, mt53_10 k = some f → mo_Sim 53 k f := mt_leaf (ms_getf (e := (.getfield 111, 20, 1, 0, 111)) rfl (fun _ _ _ => rfl) : mo_Sim 53 17 (ma_getf 1 0 20)) (mt_leaf (ms_i2 (e := (.imul, 21, 0, 0, 0)) rfl (fun _ _ _ => rfl) hf_mul : mo_Sim 53 20 (ma_i2 ma_fmul 20 21)) (mt_none))
set_option maxRecDepth 100000 in
theorem smt53_11 (k : Nat) : ∀ f, mt53_11 k = some f → mo_Sim 53 k f := mt_leaf (ms_ald (e := (.aload_n 1, 22, 0, 0, 0)) rfl (fun _ _ _ => rfl) : mo_Sim 53 21 (ma_lda 1 22)) (mt_leaf (ms_ild (e := (.iload 4, 24, 0, 0, 0)) rfl (fun _ _ _ => rfl) : mo_Sim 53 22 (ma_load 0 4 24)) (mt_leaf (ms_iald (e := (.iaload, 25, 0, 0, 0)) rfl (fun _ _ _ => rfl) : mo_Sim 53 24 (ma_iald 24 25)) (mt_none)))
set_option maxRecDepth 100000 in
theorem smt53_9 (k : Nat) : ∀ f, mt53_9 k = some f → mo_Sim 53 k f := mt_node (smt53_10 k) (smt53_11 k)
set_option maxRecDepth 100000 in
theorem smt53_13 (k : Nat) : ∀ f, mt53_13 k = some f → mo_Sim 53 k f := mt_leaf (ms_iadd (e := (.iadd, 26, 0, 0, 0)) rfl (fun _ _ _ => rfl) : mo_Sim 53 25 (ma_iadd 25 26)) (mt_leaf (ms_ist (e := (.istore_n 3, 27, 0, 0, 0)) rfl (fun _ _ _ => rfl) : mo_Sim 53 26 (ma_stor 0 3 27)) (mt_leaf (ms_iinc (e := (.iinc 4 (-1), 30, 0, 0, 0)) rfl (fun _ _ _ => rfl) (by decide) : mo_Sim 53 27 (ma_iinc 4 (.negSucc 0) 27 30)) (mt_none)))
set_option maxRecDepth 100000 in
theorem smt53_14 (k : Nat) : ∀ f, mt53_14 k = some f → mo_Sim 53 k f := mt_leaf (ms_goto (e := (.goto (-23), 33, 7, 0, 0)) rfl (fun _ _ _ => rfl) : mo_Sim 53 30 (ma_goto 7)) (mt_leaf (ms_ild (e := (.iload_n 3, 34, 0, 0, 0)) rfl (fun _ _ _ => rfl) : mo_Sim 53 33 (ma_load 0 3 34)) (mt_leaf (ms_ret (e := (.ireturn, 35, 0, 0, 0)) rfl (Or.inl ⟨rfl, rfl, (fun _ _ _ => rfl)⟩) : mo_Sim 53 34 (ma_ret 0)) (mt_none)))
set_option maxRecDepth 100000 in
theorem smt53_12 (k : Nat) : ∀ f, mt53_12 k = some f → mo_Sim 53 k f := mt_node (smt53_13 k) (smt53_14 k)
set_option maxRecDepth 100000 in
theorem smt53_8 (k : Nat) : ∀ f, mt53_8 k = some f → mo_Sim 53 k f := mt_node (smt53_9 k) (smt53_12 k)
set_option maxRecDepth 100000 in
theorem smt53_0 (k : Nat) : ∀ f, mt53_0 k = some f → mo_Sim 53 k f := mt_node (smt53_1 k) (smt53_8 k)
set_option maxRecDepth 100000 in
theorem smt54_5 (k : Nat) : ∀ f, mt54_5 k = some f → mo_Sim 54 k f := mt_leaf (ms_pushi (e := (.iconst 1, 1, 0, 0, 0)) rfl (fun _ _ _ => rfl) (by decide) : mo_Sim 54 0 (ma_push (ma_ci (.ofNat 1)) 1)) (mt_leaf (ms_ald (e := (.aload_n 0, 2, 0, 0, 0)) rfl (fun _ _ _ => rfl) : mo_Sim 54 1 (ma_lda 0 2)) (mt_leaf (ms_getf (e := (.getfield 22, 5, 7, 2, 206)) rfl (fun _ _ _ => rfl) : mo_Sim 54 2 (ma_getf 7 2 5)) (mt_none)))
set_option maxRecDepth 100000 in
theorem smt54_6 (k : Nat) : ∀ f, mt54_6 k = some f → mo_Sim 54 k f := mt_leaf (ms_ild (e := (.iload_n 2, 6, 0, 0, 0)) rfl (fun _ _ _ => rfl) : mo_Sim 54 5 (ma_load 0 2 6)) (mt_leaf (ms_iald (e := (.iaload, 7, 0, 0, 0)) rfl (fun _ _ _ => rfl) : mo_Sim 54 6 (ma_iald 6 7)) (mt_leaf (ms_iadd (e := (.iadd, 8, 0, 0, 0)) rfl (fun _ _ _ => rfl) : mo_Sim 54 7 (ma_iadd 7 8)) (mt_none)))
set_option maxRecDepth 100000 in
theorem smt54_4 (k : Nat) : ∀ f, mt54_4 k = some f → mo_Sim 54 k f := mt_node (smt54_5 k) (smt54_6 k)
set_option maxRecDepth 100000 in
theorem smt54_8 (k : Nat) : ∀ f, mt54_8 k = some f → mo_Sim 54 k f := mt_leaf (ms_ist (e := (.istore_n 3, 9, 0, 0, 0)) rfl (fun _ _ _ => rfl) : mo_Sim 54 8 (ma_stor 0 3 9)) (mt_leaf (ms_ald (e := (.aload_n 1, 10, 0, 0, 0)) rfl (fun _ _ _ => rfl) : mo_Sim 54 9 (ma_lda 1 10)) (mt_leaf (ms_getf (e := (.getfield 114, 13, 0, 0, 391)) rfl (fun _ _ _ => rfl) : mo_Sim 54 10 (ma_getf 0 0 13)) (mt_none)))
set_option maxRecDepth 100000 in
theorem smt54_9 (k : Nat) : ∀ f, mt54_9 k = some f → mo_Sim 54 k f := mt_leaf (ms_pushi (e := (.iconst 1, 14, 0, 0, 0)) rfl (fun _ _ _ => rfl) (by decide) : mo_Sim 54 13 (ma_push (ma_ci (.ofNat 1)) 14)) (mt_leaf (ms_if2 (e := (.if_icmp .ne 19, 17, 33, 0, 0)) rfl (fun _ _ _ => rfl) : mo_Sim 54 14 (ma_if2 .ne 33 14 17)) (mt_leaf (ms_ald (e := (.aload_n 0, 18, 0, 0, 0)) rfl (fun _ _ _ => rfl) : mo_Sim 54 17 (ma_lda 0 18)) (mt_leaf (ms_ald (e := (.aload_n 1, 19, 0, 0, 0)) rfl (fun _ _ _ => rfl) : mo_Sim 54 18 (ma_lda 1 19)) (mt_none))))
set_option maxRecDepth 100000 in
theorem smt54_7 (k : Nat) : ∀ f, mt54_7 k = some f → mo_Sim 54 k f := mt_node (smt54_8 k) (smt54_9 k)
set_option maxRecDepth 100000 in
theorem smt54_3 (k : Nat) : ∀ f, mt54_3 k = some f → mo_Sim 54 k f := mt_node (smt54_4 k) (smt54_7 k)
set_option maxRecDepth 100000 in
theorem smt54_12 (k : Nat) : ∀ f, mt54_12 k = some f → mo_Sim 54 k f := mt_leaf (ms_getf (e := (.getfield 119, 22, 0, 2, 397)) rfl (fun _ _ _ => rfl) : mo_Sim 54 19 (ma_getf 0 2 22)) (mt_leaf (ms_ild (e := (.iload_n 2, 23, 0, 0, 0)) rfl (fun _ _ _ => rfl) : mo_Sim 54 22 (ma_load 0 2 23)) (mt_leaf (ms_ild (e := (.iload_n 2, 24, 0, 0, 0)) rfl (fun _ _ _ => rfl) : mo_Sim 54 23 (ma_load 0 2 24)) (mt_none)))
set_option maxRecDepth 100000 in
theorem smt54_13 (k : Nat) : ∀ f, mt54_13 k = some f → mo_Sim 54 k f := mt_leaf (ms_ild (e := (.iload_n 2, 25, 0, 0, 0)) rfl (fun _ _ _ => rfl) : mo_Sim 54 24 (ma_load 0 2 25)) (mt_leaf (ms_ild (e := (.iload_n 2, 26, 0, 0, 0)) rfl (fun _ _ _ => rfl) : mo_Sim 54 25 (ma_load 0 2 26)) (mt_leaf (ms_pushi (e := (.iconst 1, 27, 0, 0, 0)) rfl (fun _ _ _ => rfl) (by decide) : mo_Sim 54 26 (ma_push (ma_ci (.ofNat 1)) 27)) (mt_none)))
set_option maxRecDepth 100000 in
theorem smt54_11 (k : Nat) : ∀ f, mt54_11 k = some f → mo_Sim 54 k f := mt_node (smt54_12 k) (smt54_13 k)
set_option maxRecDepth 100000 in
theorem smt54_15 (k : Nat) : ∀ f, mt54_15 k = some f → mo_Sim 54 k f := mt_leaf (ms_invV (p := 6) (e := (.invokevirtual 122, 30, 55, 0, 765)) rfl rfl (fun _ _ _ => rfl) rfl rfl rfl (by decide) : mo_Sim 54 27 (ma_inv 55 7 11 7 30)) (mt_leaf (ms_goto (e := (.goto 140, 33, 170, 0, 0)) rfl (fun _ _ _ => rfl) : mo_Sim 54 30 (ma_goto 170)) (mt_leaf (ms_ald (e := (.aload_n 1, 34, 0, 0, 0)) rfl (fun _ _ _ => rfl) : mo_Sim 54 33 (ma_lda 1 34)) (mt_none)))
set_option maxRecDepth 100000 in
theorem smt54_16 (k : Nat) : ∀ f, mt54_16 k = some f → mo_Sim 54 k f := mt_leaf (ms_getf (e := (.getfield 114, 37, 0, 0, 391)) rfl (fun _ _ _ => rfl) : mo_Sim 54 34 (ma_getf 0 0 37)) (mt_leaf (ms_pushi (e := (.iconst 2, 38, 0, 0, 0)) rfl (fun _ _ _ => rfl) (by decide) : mo_Sim 54 37 (ma_push (ma_ci (.ofNat 2)) 38)) (mt_leaf (ms_if2 (e := (.if_icmp .ne 34, 41, 72, 0, 0)) rfl (fun _ _ _ => rfl) : mo_Sim 54 38 (ma_if2 .ne 72 38 41)) (mt_leaf (ms_ald (e := (.aload_n 0, 42, 0, 0, 0)) rfl (fun _ _ _ => rfl) : mo_Sim 54 41 (ma_lda 0 42)) (mt_none))))
set_option maxRecDepth 100000 in
theorem smt54_14 (k : Nat) : ∀ f, mt54_14 k = some f → mo_Sim 54 k f := mt_node (smt54_15 k) (smt54_16 k)
set_option maxRecDepth 100000 in
theorem smt54_10 (k : Nat) : ∀ f, mt54_10 k = some f → mo_Sim 54 k f := mt_node (smt54_11 k) (smt54_14 k)
set_option maxRecDepth 100000 in
theorem smt54_2 (k : Nat) : ∀ f, mt54_2 k = some f → mo_Sim 54 k f := mt_node (smt54_3 k) (smt54_10 k)
set_option maxRecDepth 100000 in
theorem smt54_20 (k : Nat) : ∀ f, mt54_20 k = some f → mo_Sim 54 k f := mt_leaf (ms_ald (e := (.aload_n 1, 43, 0, 0, 0)) rfl (fun _ _ _ => rfl) : mo_Sim 54 42 (ma_lda 1 43)) (mt_leaf (ms_getf (e := (.getfield 119, 46, 0, 2, 397)) rfl (fun _ _ _ => rfl) : mo_Sim 54 43 (ma_getf 0 2 46)) (mt_leaf (ms_ild (e := (.iload_n 2, 47, 0, 0, 0)) rfl (fun _ _ _ => rfl) : mo_Sim 54 46 (ma_load 0 2 47)) (mt_none)))
set_option maxRecDepth 100000 in
theorem smt54_21 (k : Nat) : ∀ f, mt54_21 k = some f → mo_Sim 54 k f := mt_leaf (ms_ild (e := (.iload_n 2, 48, 0, 0, 0)) rfl (fun _ _ _ => rfl) : mo_Sim 54 47 (ma_load 0 2 48)) (mt_leaf (ms_pushi (e := (.iconst 0, 49, 0, 0, 0)) rfl (fun _ _ _ => rfl) (by decide) : mo_Sim 54 48 (ma_push (ma_ci (.ofNat 0)) 49)) (mt_leaf (ms_ild (e := (.iload_n 2, 50, 0, 0, 0)) rfl (fun _ _ _ => rfl) : mo_Sim 54 49 (ma_load 0 2 50)) (mt_none)))
set_option maxRecDepth 100000 in
theorem smt54_19 (k : Nat) : ∀ f, mt54_19 k = some f → mo_Sim 54 k f := mt_node (smt54_20 k) (smt54_21 k)
set_option maxRecDepth 100000 in
theorem smt54_23 (k : Nat) : ∀ f, mt54_23 k = some f → mo_Sim 54 k f := mt_leaf (ms_ild (e := (.iload_n 3, 51, 0, 0, 0)) rfl (fun _ _ _ => rfl) : mo_Sim 54 50 (ma_load 0 3 51)) (mt_leaf (ms_invV (p := 6) (e := (.invokevirtual 122, 54, 55, 0, 765)) rfl rfl (fun _ _ _ => rfl) rfl rfl rfl (by decide) : mo_Sim 54 51 (ma_inv 55 7 11 7 54)) (mt_leaf (ms_ald (e := (.aload_n 0, 55, 0, 0, 0)) rfl (fun _ _ _ => rfl) : mo_Sim 54 54 (ma_lda 0 55)) (mt_none)))
set_option maxRecDepth 100000 in
theorem smt54_24 (k : Nat) : ∀ f, mt54_24 k = some f → mo_Sim 54 k f := mt_leaf (ms_ald (e := (.aload_n 1, 56, 0, 0, 0)) rfl (fun _ _ _ => rfl) : mo_Sim 54 55 (ma_lda 1 56)) (mt_leaf (ms_getf (e := (.getfield 126, 59, 0, 3, 400)) rfl (fun _ _ _ => rfl) : mo_Sim 54 56 (ma_getf 0 3 59)) (mt_leaf (ms_ild (e := (.iload_n 2, 60, 0, 0, 0)) rfl (fun _ _ _ => rfl) : mo_Sim 54 59 (ma_load 0 2 60)) (mt_leaf (ms_ild (e := (.iload_n 2, 61, 0, 0, 0)) rfl (fun _ _ _ => rfl) : mo_Sim 54 60 (ma_load 0 2 61)) (mt_none))))
set_option maxRecDepth 100000 in
theorem smt54_22 (k : Nat) : ∀ f, mt54_22 k = some f → mo_Sim 54 k f := mt_node (smt54_23 k) (smt54_24 k)
set_option maxRecDepth 100000 in
theorem smt54_18 (k : Nat) : ∀ f, mt54_18 k = some f → mo_Sim 54 k f := mt_node (smt54_19 k) (smt54_22 k)
set_option maxRecDepth 100000 in
theorem smt54_27 (k : Nat) : ∀ f, mt54_27 k = some f → mo_Sim 54 k f := mt_leaf (ms_pushi (e := (.iconst 0, 62, 0, 0, 0)) rfl (fun _ _ _ => rfl) (by decide) : mo_Sim 54 61 (ma_push (ma_ci (.ofNat 0)) 62)) (mt_leaf (ms_ild (e := (.iload_n 2, 63, 0, 0, 0)) rfl (fun _ _ _ => rfl) : mo_Sim 54 62 (ma_load 0 2 63)) (mt_leaf (ms_pushi (e := (.iconst 1, 64, 0, 0, 0)) rfl (fun _ _ _ => rfl) (by decide) : mo_Sim 54 63 (ma_push (ma_ci (.ofNat 1)) 64)) (mt_none)))
set_option maxRecDepth 100000 in
theorem smt54_28 (k : Nat) : ∀ f, mt54_28 k = some f → mo_Sim 54 k f := mt_leaf (ms_isub (e := (.isub, 65, 0, 0, 0)) rfl (fun _ _ _ => rfl) : mo_Sim 54 64 (ma_isub 64 65)) (mt_leaf (ms_ild (e := (.iload_n 3, 66, 0, 0, 0)) rfl (fun _ _ _ => rfl) : mo_Sim 54 65 (ma_load 0 3 66)) (mt_leaf (ms_invV (p := 6) (e := (.invokevirtual 122, 69, 55, 0, 765)) rfl rfl (fun _ _ _ => rfl) rfl rfl rfl (by decide) : mo_Sim 54 66 (ma_inv 55 7 11 7 69)) (mt_none)))
set_option maxRecDepth 100000 in
theorem smt54_26 (k : Nat) : ∀ f, mt54_26 k = some f → mo_Sim 54 k f := mt_node (smt54_27 k) (smt54_28 k)
set_option maxRecDepth 100000 in
theorem smt54_30 (k : Nat) : ∀ f, mt54_30 k = some f → mo_Sim 54 k f := mt_leaf (ms_goto (e := (.goto 101, 72, 170, 0, 0)) rfl (fun _ _ _ => rfl) : mo_Sim 54 69 (ma_goto 170)) (mt_leaf (ms_pushi (e := (.iconst 0, 73, 0, 0, 0)) rfl (fun _ _ _ => rfl) (by decide) : mo_Sim 54 72 (ma_push (ma_ci (.ofNat 0)) 73)) (mt_leaf (ms_ist (e := (.istore 4, 75, 0, 0, 0)) rfl (fun _ _ _ => rfl) : mo_Sim 54 73 (ma_stor 0 4 75)) (mt_none)))
set_option maxRecDepth 100000 in
theorem smt54_31 (k : Nat) : ∀ f, mt54_31 k = some f → mo_Sim 54 k f := mt_leaf (ms_ild (e := (.iload 4, 77, 0, 0, 0)) rfl (fun _ _ _ => rfl) : mo_Sim 54 75 (ma_load 0 4 77)) (mt_leaf (ms_ild (e := (.iload_n 2, 78, 0, 0, 0)) rfl (fun _ _ _ => rfl) : mo_Sim 54 77 (ma_load 0 2 78)) (mt_leaf (ms_if2 (e := (.if_icmp .gt 31, 81, 109, 0, 0)) rfl (fun _ _ _ => rfl) : mo_Sim 54 78 (ma_if2 .gt 109 78 81)) (mt_leaf (ms_ald (e := (.aload_n 0, 82, 0, 0, 0)) rfl (fun _ _ _ => rfl) : mo_Sim 54 81 (ma_lda 0 82)) (mt_none))))
set_option maxRecDepth 100000 in
theorem smt54_29 (k : Nat) : ∀ f, mt54_29 k = some f → mo_Sim 54 k f := mt_node (smt54_30 k) (smt54_31 k)
set_option maxRecDepth 100000 in
theorem smt54_25 (k : Nat) : ∀ f, mt54_25 k = some f → mo_Sim 54 k f := mt_node (smt54_26 k) (smt54_29 k)
set_option maxRecDepth 100000 in
theorem smt54_17 (k : Nat) : ∀ f, mt54_17 k = some f → mo_Sim 54 k f := mt_node (smt54_18 k) (smt54_25 k)
set_option maxRecDepth 100000 in
theorem smt54_1 (k : Nat) : ∀ f, mt54_1 k = some f → mo_Sim 54 k f := mt_node (smt54_2 k) (smt54_17 k)
set_option maxRecDepth 100000 in
theorem smt54_36 (k : Nat) : ∀ f, mt54_36 k = some f → mo_Sim 54 k f := mt_leaf (ms_ald (e := (.aload_n 1, 83, 0, 0, 0)) rfl (fun _ _ _ => rfl) : mo_Sim 54 82 (ma_lda 1 83)) (mt_leaf (ms_getf (e := (.getfield 119, 86, 0, 2, 397)) rfl (fun _ _ _ => rfl) : mo_Sim 54 83 (ma_getf 0 2 86)) (mt_leaf (ms_ild (e := (.iload_n 2, 87, 0, 0, 0)) rfl (fun _ _ _ => rfl) : mo_Sim 54 86 (ma_load 0 2 87)) (mt_none)))
set_option maxRecDepth 100000 in
theorem smt54_37 (k : Nat) : ∀ f, mt54_37 k = some f → mo_Sim 54 k f := mt_leaf (ms_ild (e := (.iload 4, 89, 0, 0, 0)) rfl (fun _ _ _ => rfl) : mo_Sim 54 87 (ma_load 0 4 89)) (mt_leaf (ms_pushi (e := (.iconst 0, 90, 0, 0, 0)) rfl (fun _ _ _ => rfl) (by decide) : mo_Sim 54 89 (ma_push (ma_ci (.ofNat 0)) 90)) (mt_leaf (ms_ild (e := (.iload_n 2, 91, 0, 0, 0)) rfl (fun _ _ _ => rfl) : mo_Sim 54 90 (ma_load 0 2 91)) (mt_none)))
set_option maxRecDepth 100000 in
theorem smt54_35 (k : Nat) : ∀ f, mt54_35 k = some f → mo_Sim 54 k f := mt_node (smt54_36 k) (smt54_37 k)
set_option maxRecDepth 100000 in
theorem smt54_39 (k : Nat) : ∀ f, mt54_39 k = some f → mo_Sim 54 k f := mt_leaf (ms_ild (e := (.iload_n 3, 92, 0, 0, 0)) rfl (fun _ _ _ => rfl) : mo_Sim 54 91 (ma_load 0 3 92)) (mt_leaf (ms_ald (e := (.aload_n 0, 93, 0, 0, 0)) rfl (fun _ _ _ => rfl) : mo_Sim 54 92 (ma_lda 0 93)) (mt_leaf (ms_getf (e := (.getfield 22, 96, 7, 2, 206)) rfl (fun _ _ _ => rfl) : mo_Sim 54 93 (ma_getf 7 2 96)) (mt_none)))
set_option maxRecDepth 100000 in
theorem smt54_40 (k : Nat) : ∀ f, mt54_40 k = some f → mo_Sim 54 k f := mt_leaf (ms_ild (e := (.iload 4, 98, 0, 0, 0)) rfl (fun _ _ _ => rfl) : mo_Sim 54 96 (ma_load 0 4 98)) (mt_leaf (ms_iald (e := (.iaload, 99, 0, 0, 0)) rfl (fun _ _ _ => rfl) : mo_Sim 54 98 (ma_iald 98 99)) (mt_leaf (ms_iadd (e := (.iadd, 100, 0, 0, 0)) rfl (fun _ _ _ => rfl) : mo_Sim 54 99 (ma_iadd 99 100)) (mt_leaf (ms_invV (p := 6) (e := (.invokevirtual 122, 103, 55, 0, 765)) rfl rfl (fun _ _ _ => rfl) rfl rfl rfl (by decide) : mo_Sim 54 100 (ma_inv 55 7 11 7 103)) (mt_none))))
set_option maxRecDepth 100000 in
theorem smt54_38 (k : Nat) : ∀ f, mt54_38 k = some f → mo_Sim 54 k f := mt_node (smt54_39 k) (smt54_40 k)
set_option maxRecDepth 100000 in
theorem smt54_34 (k : Nat) : ∀ f, mt54_34 k = some f → mo_Sim 54 k f := mt_node (smt54_35 k) (smt54_38 k)
set_option maxRecDepth 100000 in
theorem smt54_43 (k : Nat) : ∀ f, mt54_43 k = some f → mo_Sim 54 k f := mt_leaf (ms_iinc (e := (.iinc 4 1, 106, 0, 0, 0)) rfl (fun _ _ _ => rfl) (by decide) : mo_Sim 54 103 (ma_iinc 4 (.ofNat 1) 103 106)) (mt_leaf (ms_goto (e := (.goto (-31), 109, 75, 0, 0)) rfl (fun _ _ _ => rfl) : mo_Sim 54 106 (ma_goto 75)) (mt_leaf (ms_pushi (e := (.iconst 0, 110, 0, 0, 0)) rfl (fun _ _ _ => rfl) (by decide) : mo_Sim 54 109 (ma_push (ma_ci (.ofNat 0)) 110)) (mt_none)))
set_option maxRecDepth 100000 in
theorem smt54_44 (k : Nat) : ∀ f, mt54_44 k = some f → mo_Sim 54 k f := mt_leaf (ms_ist (e := (.istore 4, 112, 0, 0, 0)) rfl (fun _ _ _ => rfl) : mo_Sim 54 110 (ma_stor 0 4 112)) (mt_leaf (ms_ild (e := (.iload 4, 114, 0, 0, 0)) rfl (fun _ _ _ => rfl) : mo_Sim 54 112 (ma_load 0 4 114)) (mt_leaf (ms_ild (e := (.iload_n 2, 115, 0, 0, 0)) rfl (fun _ _ _ => rfl) : mo_Sim 54 114 (ma_load 0 2 115)) (mt_none)))
set_option maxRecDepth 100000 in
theorem smt54_42 (k : Nat) : ∀ f, mt54_42 k = some f → mo_Sim 54 k f := mt_node (smt54_43 k) (smt54_44 k)
set_option maxRecDepth 100000 in
theorem smt54_46 (k : Nat) : ∀ f, mt54_46 k = some f → mo_Sim 54 k f := mt_leaf (ms_if2 (e := (.if_icmp .ge 55, 118, 170, 0, 0)) rfl (fun _ _ _ => rfl) : mo_Sim 54 115 (ma_if2 .ge 170 115 118)) (mt_leaf (ms_ald (e := (.aload_n 0, 119, 0, 0, 0)) rfl (fun _ _ _ => rfl) : mo_Sim 54 118 (ma_lda 0 119)) (mt_leaf (ms_ald (e := (.aload_n 1, 120, 0, 0, 0)) rfl (fun _ _ _ => rfl) : mo_Sim 54 119 (ma_lda 1 120)) (mt_none)))
set_option maxRecDepth 100000 in
theorem smt54_47 (k : Nat) : ∀ f, mt54_47 k = some f → mo_Sim 54 k f := mt_leaf (ms_getf (e := (.getfield 119, 123, 0, 2, 397)) rfl (fun _ _ _ => rfl) : mo_Sim 54 120 (ma_getf 0 2 123)) (mt_leaf (ms_ild (e := (.iload 4, 125, 0, 0, 0)) rfl (fun _ _ _ => rfl) : mo_Sim 54 123 (ma_load 0 4 125)) (mt_leaf (ms_ild (e := (.iload_n 2, 126, 0, 0, 0)) rfl (fun _ _ _ => rfl) : mo_Sim 54 125 (ma_load 0 2 126)) (mt_leaf (ms_pushi (e := (.iconst 0, 127, 0, 0, 0)) rfl (fun _ _ _ => rfl) (by decide) : mo_Sim 54 126 (ma_push (ma_ci (.ofNat 0)) 127)) (mt_none))))
set_option maxRecDepth 100000 in
theorem smt54_45 (k : Nat) : ∀ f, mt54_45 k = some f → mo_Sim 54 k f := mt_node (smt54_46 k) (smt54_47 k)
set_option maxRecDepth 100000 in
theorem smt54_41 (k : Nat) : ∀ f, mt54_41 k = some f → mo_Sim 54 k f := mt_node (smt54_42 k) (smt54_45 k)
set_option maxRecDepth 100000 in
theorem smt54_33 (k : Nat) : ∀ f, mt54_33 k = some f → mo_Sim 54 k f := mt_node (smt54_34 k) (smt54_41 k)
set_option maxRecDepth 100000 in
theorem smt54_51 (k : Nat) : ∀ f, mt54_51 k = some f → mo_Sim 54 k f := mt_leaf (ms_ild (e := (.iload_n 2, 128, 0, 0, 0)) rfl (fun _ _ _ => rfl) : mo_Sim 54 127 (ma_load 0 2 128)) (mt_leaf (ms_ild (e := (.iload_n 3, 129, 0, 0, 0)) rfl (fun _ _ _ => rfl) : mo_Sim 54 128 (ma_load 0 3 129)) (mt_leaf (ms_ald (e := (.aload_n 0, 130, 0, 0, 0)) rfl (fun _ _ _ => rfl) : mo_Sim 54 129 (ma_lda 0 130)) (mt_none)))
set_option maxRecDepth 100000 in
theorem smt54_52 (k : Nat) : ∀ f, mt54_52 k = some f → mo_Sim 54 k f := mt_leaf (ms_getf (e := (.getfield 22, 133, 7, 2, 206)) rfl (fun _ _ _ => rfl) : mo_Sim 54 130 (ma_getf 7 2 133)) (mt_leaf (ms_ild (e := (.iload 4, 135, 0, 0, 0)) rfl (fun _ _ _ => rfl) : mo_Sim 54 133 (ma_load 0 4 135)) (mt_leaf (ms_iald (e := (.iaload, 136, 0, 0, 0)) rfl (fun _ _ _ => rfl) : mo_Sim 54 135 (ma_iald 135 136)) (mt_none)))
set_option maxRecDepth 100000 in
theorem smt54_50 (k : Nat) : ∀ f, mt54_50 k = some f → mo_Sim 54 k f := mt_node (smt54_51 k) (smt54_52 k)
set_option maxRecDepth 100000 in
theorem smt54_54 (k : Nat) : ∀ f, mt54_54 k = some f → mo_Sim 54 k f := mt_leaf (ms_iadd (e := (.iadd, 137, 0, 0, 0)) rfl (fun _ _ _ => rfl) : mo_Sim 54 136 (ma_iadd 136 137)) (mt_leaf (ms_invV (p := 6) (e := (.invokevirtual 122, 140, 55, 0, 765)) rfl rfl (fun _ _ _ => rfl) rfl rfl rfl (by decide) : mo_Sim 54 137 (ma_inv 55 7 11 7 140)) (mt_leaf (ms_ald (e := (.aload_n 0, 141, 0, 0, 0)) rfl (fun _ _ _ => rfl) : mo_Sim 54 140 (ma_lda 0 141)) (mt_none)))
set_option maxRecDepth 100000 in
theorem smt54_55 (k : Nat) : ∀ f, mt54_55 k = some f → mo_Sim 54 k f := mt_leaf (ms_ald (e := (.aload_n 1, 142, 0, 0, 0)) rfl (fun _ _ _ => rfl) : mo_Sim 54 141 (ma_lda 1 142)) (mt_leaf (ms_getf (e := (.getfield 126, 145, 0, 3, 400)) rfl (fun _ _ _ => rfl) : mo_Sim 54 142 (ma_getf 0 3 145)) (mt_leaf (ms_ild (e := (.iload 4, 147, 0, 0, 0)) rfl (fun _ _ _ => rfl) : mo_Sim 54 145 (ma_load 0 4 147)) (mt_leaf (ms_ild (e := (.iload_n 2, 148, 0, 0, 0)) rfl (fun _ _ _ => rfl) : mo_Sim 54 147 (ma_load 0 2 148)) (mt_none))))
set_option maxRecDepth 100000 in
theorem smt54_53 (k : Nat) : ∀ f, mt54_53 k = some f → mo_Sim 54 k f := mt_node (smt54_54 k) (smt54_55 k)
set_option maxRecDepth 100000 in
theorem smt54_49 (k : Nat) : ∀ f, mt54_49 k = some f → mo_Sim 54 k f := mt_node (smt54_50 k) (smt54_53 k)
set_option maxRecDepth 100000 in
theorem smt54_58 (k : Nat) : ∀ f, mt54_58 k = some f → mo_Sim 54 k f := mt_leaf (ms_pushi (e := (.iconst 0, 149, 0, 0, 0)) rfl (fun _ _ _ => rfl) (by decide) : mo_Sim 54 148 (ma_push (ma_ci (.ofNat 0)) 149)) (mt_leaf (ms_ild (e := (.iload_n 2, 150, 0, 0, 0)) rfl (fun _ _ _ => rfl) : mo_Sim 54 149 (ma_load 0 2 150)) (mt_leaf (ms_pushi (e := (.iconst 1, 151, 0, 0, 0)) rfl (fun _ _ _ => rfl) (by decide) : mo_Sim 54 150 (ma_push (ma_ci (.ofNat 1)) 151)) (mt_none)))
set_option maxRecDepth 100000 in
theorem smt54_59 (k : Nat) : ∀ f, mt54_59 k = some f → mo_Sim 54 k f := mt_leaf (ms_isub (e := (.isub, 152, 0, 0, 0)) rfl (fun _ _ _ => rfl) : mo_Sim 54 151 (ma_isub 151 152)) (mt_leaf (ms_ild (e := (.iload_n 3, 153, 0, 0, 0)) rfl (fun _ _ _ => rfl) : mo_Sim 54 152 (ma_load 0 3 153)) (mt_leaf (ms_ald (e := (.aload_n 0, 154, 0, 0, 0)) rfl (fun _ _ _ => rfl) : mo_Sim 54 153 (ma_lda 0 154)) (mt_leaf (ms_getf (e := (.getfield 22, 157, 7, 2, 206)) rfl (fun _ _ _ => rfl) : mo_Sim 54 154 (ma_getf 7 2 157)) (mt_none))))
set_option maxRecDepth 100000 in
theorem smt54_57 (k : Nat) : ∀ f, mt54_57 k = some f → mo_Sim 54 k f := mt_node (smt54_58 k) (smt54_59 k)
set_option maxRecDepth 100000 in
theorem smt54_61 (k : Nat) : ∀ f, mt54_61 k = some f → mo_Sim 54 k f := mt_leaf (ms_ild (e := (.iload 4, 159, 0, 0, 0)) rfl (fun _ _ _ => rfl) : mo_Sim 54 157 (ma_load 0 4 159)) (mt_leaf (ms_iald (e := (.iaload, 160, 0, 0, 0)) rfl (fun _ _ _ => rfl) : mo_Sim 54 159 (ma_iald 159 160)) (mt_leaf (ms_iadd (e := (.iadd, 161, 0, 0, 0)) rfl (fun _ _ _ => rfl) : mo_Sim 54 160 (ma_iadd 160 161)) (mt_none)))
set_option maxRecDepth 100000 in
theorem smt54_62 (k : Nat) : ∀ f, mt54_62 k = some f → mo_Sim 54 k f := mt_leaf (ms_invV (p := 6) (e := (.invokevirtual 122, 164, 55, 0, 765)) rfl rfl (fun _ _ _ => rfl) rfl rfl rfl (by decide) : mo_Sim 54 161 (ma_inv 55 7 11 7 164)) (mt_leaf (ms_iinc (e := (.iinc 4 1, 167, 0, 0, 0)) rfl (fun _ _ _ => rfl) (by decide) : mo_Sim 54 164 (ma_iinc 4 (.ofNat 1) 164 167)) (mt_leaf (ms_goto (e := (.goto (-55), 170, 112, 0, 0)) rfl (fun _ _ _ => rfl) : mo_Sim 54 167 (ma_goto 112)) (mt_leaf (ms_retv (e := (.return_, 171, 0, 0, 0)) rfl rfl (fun _ _ _ => rfl) : mo_Sim 54 170 (ma_retv)) (mt_none))))
set_option maxRecDepth 100000 in
theorem smt54_60 (k : Nat) : ∀ f, mt54_60 k = some f → mo_Sim 54 k f := mt_node (smt54_61 k) (smt54_62 k)
set_option maxRecDepth 100000 in
theorem smt54_56 (k : Nat) : ∀ f, mt54_56 k = some f → mo_Sim 54 k f := mt_node (smt54_57 k) (smt54_60 k)
set_option maxRecDepth 100000 in
theorem smt54_48 (k : Nat) : ∀ f, mt54_48 k = some f → mo_Sim 54 k f := mt_node (smt54_49 k) (smt54_56 k)
set_option maxRecDepth 100000 in
theorem smt54_32 (k : Nat) : ∀ f, mt54_32 k = some f → mo_Sim 54 k f := mt_node (smt54_33 k) (smt54_48 k)
set_option maxRecDepth 100000 in
theorem smt54_0 (k : Nat) : ∀ f, mt54_0 k = some f → mo_Sim 54 k f := mt_node (smt54_1 k) (smt54_32 k)
set_option maxRecDepth 100000 in
theorem smt55_5 (k : Nat) : ∀ f, mt55_5 k = some f → mo_Sim 55 k f := mt_leaf (ms_ild (e := (.iload 4, 2, 0, 0, 0)) rfl (fun _ _ _ => rfl) : mo_Sim 55 0 (ma_load 0 4 2)) (mt_leaf (ms_ild (e := (.iload 5, 4, 0, 0, 0)) rfl (fun _ _ _ => rfl) : mo_Sim 55 2 (ma_load 0 5 4)) (mt_leaf (ms_if2 (e := (.if_icmp .gt 30, 7, 34, 0, 0)) rfl (fun _ _ _ => rfl) : mo_Sim 55 4 (ma_if2 .gt 34 4 7)) (mt_leaf (ms_ald (e := (.aload_n 0, 8, 0, 0, 0)) rfl (fun _ _ _ => rfl) : mo_Sim 55 7 (ma_lda 0 8)) (mt_none))))
set_option maxRecDepth 100000 in
theorem smt55_6 (k : Nat) : ∀ f, mt55_6 k = some f → mo_Sim 55 k f := mt_leaf (ms_getf (e := (.getfield 54, 11, 7, 10, 214)) rfl (fun _ _ _ => rfl) : mo_Sim 55 8 (ma_getf 7 10 11)) (mt_leaf (ms_pushi (e := (.sipush 256, 14, 0, 0, 0)) rfl (fun _ _ _ => rfl) (by decide) : mo_Sim 55 11 (ma_push (ma_ci (.ofNat 256)) 14)) (mt_leaf (ms_if2 (e := (.if_icmp .gt 20, 17, 34, 0, 0)) rfl (fun _ _ _ => rfl) : mo_Sim 55 14 (ma_if2 .gt 34 14 17)) (mt_leaf (ms_ild (e := (.iload 6, 19, 0, 0, 0)) rfl (fun _ _ _ => rfl) : mo_Sim 55 17 (ma_load 0 6 19)) (mt_none))))
set_option maxRecDepth 100000 in
theorem smt55_4 (k : Nat) : ∀ f, mt55_4 k = some f → mo_Sim 55 k f := mt_node (smt55_5 k) (smt55_6 k)
set_option maxRecDepth 100000 in
theorem smt55_8 (k : Nat) : ∀ f, mt55_8 k = some f → mo_Sim 55 k f := mt_leaf (ms_ald (e := (.aload_n 0, 20, 0, 0, 0)) rfl (fun _ _ _ => rfl) : mo_Sim 55 19 (ma_lda 0 20)) (mt_leaf (ms_getf (e := (.getfield 22, 23, 7, 2, 206)) rfl (fun _ _ _ => rfl) : mo_Sim 55 20 (ma_getf 7 2 23)) (mt_leaf (ms_ild (e := (.iload 4, 25, 0, 0, 0)) rfl (fun _ _ _ => rfl) : mo_Sim 55 23 (ma_load 0 4 25)) (mt_leaf (ms_iald (e := (.iaload, 26, 0, 0, 0)) rfl (fun _ _ _ => rfl) : mo_Sim 55 25 (ma_iald 25 26)) (mt_none))))
set_option maxRecDepth 100000 in
theorem smt55_9 (k : Nat) : ∀ f, mt55_9 k = some f → mo_Sim 55 k f := mt_leaf (ms_iadd (e := (.iadd, 27, 0, 0, 0)) rfl (fun _ _ _ => rfl) : mo_Sim 55 26 (ma_iadd 26 27)) (mt_leaf (ms_ald (e := (.aload_n 0, 28, 0, 0, 0)) rfl (fun _ _ _ => rfl) : mo_Sim 55 27 (ma_lda 0 28)) (mt_leaf (ms_getf (e := (.getfield 66, 31, 7, 11, 215)) rfl (fun _ _ _ => rfl) : mo_Sim 55 28 (ma_getf 7 11 31)) (mt_leaf (ms_if2 (e := (.if_icmp .lt 4, 34, 35, 0, 0)) rfl (fun _ _ _ => rfl) : mo_Sim 55 31 (ma_if2 .lt 35 31 34)) (mt_none))))
set_option maxRecDepth 100000 in
theorem smt55_7 (k : Nat) : ∀ f, mt55_7 k = some f → mo_Sim 55 k f := mt_node (smt55_8 k) (smt55_9 k)
set_option maxRecDepth 100000 in
theorem smt55_3 (k : Nat) : ∀ f, mt55_3 k = some f → mo_Sim 55 k f := mt_node (smt55_4 k) (smt55_7 k)
set_option maxRecDepth 100000 in
theorem smt55_12 (k : Nat) : ∀ f, mt55_12 k = some f → mo_Sim 55 k f := mt_leaf (ms_retv (e := (.return_, 35, 0, 0, 0)) rfl rfl (fun _ _ _ => rfl) : mo_Sim 55 34 (ma_retv)) (mt_leaf (ms_ald (e := (.aload_n 0, 36, 0, 0, 0)) rfl (fun _ _ _ => rfl) : mo_Sim 55 35 (ma_lda 0 36)) (mt_leaf (ms_getf (e := (.getfield 37, 39, 7, 6, 210)) rfl (fun _ _ _ => rfl) : mo_Sim 55 36 (ma_getf 7 6 39)) (mt_leaf (ms_ald (e := (.aload_n 0, 40, 0, 0, 0)) rfl (fun _ _ _ => rfl) : mo_Sim 55 39 (ma_lda 0 40)) (mt_none))))
set_option maxRecDepth 100000 in
theorem smt55_13 (k : Nat) : ∀ f, mt55_13 k = some f → mo_Sim 55 k f := mt_leaf (ms_getf (e := (.getfield 14, 43, 7, 0, 204)) rfl (fun _ _ _ => rfl) : mo_Sim 55 40 (ma_getf 7 0 43)) (mt_leaf (ms_ald (e := (.aload_n 1, 44, 0, 0, 0)) rfl (fun _ _ _ => rfl) : mo_Sim 55 43 (ma_lda 1 44)) (mt_leaf (ms_ald (e := (.aload_n 0, 45, 0, 0, 0)) rfl (fun _ _ _ => rfl) : mo_Sim 55 44 (ma_lda 0 45)) (mt_leaf (ms_getf (e := (.getfield 25, 48, 7, 3, 207)) rfl (fun _ _ _ => rfl) : mo_Sim 55 45 (ma_getf 7 3 48)) (mt_none))))
set_option maxRecDepth 100000 in
theorem smt55_11 (k : Nat) : ∀ f, mt55_11 k = some f → mo_Sim 55 k f := mt_node (smt55_12 k) (smt55_13 k)
set_option maxRecDepth 100000 in
theorem smt55_15 (k : Nat) : ∀ f, mt55_15 k = some f → mo_Sim 55 k f := mt_leaf (ms_ild (e := (.iload_n 2, 49, 0, 0, 0)) rfl (fun _ _ _ => rfl) : mo_Sim 55 48 (ma_load 0 2 49)) (mt_leaf (ms_iald (e := (.iaload, 50, 0, 0, 0)) rfl (fun _ _ _ => rfl) : mo_Sim 55 49 (ma_iald 49 50)) (mt_leaf (ms_ald (e := (.aload_n 0, 51, 0, 0, 0)) rfl (fun _ _ _ => rfl) : mo_Sim 55 50 (ma_lda 0 51)) (mt_leaf (ms_getf (e := (.getfield 25, 54, 7, 3, 207)) rfl (fun _ _ _ => rfl) : mo_Sim 55 51 (ma_getf 7 3 54)) (mt_none))))
set_option maxRecDepth 100000 in
theorem smt55_17 (k : Nat) : ∀ f, mt55_17 k = some f → mo_Sim 55 k f := mt_leaf (ms_ild (e := (.iload_n 3, 55, 0, 0, 0)) rfl (fun _ _ _ => rfl) : mo_Sim 55 54 (ma_load 0 3 55)) (mt_leaf (ms_iald (e := (.iaload, 56, 0, 0, 0)) rfl (fun _ _ _ => rfl) : mo_Sim 55 55 (ma_iald 55 56)) (mt_none))
set_option maxRecDepth 100000 in
theorem smt55_18 (k : Nat) : ∀ f, mt55_18 k = some f → mo_Sim 55 k f := mt_leaf (ms_invV (p := 4) (e := (.invokevirtual 129, 59, 45, 0, 769)) rfl rfl (fun _ _ _ => rfl) rfl rfl rfl (by decide) : mo_Sim 55 56 (ma_inv 45 5 15 5 59)) (mt_leaf (ms_ald (e := (.aload_n 0, 60, 0, 0, 0)) rfl (fun _ _ _ => rfl) : mo_Sim 55 59 (ma_lda 0 60)) (mt_leaf (ms_getf (e := (.getfield 41, 63, 7, 7, 211)) rfl (fun _ _ _ => rfl) : mo_Sim 55 60 (ma_getf 7 7 63)) (mt_none)))
set_option maxRecDepth 100000 in
theorem smt55_16 (k : Nat) : ∀ f, mt55_16 k = some f → mo_Sim 55 k f := mt_node (smt55_17 k) (smt55_18 k)
set_option maxRecDepth 100000 in
theorem smt55_14 (k : Nat) : ∀ f, mt55_14 k = some f → mo_Sim 55 k f := mt_node (smt55_15 k) (smt55_16 k)
set_option maxRecDepth 100000 in
theorem smt55_10 (k : Nat) : ∀ f, mt55_10 k = some f → mo_Sim 55 k f := mt_node (smt55_11 k) (smt55_14 k)
set_option maxRecDepth 100000 in
theorem smt55_2 (k : Nat) : ∀ f, mt55_2 k = some f → mo_Sim 55 k f := mt_node (smt55_3 k) (smt55_10 k)
set_option maxRecDepth 100000 in
theorem smt55_22 (k : Nat) : ∀ f, mt55_22 k = some f → mo_Sim 55 k f := mt_leaf (ms_ald (e := (.aload_n 0, 64, 0, 0, 0)) rfl (fun _ _ _ => rfl) : mo_Sim 55 63 (ma_lda 0 64)) (mt_leaf (ms_getf (e := (.getfield 14, 67, 7, 0, 204)) rfl (fun _ _ _ => rfl) : mo_Sim 55 64 (ma_getf 7 0 67)) (mt_leaf (ms_ald (e := (.aload_n 1, 68, 0, 0, 0)) rfl (fun _ _ _ => rfl) : mo_Sim 55 67 (ma_lda 1 68)) (mt_leaf (ms_ald (e := (.aload_n 0, 69, 0, 0, 0)) rfl (fun _ _ _ => rfl) : mo_Sim 55 68 (ma_lda 0 69)) (mt_none))))
set_option maxRecDepth 100000 in
theorem smt55_23 (k : Nat) : ∀ f, mt55_23 k = some f → mo_Sim 55 k f := mt_leaf (ms_getf (e := (.getfield 28, 72, 7, 4, 208)) rfl (fun _ _ _ => rfl) : mo_Sim 55 69 (ma_getf 7 4 72)) (mt_leaf (ms_ild (e := (.iload_n 2, 73, 0, 0, 0)) rfl (fun _ _ _ => rfl) : mo_Sim 55 72 (ma_load 0 2 73)) (mt_leaf (ms_iald (e := (.iaload, 74, 0, 0, 0)) rfl (fun _ _ _ => rfl) : mo_Sim 55 73 (ma_iald 73 74)) (mt_leaf (ms_ald (e := (.aload_n 0, 75, 0, 0, 0)) rfl (fun _ _ _ => rfl) : mo_Sim 55 74 (ma_lda 0 75)) (mt_none))))
set_option maxRecDepth 100000 in
theorem smt55_21 (k : Nat) : ∀ f, mt55_21 k = some f → mo_Sim 55 k f := mt_node (smt55_22 k) (smt55_23 k)
set_option maxRecDepth 100000 in
theorem smt55_25 (k : Nat) : ∀ f, mt55_25 k = some f → mo_Sim 55 k f := mt_leaf (ms_getf (e := (.getfield 28, 78, 7, 4, 208)) rfl (fun _ _ _ => rfl) : mo_Sim 55 75 (ma_getf 7 4 78)) (mt_leaf (ms_ild (e := (.iload_n 3, 79, 0, 0, 0)) rfl (fun _ _ _ => rfl) : mo_Sim 55 78 (ma_load 0 3 79)) (mt_leaf (ms_iald (e := (.iaload, 80, 0, 0, 0)) rfl (fun _ _ _ => rfl) : mo_Sim 55 79 (ma_iald 79 80)) (mt_leaf (ms_invV (p := 4) (e := (.invokevirtual 129, 83, 45, 0, 769)) rfl rfl (fun _ _ _ => rfl) rfl rfl rfl (by decide) : mo_Sim 55 80 (ma_inv 45 5 15 5 83)) (mt_none))))
set_option maxRecDepth 100000 in
theorem smt55_26 (k : Nat) : ∀ f, mt55_26 k = some f → mo_Sim 55 k f := mt_leaf (ms_ald (e := (.aload_n 0, 84, 0, 0, 0)) rfl (fun _ _ _ => rfl) : mo_Sim 55 83 (ma_lda 0 84)) (mt_leaf (ms_getf (e := (.getfield 44, 87, 7, 8, 212)) rfl (fun _ _ _ => rfl) : mo_Sim 55 84 (ma_getf 7 8 87)) (mt_leaf (ms_ald (e := (.aload_n 0, 88, 0, 0, 0)) rfl (fun _ _ _ => rfl) : mo_Sim 55 87 (ma_lda 0 88)) (mt_leaf (ms_getf (e := (.getfield 14, 91, 7, 0, 204)) rfl (fun _ _ _ => rfl) : mo_Sim 55 88 (ma_getf 7 0 91)) (mt_none))))
set_option maxRecDepth 100000 in
theorem smt55_24 (k : Nat) : ∀ f, mt55_24 k = some f → mo_Sim 55 k f := mt_node (smt55_25 k) (smt55_26 k)
set_option maxRecDepth 100000 in
theorem smt55_20 (k : Nat) : ∀ f, mt55_20 k = some f → mo_Sim 55 k f := mt_node (smt55_21 k) (smt55_24 k)
set_option maxRecDepth 100000 in
theorem smt55_29 (k : Nat) : ∀ f, mt55_29 k = some f → mo_Sim 55 k f := mt_leaf (ms_ald (e := (.aload_n 1, 92, 0, 0, 0)) rfl (fun _ _ _ => rfl) : mo_Sim 55 91 (ma_lda 1 92)) (mt_leaf (ms_ald (e := (.aload_n 0, 93, 0, 0, 0)) rfl (fun _ _ _ => rfl) : mo_Sim 55 92 (ma_lda 0 93)) (mt_leaf (ms_getf (e := (.getfield 31, 96, 7, 5, 209)) rfl (fun _ _ _ => rfl) : mo_Sim 55 93 (ma_getf 7 5 96)) (mt_leaf (ms_ild (e := (.iload_n 2, 97, 0, 0, 0)) rfl (fun _ _ _ => rfl) : mo_Sim 55 96 (ma_load 0 2 97)) (mt_none))))
set_option maxRecDepth 100000 in
theorem smt55_30 (k : Nat) : ∀ f, mt55_30 k = some f → mo_Sim 55 k f := mt_leaf (ms_iald (e := (.iaload, 98, 0, 0, 0)) rfl (fun _ _ _ => rfl) : mo_Sim 55 97 (ma_iald 97 98)) (mt_leaf (ms_ald (e := (.aload_n 0, 99, 0, 0, 0)) rfl (fun _ _ _ => rfl) : mo_Sim 55 98 (ma_lda 0 99)) (mt_leaf (ms_getf (e := (.getfield 31, 102, 7, 5, 209)) rfl (fun _ _ _ => rfl) : mo_Sim 55 99 (ma_getf 7 5 102)) (mt_leaf (ms_ild (e := (.iload_n 3, 103, 0, 0, 0)) rfl (fun _ _ _ => rfl) : mo_Sim 55 102 (ma_load 0 3 103)) (mt_none))))
set_option maxRecDepth 100000 in
theorem smt55_28 (k : Nat) : ∀ f, mt55_28 k = some f → mo_Sim 55 k f := mt_node (smt55_29 k) (smt55_30 k)
set_option maxRecDepth 100000 in
theorem smt55_32 (k : Nat) : ∀ f, mt55_32 k = some f → mo_Sim 55 k f := mt_leaf (ms_iald (e := (.iaload, 104, 0, 0, 0)) rfl (fun _ _ _ => rfl) : mo_Sim 55 103 (ma_iald 103 104)) (mt_leaf (ms_invV (p := 4) (e := (.invokevirtual 129, 107, 45, 0, 769)) rfl rfl (fun _ _ _ => rfl) rfl rfl rfl (by decide) : mo_Sim 55 104 (ma_inv 45 5 15 5 107)) (mt_leaf (ms_ild (e := (.iload 4, 109, 0, 0, 0)) rfl (fun _ _ _ => rfl) : mo_Sim 55 107 (ma_load 0 4 109)) (mt_leaf (ms_ist (e := (.istore 7, 111, 0, 0, 0)) rfl (fun _ _ _ => rfl) : mo_Sim 55 109 (ma_stor 0 7 111)) (mt_none))))
set_option maxRecDepth 100000 in
theorem smt55_34 (k : Nat) : ∀ f, mt55_34 k = some f → mo_Sim 55 k f := mt_leaf (ms_ild (e := (.iload 7, 113, 0, 0, 0)) rfl (fun _ _ _ => rfl) : mo_Sim 55 111 (ma_load 0 7 113)) (mt_leaf (ms_ild (e := (.iload 5, 115, 0, 0, 0)) rfl (fun _ _ _ => rfl) : mo_Sim 55 113 (ma_load 0 5 115)) (mt_none))
set_option maxRecDepth 100000 in
theorem smt55_35 (k : Nat) : ∀ f, mt55_35 k = some f → mo_Sim 55 k f := mt_leaf (ms_if2 (e := (.if_icmp .gt 133, 118, 248, 0, 0)) rfl (fun _ _ _ => rfl) : mo_Sim 55 115 (ma_if2 .gt 248 115 118)) (mt_leaf (ms_ild (e := (.iload 6, 120, 0, 0, 0)) rfl (fun _ _ _ => rfl) : mo_Sim 55 118 (ma_load 0 6 120)) (mt_leaf (ms_ald (e := (.aload_n 0, 121, 0, 0, 0)) rfl (fun _ _ _ => rfl) : mo_Sim 55 120 (ma_lda 0 121)) (mt_none)))
set_option maxRecDepth 100000 in
theorem smt55_33 (k : Nat) : ∀ f, mt55_33 k = some f → mo_Sim 55 k f := mt_node (smt55_34 k) (smt55_35 k)
set_option maxRecDepth 100000 in
theorem smt55_31 (k : Nat) : ∀ f, mt55_31 k = some f → mo_Sim 55 k f := mt_node (smt55_32 k) (smt55_33 k)
set_option maxRecDepth 100000 in
theorem smt55_27 (k : Nat) : ∀ f, mt55_27 k = some f → mo_Sim 55 k f := mt_node (smt55_28 k) (smt55_31 k)
set_option maxRecDepth 100000 in
theorem smt55_19 (k : Nat) : ∀ f, mt55_19 k = some f → mo_Sim 55 k f := mt_node (smt55_20 k) (smt55_27 k)
set_option maxRecDepth 100000 in
theorem smt55_1 (k : Nat) : ∀ f, mt55_1 k = some f → mo_Sim 55 k f := mt_node (smt55_2 k) (smt55_19 k)
set_option maxRecDepth 100000 in
theorem smt55_40 (k : Nat) : ∀ f, mt55_40 k = some f → mo_Sim 55 k f := mt_leaf (ms_getf (e := (.getfield 22, 124, 7, 2, 206)) rfl (fun _ _ _ => rfl) : mo_Sim 55 121 (ma_getf 7 2 124)) (mt_leaf (ms_ild (e := (.iload 7, 126, 0, 0, 0)) rfl (fun _ _ _ => rfl) : mo_Sim 55 124 (ma_load 0 7 126)) (mt_leaf (ms_iald (e := (.iaload, 127, 0, 0, 0)) rfl (fun _ _ _ => rfl) : mo_Sim 55 126 (ma_iald 126 127)) (mt_leaf (ms_iadd (e := (.iadd, 128, 0, 0, 0)) rfl (fun _ _ _ => rfl) : mo_Sim 55 127 (ma_iadd 127 128)) (mt_none))))
set_option maxRecDepth 100000 in
theorem smt55_41 (k : Nat) : ∀ f, mt55_41 k = some f → mo_Sim 55 k f := mt_leaf (ms_ist (e := (.istore 8, 130, 0, 0, 0)) rfl (fun _ _ _ => rfl) : mo_Sim 55 128 (ma_stor 0 8 130)) (mt_leaf (ms_ild (e := (.iload 8, 132, 0, 0, 0)) rfl (fun _ _ _ => rfl) : mo_Sim 55 130 (ma_load 0 8 132)) (mt_leaf (ms_ald (e := (.aload_n 0, 133, 0, 0, 0)) rfl (fun _ _ _ => rfl) : mo_Sim 55 132 (ma_lda 0 133)) (mt_leaf (ms_getf (e := (.getfield 66, 136, 7, 11, 215)) rfl (fun _ _ _ => rfl) : mo_Sim 55 133 (ma_getf 7 11 136)) (mt_none))))
set_option maxRecDepth 100000 in
theorem smt55_39 (k : Nat) : ∀ f, mt55_39 k = some f → mo_Sim 55 k f := mt_node (smt55_40 k) (smt55_41 k)
set_option maxRecDepth 100000 in
theorem smt55_43 (k : Nat) : ∀ f, mt55_43 k = some f → mo_Sim 55 k f := mt_leaf (ms_if2 (e := (.if_icmp .lt 4, 139, 140, 0, 0)) rfl (fun _ _ _ => rfl) : mo_Sim 55 136 (ma_if2 .lt 140 136 139)) (mt_leaf (ms_retv (e := (.return_, 140, 0, 0, 0)) rfl rfl (fun _ _ _ => rfl) : mo_Sim 55 139 (ma_retv)) (mt_leaf (ms_ald (e := (.aload_n 0, 141, 0, 0, 0)) rfl (fun _ _ _ => rfl) : mo_Sim 55 140 (ma_lda 0 141)) (mt_leaf (ms_getf (e := (.getfield 37, 144, 7, 6, 210)) rfl (fun _ _ _ => rfl) : mo_Sim 55 141 (ma_getf 7 6 144)) (mt_none))))
set_option maxRecDepth 100000 in
theorem smt55_44 (k : Nat) : ∀ f, mt55_44 k = some f → mo_Sim 55 k f := mt_leaf (ms_getf (e := (.getfield 133, 147, 5, 0, 191)) rfl (fun _ _ _ => rfl) : mo_Sim 55 144 (ma_getf 5 0 147)) (mt_leaf (ms_ald (e := (.aload_n 0, 148, 0, 0, 0)) rfl (fun _ _ _ => rfl) : mo_Sim 55 147 (ma_lda 0 148)) (mt_leaf (ms_getf (e := (.getfield 25, 151, 7, 3, 207)) rfl (fun _ _ _ => rfl) : mo_Sim 55 148 (ma_getf 7 3 151)) (mt_leaf (ms_ild (e := (.iload 7, 153, 0, 0, 0)) rfl (fun _ _ _ => rfl) : mo_Sim 55 151 (ma_load 0 7 153)) (mt_none))))
set_option maxRecDepth 100000 in
theorem smt55_42 (k : Nat) : ∀ f, mt55_42 k = some f → mo_Sim 55 k f := mt_node (smt55_43 k) (smt55_44 k)
set_option maxRecDepth 100000 in
theorem smt55_38 (k : Nat) : ∀ f, mt55_38 k = some f → mo_Sim 55 k f := mt_node (smt55_39 k) (smt55_42 k)
set_option maxRecDepth 100000 in
theorem smt55_47 (k : Nat) : ∀ f, mt55_47 k = some f → mo_Sim 55 k f := mt_leaf (ms_iald (e := (.iaload, 154, 0, 0, 0)) rfl (fun _ _ _ => rfl) : mo_Sim 55 153 (ma_iald 153 154)) (mt_leaf (ms_iald (e := (.iaload, 155, 0, 0, 0)) rfl (fun _ _ _ => rfl) : mo_Sim 55 154 (ma_iald 154 155)) (mt_leaf (ms_ald (e := (.aload_n 0, 156, 0, 0, 0)) rfl (fun _ _ _ => rfl) : mo_Sim 55 155 (ma_lda 0 156)) (mt_leaf (ms_getf (e := (.getfield 41, 159, 7, 7, 211)) rfl (fun _ _ _ => rfl) : mo_Sim 55 156 (ma_getf 7 7 159)) (mt_none))))
set_option maxRecDepth 100000 in
theorem smt55_48 (k : Nat) : ∀ f, mt55_48 k = some f → mo_Sim 55 k f := mt_leaf (ms_getf (e := (.getfield 133, 162, 5, 0, 191)) rfl (fun _ _ _ => rfl) : mo_Sim 55 159 (ma_getf 5 0 162)) (mt_leaf (ms_ald (e := (.aload_n 0, 163, 0, 0, 0)) rfl (fun _ _ _ => rfl) : mo_Sim 55 162 (ma_lda 0 163)) (mt_leaf (ms_getf (e := (.getfield 28, 166, 7, 4, 208)) rfl (fun _ _ _ => rfl) : mo_Sim 55 163 (ma_getf 7 4 166)) (mt_leaf (ms_ild (e := (.iload 7, 168, 0, 0, 0)) rfl (fun _ _ _ => rfl) : mo_Sim 55 166 (ma_load 0 7 168)) (mt_none))))
set_option maxRecDepth 100000 in
theorem smt55_46 (k : Nat) : ∀ f, mt55_46 k = some f → mo_Sim 55 k f := mt_node (smt55_47 k) (smt55_48 k)
set_option maxRecDepth 100000 in
theorem smt55_50 (k : Nat) : ∀ f, mt55_50 k = some f → mo_Sim 55 k f := mt_leaf (ms_iald (e := (.iaload, 169, 0, 0, 0)) rfl (fun _ _ _ => rfl) : mo_Sim 55 168 (ma_iald 168 169)) (mt_leaf (ms_iald (e := (.iaload, 170, 0, 0, 0)) rfl (fun _ _ _ => rfl) : mo_Sim 55 169 (ma_iald 169 170)) (mt_leaf (ms_iadd (e := (.iadd, 171, 0, 0, 0)) rfl (fun _ _ _ => rfl) : mo_Sim 55 170 (ma_iadd 170 171)) (mt_leaf (ms_ald (e := (.aload_n 0, 172, 0, 0, 0)) rfl (fun _ _ _ => rfl) : mo_Sim 55 171 (ma_lda 0 172)) (mt_none))))
set_option maxRecDepth 100000 in
theorem smt55_52 (k : Nat) : ∀ f, mt55_52 k = some f → mo_Sim 55 k f := mt_leaf (ms_getf (e := (.getfield 44, 175, 7, 8, 212)) rfl (fun _ _ _ => rfl) : mo_Sim 55 172 (ma_getf 7 8 175)) (mt_leaf (ms_getf (e := (.getfield 133, 178, 5, 0, 191)) rfl (fun _ _ _ => rfl) : mo_Sim 55 175 (ma_getf 5 0 178)) (mt_none))
set_option maxRecDepth 100000 in
theorem smt55_53 (k : Nat) : ∀ f, mt55_53 k = some f → mo_Sim 55 k f := mt_leaf (ms_ald (e := (.aload_n 0, 179, 0, 0, 0)) rfl (fun _ _ _ => rfl) : mo_Sim 55 178 (ma_lda 0 179)) (mt_leaf (ms_getf (e := (.getfield 31, 182, 7, 5, 209)) rfl (fun _ _ _ => rfl) : mo_Sim 55 179 (ma_getf 7 5 182)) (mt_leaf (ms_ild (e := (.iload 7, 184, 0, 0, 0)) rfl (fun _ _ _ => rfl) : mo_Sim 55 182 (ma_load 0 7 184)) (mt_none)))
set_option maxRecDepth 100000 in
theorem smt55_51 (k : Nat) : ∀ f, mt55_51 k = some f → mo_Sim 55 k f := mt_node (smt55_52 k) (smt55_53 k)
set_option maxRecDepth 100000 in
theorem smt55_49 (k : Nat) : ∀ f, mt55_49 k = some f → mo_Sim 55 k f := mt_node (smt55_50 k) (smt55_51 k)
set_option maxRecDepth 100000 in
theorem smt55_45 (k : Nat) : ∀ f, mt55_45 k = some f → mo_Sim 55 k f := mt_node (smt55_46 k) (smt55_49 k)
set_option maxRecDepth 100000 in
theorem smt55_37 (k : Nat) : ∀ f, mt55_37 k = some f → mo_Sim 55 k f := mt_node (smt55_38 k) (smt55_45 k)
set_option maxRecDepth 100000 in
theorem smt55_57 (k : Nat) : ∀ f, mt55_57 k = some f → mo_Sim 55 k f := mt_leaf (ms_iald (e := (.iaload, 185, 0, 0, 0)) rfl (fun _ _ _ => rfl) : mo_Sim 55 184 (ma_iald 184 185)) (mt_leaf (ms_iald (e := (.iaload, 186, 0, 0, 0)) rfl (fun _ _ _ => rfl) : mo_Sim 55 185 (ma_iald 185 186)) (mt_leaf (ms_iadd (e := (.iadd, 187, 0, 0, 0)) rfl (fun _ _ _ => rfl) : mo_Sim 55 186 (ma_iadd 186 187)) (mt_leaf (ms_ist (e := (.istore 9, 189, 0, 0, 0)) rfl (fun _ _ _ => rfl) : mo_Sim 55 187 (ma_stor 0 9 189)) (mt_none))))
set_option maxRecDepth 100000 in
theorem smt55_58 (k : Nat) : ∀ f, mt55_58 k = some f → mo_Sim 55 k f := mt_leaf (ms_ald (e := (.aload_n 0, 190, 0, 0, 0)) rfl (fun _ _ _ => rfl) : mo_Sim 55 189 (ma_lda 0 190)) (mt_leaf (ms_getf (e := (.getfield 47, 193, 7, 9, 213)) rfl (fun _ _ _ => rfl) : mo_Sim 55 190 (ma_getf 7 9 193)) (mt_leaf (ms_ild (e := (.iload 9, 195, 0, 0, 0)) rfl (fun _ _ _ => rfl) : mo_Sim 55 193 (ma_load 0 9 195)) (mt_leaf (ms_iald (e := (.iaload, 196, 0, 0, 0)) rfl (fun _ _ _ => rfl) : mo_Sim 55 195 (ma_iald 195 196)) (mt_none))))
set_option maxRecDepth 100000 in
theorem smt55_56 (k : Nat) : ∀ f, mt55_56 k = some f → mo_Sim 55 k f := mt_node (smt55_57 k) (smt55_58 k)
set_option maxRecDepth 100000 in
theorem smt55_60 (k : Nat) : ∀ f, mt55_60 k = some f → mo_Sim 55 k f := mt_leaf (ms_pushi (e := (.iconst 1, 197, 0, 0, 0)) rfl (fun _ _ _ => rfl) (by decide) : mo_Sim 55 196 (ma_push (ma_ci (.ofNat 1)) 197)) (mt_leaf (ms_isub (e := (.isub, 198, 0, 0, 0)) rfl (fun _ _ _ => rfl) : mo_Sim 55 197 (ma_isub 197 198)) (mt_leaf (ms_ist (e := (.istore 10, 200, 0, 0, 0)) rfl (fun _ _ _ => rfl) : mo_Sim 55 198 (ma_stor 0 10 200)) (mt_leaf (ms_ild (e := (.iload 10, 202, 0, 0, 0)) rfl (fun _ _ _ => rfl) : mo_Sim 55 200 (ma_load 0 10 202)) (mt_none))))
set_option maxRecDepth 100000 in
theorem smt55_62 (k : Nat) : ∀ f, mt55_62 k = some f → mo_Sim 55 k f := mt_leaf (ms_if0 (e := (.ifCond .ge 19, 205, 221, 0, 0)) rfl (fun _ _ _ => rfl) : mo_Sim 55 202 (ma_if0 .ge 221 202 205)) (mt_leaf (ms_ald (e := (.aload_n 0, 206, 0, 0, 0)) rfl (fun _ _ _ => rfl) : mo_Sim 55 205 (ma_lda 0 206)) (mt_none))
set_option maxRecDepth 100000 in
theorem smt55_63 (k : Nat) : ∀ f, mt55_63 k = some f → mo_Sim 55 k f := mt_leaf (ms_ild (e := (.iload 9, 208, 0, 0, 0)) rfl (fun _ _ _ => rfl) : mo_Sim 55 206 (ma_load 0 9 208)) (mt_leaf (ms_ild (e := (.iload 8, 210, 0, 0, 0)) rfl (fun _ _ _ => rfl) : mo_Sim 55 208 (ma_load 0 8 210)) (mt_leaf (ms_pushi (e := (.ldc 136, 212, 1000000, 0, 770)) rfl (fun _ _ _ => rfl) (by decide) : mo_Sim 55 210 (ma_push (ma_ci (.ofNat 1000000)) 212)) (mt_none)))
set_option maxRecDepth 100000 in
theorem smt55_61 (k : Nat) : ∀ f, mt55_61 k = some f → mo_Sim 55 k f := mt_node (smt55_62 k) (smt55_63 k)
set_option maxRecDepth 100000 in
theorem smt55_59 (k : Nat) : ∀ f, mt55_59 k = some f → mo_Sim 55 k f := mt_node (smt55_60 k) (smt55_61 k)
set_option maxRecDepth 100000 in
theorem smt55_55 (k : Nat) : ∀ f, mt55_55 k = some f → mo_Sim 55 k f := mt_node (smt55_56 k) (smt55_59 k)
set_option maxRecDepth 100000 in
theorem smt55_66 (k : Nat) : ∀ f, mt55_66 k = some f → mo_Sim 55 k f := mt_leaf (ms_invS (e := (.invokestatic 137, 215, 206, 1, 771)) rfl rfl (fun _ _ _ => rfl) rfl rfl : mo_Sim 55 212 (ma_inv 206 2 2 20 215)) (mt_leaf (ms_invV (p := 2) (e := (.invokevirtual 93, 218, 56, 0, 731)) rfl rfl (fun _ _ _ => rfl) rfl rfl rfl (by decide) : mo_Sim 55 215 (ma_inv 56 3 3 7 218)) (mt_leaf (ms_goto (e := (.goto 24, 221, 242, 0, 0)) rfl (fun _ _ _ => rfl) : mo_Sim 55 218 (ma_goto 242)) (mt_leaf (ms_ild (e := (.iload 8, 223, 0, 0, 0)) rfl (fun _ _ _ => rfl) : mo_Sim 55 221 (ma_load 0 8 223)) (mt_none))))
set_option maxRecDepth 100000 in
theorem smt55_67 (k : Nat) : ∀ f, mt55_67 k = some f → mo_Sim 55 k f := mt_leaf (ms_ald (e := (.aload_n 0, 224, 0, 0, 0)) rfl (fun _ _ _ => rfl) : mo_Sim 55 223 (ma_lda 0 224)) (mt_leaf (ms_getf (e := (.getfield 22, 227, 7, 2, 206)) rfl (fun _ _ _ => rfl) : mo_Sim 55 224 (ma_getf 7 2 227)) (mt_leaf (ms_ild (e := (.iload 10, 229, 0, 0, 0)) rfl (fun _ _ _ => rfl) : mo_Sim 55 227 (ma_load 0 10 229)) (mt_leaf (ms_iald (e := (.iaload, 230, 0, 0, 0)) rfl (fun _ _ _ => rfl) : mo_Sim 55 229 (ma_iald 229 230)) (mt_none))))
set_option maxRecDepth 100000 in
theorem smt55_65 (k : Nat) : ∀ f, mt55_65 k = some f → mo_Sim 55 k f := mt_node (smt55_66 k) (smt55_67 k)
set_option maxRecDepth 100000 in
theorem smt55_69 (k : Nat) : ∀ f, mt55_69 k = some f → mo_Sim 55 k f := mt_leaf (ms_if2 (e := (.if_icmp .ge 12, 233, 242, 0, 0)) rfl (fun _ _ _ => rfl) : mo_Sim 55 230 (ma_if2 .ge 242 230 233)) (mt_leaf (ms_ald (e := (.aload_n 0, 234, 0, 0, 0)) rfl (fun _ _ _ => rfl) : mo_Sim 55 233 (ma_lda 0 234)) (mt_leaf (ms_getf (e := (.getfield 22, 237, 7, 2, 206)) rfl (fun _ _ _ => rfl) : mo_Sim 55 234 (ma_getf 7 2 237)) (mt_leaf (ms_ild (e := (.iload 10, 239, 0, 0, 0)) rfl (fun _ _ _ => rfl) : mo_Sim 55 237 (ma_load 0 10 239)) (mt_none))))
set_option maxRecDepth 100000 in
theorem smt55_71 (k : Nat) : ∀ f, mt55_71 k = some f → mo_Sim 55 k f := mt_leaf (ms_ild (e := (.iload 8, 241, 0, 0, 0)) rfl (fun _ _ _ => rfl) : mo_Sim 55 239 (ma_load 0 8 241)) (mt_leaf (ms_iast (e := (.iastore, 242, 0, 0, 0)) rfl rfl (fun _ _ _ => rfl) : mo_Sim 55 241 (ma_ast 13 0 241 242)) (mt_none))
set_option maxRecDepth 100000 in
theorem smt55_72 (k : Nat) : ∀ f, mt55_72 k = some f → mo_Sim 55 k f := mt_leaf (ms_iinc (e := (.iinc 7 1, 245, 0, 0, 0)) rfl (fun _ _ _ => rfl) (by decide) : mo_Sim 55 242 (ma_iinc 7 (.ofNat 1) 242 245)) (mt_leaf (ms_goto (e := (.goto (-134), 248, 111, 0, 0)) rfl (fun _ _ _ => rfl) : mo_Sim 55 245 (ma_goto 111)) (mt_leaf (ms_retv (e := (.return_, 249, 0, 0, 0)) rfl rfl (fun _ _ _ => rfl) : mo_Sim 55 248 (ma_retv)) (mt_none)))
set_option maxRecDepth 100000 in
theorem smt55_70 (k : Nat) : ∀ f, mt55_70 k = some f → mo_Sim 55 k f := mt_node (smt55_71 k) (smt55_72 k)
set_option maxRecDepth 100000 in
theorem smt55_68 (k : Nat) : ∀ f, mt55_68 k = some f → mo_Sim 55 k f := mt_node (smt55_69 k) (smt55_70 k)
set_option maxRecDepth 100000 in
theorem smt55_64 (k : Nat) : ∀ f, mt55_64 k = some f → mo_Sim 55 k f := mt_node (smt55_65 k) (smt55_68 k)
set_option maxRecDepth 100000 in
theorem smt55_54 (k : Nat) : ∀ f, mt55_54 k = some f → mo_Sim 55 k f := mt_node (smt55_55 k) (smt55_64 k)
set_option maxRecDepth 100000 in
theorem smt55_36 (k : Nat) : ∀ f, mt55_36 k = some f → mo_Sim 55 k f := mt_node (smt55_37 k) (smt55_54 k)
set_option maxRecDepth 100000 in
theorem smt55_0 (k : Nat) : ∀ f, mt55_0 k = some f → mo_Sim 55 k f := mt_node (smt55_1 k) (smt55_36 k)
set_option maxRecDepth 100000 in
theorem smt56_4 (k : Nat) : ∀ f, mt56_4 k = some f → mo_Sim 56 k f := mt_leaf (ms_ald (e := (.aload_n 0, 1, 0, 0, 0)) rfl (fun _ _ _ => rfl) : mo_Sim 56 0 (ma_lda 0 1)) (mt_leaf (ms_getf (e := (.getfield 54, 4, 7, 10, 214)) rfl (fun _ _ _ => rfl) : mo_Sim 56 1 (ma_getf 7 10 4)) (mt_leaf (ms_pushi (e := (.sipush 256, 7, 0, 0, 0)) rfl (fun _ _ _ => rfl) (by decide) : mo_Sim 56 4 (ma_push (ma_ci (.ofNat 256)) 7)) (mt_none)))
set_option maxRecDepth 100000 in
theorem smt56_5 (k : Nat) : ∀ f, mt56_5 k = some f → mo_Sim 56 k f := mt_leaf (ms_if2 (e := (.if_icmp .le 4, 10, 11, 0, 0)) rfl (fun _ _ _ => rfl) : mo_Sim 56 7 (ma_if2 .le 11 7 10)) (mt_leaf (ms_retv (e := (.return_, 11, 0, 0, 0)) rfl rfl (fun _ _ _ => rfl) : mo_Sim 56 10 (ma_retv)) (mt_leaf (ms_ald (e := (.aload_n 0, 12, 0, 0, 0)) rfl (fun _ _ _ => rfl) : mo_Sim 56 11 (ma_lda 0 12)) (mt_leaf (ms_getf (e := (.getfield 18, 15, 7, 1, 205)) rfl (fun _ _ _ => rfl) : mo_Sim 56 12 (ma_getf 7 1 15)) (mt_none))))
set_option maxRecDepth 100000 in
theorem smt56_3 (k : Nat) : ∀ f, mt56_3 k = some f → mo_Sim 56 k f := mt_node (smt56_4 k) (smt56_5 k)
set_option maxRecDepth 100000 in
theorem smt56_7 (k : Nat) : ∀ f, mt56_7 k = some f → mo_Sim 56 k f := mt_leaf (ms_ald (e := (.aload_n 0, 16, 0, 0, 0)) rfl (fun _ _ _ => rfl) : mo_Sim 56 15 (ma_lda 0 16)) (mt_leaf (ms_getf (e := (.getfield 54, 19, 7, 10, 214)) rfl (fun _ _ _ => rfl) : mo_Sim 56 16 (ma_getf 7 10 19)) (mt_leaf (ms_ild (e := (.iload_n 1, 20, 0, 0, 0)) rfl (fun _ _ _ => rfl) : mo_Sim 56 19 (ma_load 0 1 20)) (mt_leaf (ms_iast (e := (.iastore, 21, 0, 0, 0)) rfl rfl (fun _ _ _ => rfl) : mo_Sim 56 20 (ma_ast 13 0 20 21)) (mt_none))))
set_option maxRecDepth 100000 in
theorem smt56_8 (k : Nat) : ∀ f, mt56_8 k = some f → mo_Sim 56 k f := mt_leaf (ms_ald (e := (.aload_n 0, 22, 0, 0, 0)) rfl (fun _ _ _ => rfl) : mo_Sim 56 21 (ma_lda 0 22)) (mt_leaf (ms_getf (e := (.getfield 22, 25, 7, 2, 206)) rfl (fun _ _ _ => rfl) : mo_Sim 56 22 (ma_getf 7 2 25)) (mt_leaf (ms_ald (e := (.aload_n 0, 26, 0, 0, 0)) rfl (fun _ _ _ => rfl) : mo_Sim 56 25 (ma_lda 0 26)) (mt_leaf (ms_getf (e := (.getfield 54, 29, 7, 10, 214)) rfl (fun _ _ _ => rfl) : mo_Sim 56 26 (ma_getf 7 10 29)) (mt_none))))
set_option maxRecDepth 100000 in
theorem smt56_6 (k : Nat) : ∀ f, mt56_6 k = some f → mo_Sim 56 k f := mt_node (smt56_7 k) (smt56_8 k)
set_option maxRecDepth 100000 in
theorem smt56_2 (k : Nat) : ∀ f, mt56_2 k = some f → mo_Sim 56 k f := mt_node (smt56_3 k) (smt56_6 k)
set_option maxRecDepth 100000 in
theorem smt56_11 (k : Nat) : ∀ f, mt56_11 k = some f → mo_Sim 56 k f := mt_leaf (ms_ild (e := (.iload_n 2, 30, 0, 0, 0)) rfl (fun _ _ _ => rfl) : mo_Sim 56 29 (ma_load 0 2 30)) (mt_leaf (ms_iast (e := (.iastore, 31, 0, 0, 0)) rfl rfl (fun _ _ _ => rfl) : mo_Sim 56 30 (ma_ast 13 0 30 31)) (mt_leaf (ms_ald (e := (.aload_n 0, 32, 0, 0, 0)) rfl (fun _ _ _ => rfl) : mo_Sim 56 31 (ma_lda 0 32)) (mt_none)))
set_option maxRecDepth 100000 in
theorem smt56_12 (k : Nat) : ∀ f, mt56_12 k = some f → mo_Sim 56 k f := mt_leaf (ms_getf (e := (.getfield 25, 35, 7, 3, 207)) rfl (fun _ _ _ => rfl) : mo_Sim 56 32 (ma_getf 7 3 35)) (mt_leaf (ms_ald (e := (.aload_n 0, 36, 0, 0, 0)) rfl (fun _ _ _ => rfl) : mo_Sim 56 35 (ma_lda 0 36)) (mt_leaf (ms_getf (e := (.getfield 54, 39, 7, 10, 214)) rfl (fun _ _ _ => rfl) : mo_Sim 56 36 (ma_getf 7 10 39)) (mt_leaf (ms_ald (e := (.aload_n 0, 40, 0, 0, 0)) rfl (fun _ _ _ => rfl) : mo_Sim 56 39 (ma_lda 0 40)) (mt_none))))
set_option maxRecDepth 100000 in
theorem smt56_10 (k : Nat) : ∀ f, mt56_10 k = some f → mo_Sim 56 k f := mt_node (smt56_11 k) (smt56_12 k)
set_option maxRecDepth 100000 in
theorem smt56_14 (k : Nat) : ∀ f, mt56_14 k = some f → mo_Sim 56 k f := mt_leaf (ms_getf (e := (.getfield 14, 43, 7, 0, 204)) rfl (fun _ _ _ => rfl) : mo_Sim 56 40 (ma_getf 7 0 43)) (mt_leaf (ms_ild (e := (.iload_n 1, 44, 0, 0, 0)) rfl (fun _ _ _ => rfl) : mo_Sim 56 43 (ma_load 0 1 44)) (mt_leaf (ms_pushi (e := (.iconst 0, 45, 0, 0, 0)) rfl (fun _ _ _ => rfl) (by decide) : mo_Sim 56 44 (ma_push (ma_ci (.ofNat 0)) 45)) (mt_leaf (ms_invV (p := 2) (e := (.invokevirtual 142, 48, 18, 0, 735)) rfl rfl (fun _ _ _ => rfl) rfl rfl rfl (by decide) : mo_Sim 56 45 (ma_inv 18 3 7 1 48)) (mt_none))))
set_option maxRecDepth 100000 in
theorem smt56_15 (k : Nat) : ∀ f, mt56_15 k = some f → mo_Sim 56 k f := mt_leaf (ms_iast (e := (.iastore, 49, 0, 0, 0)) rfl rfl (fun _ _ _ => rfl) : mo_Sim 56 48 (ma_ast 13 0 48 49)) (mt_leaf (ms_ald (e := (.aload_n 0, 50, 0, 0, 0)) rfl (fun _ _ _ => rfl) : mo_Sim 56 49 (ma_lda 0 50)) (mt_leaf (ms_getf (e := (.getfield 28, 53, 7, 4, 208)) rfl (fun _ _ _ => rfl) : mo_Sim 56 50 (ma_getf 7 4 53)) (mt_leaf (ms_ald (e := (.aload_n 0, 54, 0, 0, 0)) rfl (fun _ _ _ => rfl) : mo_Sim 56 53 (ma_lda 0 54)) (mt_none))))
set_option maxRecDepth 100000 in
theorem smt56_13 (k : Nat) : ∀ f, mt56_13 k = some f → mo_Sim 56 k f := mt_node (smt56_14 k) (smt56_15 k)
set_option maxRecDepth 100000 in
theorem smt56_9 (k : Nat) : ∀ f, mt56_9 k = some f → mo_Sim 56 k f := mt_node (smt56_10 k) (smt56_13 k)
set_option maxRecDepth 100000 in
theorem smt56_1 (k : Nat) : ∀ f, mt56_1 k = some f → mo_Sim 56 k f := mt_node (smt56_2 k) (smt56_9 k)
set_option maxRecDepth 100000 in
theorem smt56_19 (k : Nat) : ∀ f, mt56_19 k = some f → mo_Sim 56 k f := mt_leaf (ms_getf (e := (.getfield 54, 57, 7, 10, 214)) rfl (fun _ _ _ => rfl) : mo_Sim 56 54 (ma_getf 7 10 57)) (mt_leaf (ms_ald (e := (.aload_n 0, 58, 0, 0, 0)) rfl (fun _ _ _ => rfl) : mo_Sim 56 57 (ma_lda 0 58)) (mt_leaf (ms_getf (e := (.getfield 14, 61, 7, 0, 204)) rfl (fun _ _ _ => rfl) : mo_Sim 56 58 (ma_getf 7 0 61)) (mt_none)))
set_option maxRecDepth 100000 in
theorem smt56_20 (k : Nat) : ∀ f, mt56_20 k = some f → mo_Sim 56 k f := mt_leaf (ms_ild (e := (.iload_n 1, 62, 0, 0, 0)) rfl (fun _ _ _ => rfl) : mo_Sim 56 61 (ma_load 0 1 62)) (mt_leaf (ms_pushi (e := (.iconst 3, 63, 0, 0, 0)) rfl (fun _ _ _ => rfl) (by decide) : mo_Sim 56 62 (ma_push (ma_ci (.ofNat 3)) 63)) (mt_leaf (ms_invV (p := 2) (e := (.invokevirtual 142, 66, 18, 0, 735)) rfl rfl (fun _ _ _ => rfl) rfl rfl rfl (by decide) : mo_Sim 56 63 (ma_inv 18 3 7 1 66)) (mt_leaf (ms_iast (e := (.iastore, 67, 0, 0, 0)) rfl rfl (fun _ _ _ => rfl) : mo_Sim 56 66 (ma_ast 13 0 66 67)) (mt_none))))
set_option maxRecDepth 100000 in
theorem smt56_18 (k : Nat) : ∀ f, mt56_18 k = some f → mo_Sim 56 k f := mt_node (smt56_19 k) (smt56_20 k)
set_option maxRecDepth 100000 in
theorem smt56_22 (k : Nat) : ∀ f, mt56_22 k = some f → mo_Sim 56 k f := mt_leaf (ms_ald (e := (.aload_n 0, 68, 0, 0, 0)) rfl (fun _ _ _ => rfl) : mo_Sim 56 67 (ma_lda 0 68)) (mt_leaf (ms_getf (e := (.getfield 31, 71, 7, 5, 209)) rfl (fun _ _ _ => rfl) : mo_Sim 56 68 (ma_getf 7 5 71)) (mt_leaf (ms_ald (e := (.aload_n 0, 72, 0, 0, 0)) rfl (fun _ _ _ => rfl) : mo_Sim 56 71 (ma_lda 0 72)) (mt_leaf (ms_getf (e := (.getfield 54, 75, 7, 10, 214)) rfl (fun _ _ _ => rfl) : mo_Sim 56 72 (ma_getf 7 10 75)) (mt_none))))
set_option maxRecDepth 100000 in
theorem smt56_23 (k : Nat) : ∀ f, mt56_23 k = some f → mo_Sim 56 k f := mt_leaf (ms_ald (e := (.aload_n 0, 76, 0, 0, 0)) rfl (fun _ _ _ => rfl) : mo_Sim 56 75 (ma_lda 0 76)) (mt_leaf (ms_getf (e := (.getfield 14, 79, 7, 0, 204)) rfl (fun _ _ _ => rfl) : mo_Sim 56 76 (ma_getf 7 0 79)) (mt_leaf (ms_ild (e := (.iload_n 1, 80, 0, 0, 0)) rfl (fun _ _ _ => rfl) : mo_Sim 56 79 (ma_load 0 1 80)) (mt_leaf (ms_pushi (e := (.bipush 6, 82, 0, 0, 0)) rfl (fun _ _ _ => rfl) (by decide) : mo_Sim 56 80 (ma_push (ma_ci (.ofNat 6)) 82)) (mt_none))))
set_option maxRecDepth 100000 in
theorem smt56_21 (k : Nat) : ∀ f, mt56_21 k = some f → mo_Sim 56 k f := mt_node (smt56_22 k) (smt56_23 k)
set_option maxRecDepth 100000 in
theorem smt56_17 (k : Nat) : ∀ f, mt56_17 k = some f → mo_Sim 56 k f := mt_node (smt56_18 k) (smt56_21 k)
set_option maxRecDepth 100000 in
theorem smt56_26 (k : Nat) : ∀ f, mt56_26 k = some f → mo_Sim 56 k f := mt_leaf (ms_invV (p := 2) (e := (.invokevirtual 142, 85, 18, 0, 735)) rfl rfl (fun _ _ _ => rfl) rfl rfl rfl (by decide) : mo_Sim 56 82 (ma_inv 18 3 7 1 85)) (mt_leaf (ms_iast (e := (.iastore, 86, 0, 0, 0)) rfl rfl (fun _ _ _ => rfl) : mo_Sim 56 85 (ma_ast 13 0 85 86)) (mt_leaf (ms_ald (e := (.aload_n 0, 87, 0, 0, 0)) rfl (fun _ _ _ => rfl) : mo_Sim 56 86 (ma_lda 0 87)) (mt_none)))
set_option maxRecDepth 100000 in
theorem smt56_27 (k : Nat) : ∀ f, mt56_27 k = some f → mo_Sim 56 k f := mt_leaf (ms_dup (e := (.dup, 88, 0, 0, 0)) rfl (fun _ _ _ => rfl) : mo_Sim 56 87 (ma_dup 88)) (mt_leaf (ms_getf (e := (.getfield 54, 91, 7, 10, 214)) rfl (fun _ _ _ => rfl) : mo_Sim 56 88 (ma_getf 7 10 91)) (mt_leaf (ms_pushi (e := (.iconst 1, 92, 0, 0, 0)) rfl (fun _ _ _ => rfl) (by decide) : mo_Sim 56 91 (ma_push (ma_ci (.ofNat 1)) 92)) (mt_leaf (ms_iadd (e := (.iadd, 93, 0, 0, 0)) rfl (fun _ _ _ => rfl) : mo_Sim 56 92 (ma_iadd 92 93)) (mt_none))))
set_option maxRecDepth 100000 in
theorem smt56_25 (k : Nat) : ∀ f, mt56_25 k = some f → mo_Sim 56 k f := mt_node (smt56_26 k) (smt56_27 k)
set_option maxRecDepth 100000 in
theorem smt56_29 (k : Nat) : ∀ f, mt56_29 k = some f → mo_Sim 56 k f := mt_leaf (ms_putf (e := (.putfield 54, 96, 7, 10, 214)) rfl rfl (fun _ _ _ => rfl) (Or.inl ⟨rfl, rfl⟩) : mo_Sim 56 93 (ma_putf 7 10 0 96)) (mt_leaf (ms_ald (e := (.aload_n 0, 97, 0, 0, 0)) rfl (fun _ _ _ => rfl) : mo_Sim 56 96 (ma_lda 0 97)) (mt_leaf (ms_getf (e := (.getfield 47, 100, 7, 9, 213)) rfl (fun _ _ _ => rfl) : mo_Sim 56 97 (ma_getf 7 9 100)) (mt_leaf (ms_ild (e := (.iload_n 1, 101, 0, 0, 0)) rfl (fun _ _ _ => rfl) : mo_Sim 56 100 (ma_load 0 1 101)) (mt_none))))
set_option maxRecDepth 100000 in
theorem smt56_30 (k : Nat) : ∀ f, mt56_30 k = some f → mo_Sim 56 k f := mt_leaf (ms_ald (e := (.aload_n 0, 102, 0, 0, 0)) rfl (fun _ _ _ => rfl) : mo_Sim 56 101 (ma_lda 0 102)) (mt_leaf (ms_getf (e := (.getfield 54, 105, 7, 10, 214)) rfl (fun _ _ _ => rfl) : mo_Sim 56 102 (ma_getf 7 10 105)) (mt_leaf (ms_iast (e := (.iastore, 106, 0, 0, 0)) rfl rfl (fun _ _ _ => rfl) : mo_Sim 56 105 (ma_ast 13 0 105 106)) (mt_leaf (ms_retv (e := (.return_, 107, 0, 0, 0)) rfl rfl (fun _ _ _ => rfl) : mo_Sim 56 106 (ma_retv)) (mt_none))))
set_option maxRecDepth 100000 in
theorem smt56_28 (k : Nat) : ∀ f, mt56_28 k = some f → mo_Sim 56 k f := mt_node (smt56_29 k) (smt56_30 k)
set_option maxRecDepth 100000 in
theorem smt56_24 (k : Nat) : ∀ f, mt56_24 k = some f → mo_Sim 56 k f := mt_node (smt56_25 k) (smt56_28 k)
set_option maxRecDepth 100000 in
theorem smt56_16 (k : Nat) : ∀ f, mt56_16 k = some f → mo_Sim 56 k f := mt_node (smt56_17 k) (smt56_24 k)
set_option maxRecDepth 100000 in
theorem smt56_0 (k : Nat) : ∀ f, mt56_0 k = some f → mo_Sim 56 k f := mt_node (smt56_1 k) (smt56_16 k)
set_option maxRecDepth 100000 in
theorem smt57_3 (k : Nat) : ∀ f, mt57_3 k = some f → mo_Sim 57 k f := mt_leaf (ms_ild (e := (.iload_n 1, 1, 0, 0, 0)) rfl (fun _ _ _ => rfl) : mo_Sim 57 0 (ma_load 0 1 1)) (mt_leaf (ms_ist (e := (.istore_n 2, 2, 0, 0, 0)) rfl (fun _ _ _ => rfl) : mo_Sim 57 1 (ma_stor 0 2 2)) (mt_leaf (ms_ild (e := (.iload_n 1, 3, 0, 0, 0)) rfl (fun _ _ _ => rfl) : mo_Sim 57 2 (ma_load 0 1 3)) (mt_none)))
set_option maxRecDepth 100000 in
theorem smt57_4 (k : Nat) : ∀ f, mt57_4 k = some f → mo_Sim 57 k f := mt_leaf (ms_pushi (e := (.iconst 1, 4, 0, 0, 0)) rfl (fun _ _ _ => rfl) (by decide) : mo_Sim 57 3 (ma_push (ma_ci (.ofNat 1)) 4)) (mt_leaf (ms_iadd (e := (.iadd, 5, 0, 0, 0)) rfl (fun _ _ _ => rfl) : mo_Sim 57 4 (ma_iadd 4 5)) (mt_leaf (ms_ist (e := (.istore_n 3, 6, 0, 0, 0)) rfl (fun _ _ _ => rfl) : mo_Sim 57 5 (ma_stor 0 3 6)) (mt_none)))
set_option maxRecDepth 100000 in
theorem smt57_2 (k : Nat) : ∀ f, mt57_2 k = some f → mo_Sim 57 k f := mt_node (smt57_3 k) (smt57_4 k)
set_option maxRecDepth 100000 in
theorem smt57_6 (k : Nat) : ∀ f, mt57_6 k = some f → mo_Sim 57 k f := mt_leaf (ms_ild (e := (.iload_n 3, 7, 0, 0, 0)) rfl (fun _ _ _ => rfl) : mo_Sim 57 6 (ma_load 0 3 7)) (mt_leaf (ms_ald (e := (.aload_n 0, 8, 0, 0, 0)) rfl (fun _ _ _ => rfl) : mo_Sim 57 7 (ma_lda 0 8)) (mt_leaf (ms_getf (e := (.getfield 54, 11, 7, 10, 214)) rfl (fun _ _ _ => rfl) : mo_Sim 57 8 (ma_getf 7 10 11)) (mt_none)))
set_option maxRecDepth 100000 in
theorem smt57_7 (k : Nat) : ∀ f, mt57_7 k = some f → mo_Sim 57 k f := mt_leaf (ms_if2 (e := (.if_icmp .ge 20, 14, 31, 0, 0)) rfl (fun _ _ _ => rfl) : mo_Sim 57 11 (ma_if2 .ge 31 11 14)) (mt_leaf (ms_ald (e := (.aload_n 0, 15, 0, 0, 0)) rfl (fun _ _ _ => rfl) : mo_Sim 57 14 (ma_lda 0 15)) (mt_leaf (ms_ild (e := (.iload_n 3, 16, 0, 0, 0)) rfl (fun _ _ _ => rfl) : mo_Sim 57 15 (ma_load 0 3 16)) (mt_none)))
set_option maxRecDepth 100000 in
theorem smt57_5 (k : Nat) : ∀ f, mt57_5 k = some f → mo_Sim 57 k f := mt_node (smt57_6 k) (smt57_7 k)
set_option maxRecDepth 100000 in
theorem smt57_1 (k : Nat) : ∀ f, mt57_1 k = some f → mo_Sim 57 k f := mt_node (smt57_2 k) (smt57_5 k)
set_option maxRecDepth 100000 in
theorem smt57_10 (k : Nat) : ∀ f, mt57_10 k = some f → mo_Sim 57 k f := mt_leaf (ms_ild (e := (.iload_n 2, 17, 0, 0, 0)) rfl (fun _ _ _ => rfl) : mo_Sim 57 16 (ma_load 0 2 17)) (mt_leaf (ms_invV (p := 2) (e := (.invokevirtual 145, 20, 58, 0, 743)) rfl rfl (fun _ _ _ => rfl) rfl rfl rfl (by decide) : mo_Sim 57 17 (ma_inv 58 3 3 7 20)) (mt_leaf (ms_if0 (e := (.ifCond .eq 5, 23, 25, 0, 0)) rfl (fun _ _ _ => rfl) : mo_Sim 57 20 (ma_if0 .eq 25 20 23)) (mt_none)))
set_option maxRecDepth 100000 in
theorem smt57_11 (k : Nat) : ∀ f, mt57_11 k = some f → mo_Sim 57 k f := mt_leaf (ms_ild (e := (.iload_n 3, 24, 0, 0, 0)) rfl (fun _ _ _ => rfl) : mo_Sim 57 23 (ma_load 0 3 24)) (mt_leaf (ms_ist (e := (.istore_n 2, 25, 0, 0, 0)) rfl (fun _ _ _ => rfl) : mo_Sim 57 24 (ma_stor 0 2 25)) (mt_leaf (ms_iinc (e := (.iinc 3 1, 28, 0, 0, 0)) rfl (fun _ _ _ => rfl) (by decide) : mo_Sim 57 25 (ma_iinc 3 (.ofNat 1) 25 28)) (mt_none)))
set_option maxRecDepth 100000 in
theorem smt57_9 (k : Nat) : ∀ f, mt57_9 k = some f → mo_Sim 57 k f := mt_node (smt57_10 k) (smt57_11 k)
set_option maxRecDepth 100000 in
theorem smt57_13 (k : Nat) : ∀ f, mt57_13 k = some f → mo_Sim 57 k f := mt_leaf (ms_goto (e := (.goto (-22), 31, 6, 0, 0)) rfl (fun _ _ _ => rfl) : mo_Sim 57 28 (ma_goto 6)) (mt_leaf (ms_ald (e := (.aload_n 0, 32, 0, 0, 0)) rfl (fun _ _ _ => rfl) : mo_Sim 57 31 (ma_lda 0 32)) (mt_leaf (ms_ild (e := (.iload_n 1, 33, 0, 0, 0)) rfl (fun _ _ _ => rfl) : mo_Sim 57 32 (ma_load 0 1 33)) (mt_none)))
set_option maxRecDepth 100000 in
theorem smt57_14 (k : Nat) : ∀ f, mt57_14 k = some f → mo_Sim 57 k f := mt_leaf (ms_ild (e := (.iload_n 2, 34, 0, 0, 0)) rfl (fun _ _ _ => rfl) : mo_Sim 57 33 (ma_load 0 2 34)) (mt_leaf (ms_invV (p := 2) (e := (.invokevirtual 149, 37, 60, 0, 747)) rfl rfl (fun _ _ _ => rfl) rfl rfl rfl (by decide) : mo_Sim 57 34 (ma_inv 60 3 3 7 37)) (mt_leaf (ms_retv (e := (.return_, 38, 0, 0, 0)) rfl rfl (fun _ _ _ => rfl) : mo_Sim 57 37 (ma_retv)) (mt_none)))
set_option maxRecDepth 100000 in
theorem smt57_12 (k : Nat) : ∀ f, mt57_12 k = some f → mo_Sim 57 k f := mt_node (smt57_13 k) (smt57_14 k)
set_option maxRecDepth 100000 in
theorem smt57_8 (k : Nat) : ∀ f, mt57_8 k = some f → mo_Sim 57 k f := mt_node (smt57_9 k) (smt57_12 k)
set_option maxRecDepth 100000 in
theorem smt57_0 (k : Nat) : ∀ f, mt57_0 k = some f → mo_Sim 57 k f := mt_node (smt57_1 k) (smt57_8 k)
set_option maxRecDepth 100000 in
theorem smt58_3 (k : Nat) : ∀ f, mt58_3 k = some f → mo_Sim 58 k f := mt_leaf (ms_ald (e := (.aload_n 0, 1, 0, 0, 0)) rfl (fun _ _ _ => rfl) : mo_Sim 58 0 (ma_lda 0 1)) (mt_leaf (ms_getf (e := (.getfield 22, 4, 7, 2, 206)) rfl (fun _ _ _ => rfl) : mo_Sim 58 1 (ma_getf 7 2 4)) (mt_leaf (ms_ild (e := (.iload_n 1, 5, 0, 0, 0)) rfl (fun _ _ _ => rfl) : mo_Sim 58 4 (ma_load 0 1 5)) (mt_none)))
set_option maxRecDepth 100000 in
theorem smt58_4 (k : Nat) : ∀ f, mt58_4 k = some f → mo_Sim 58 k f := mt_leaf (ms_iald (e := (.iaload, 6, 0, 0, 0)) rfl (fun _ _ _ => rfl) : mo_Sim 58 5 (ma_iald 5 6)) (mt_leaf (ms_ald (e := (.aload_n 0, 7, 0, 0, 0)) rfl (fun _ _ _ => rfl) : mo_Sim 58 6 (ma_lda 0 7)) (mt_leaf (ms_getf (e := (.getfield 22, 10, 7, 2, 206)) rfl (fun _ _ _ => rfl) : mo_Sim 58 7 (ma_getf 7 2 10)) (mt_leaf (ms_ild (e := (.iload_n 2, 11, 0, 0, 0)) rfl (fun _ _ _ => rfl) : mo_Sim 58 10 (ma_load 0 2 11)) (mt_none))))
set_option maxRecDepth 100000 in
theorem smt58_2 (k : Nat) : ∀ f, mt58_2 k = some f → mo_Sim 58 k f := mt_node (smt58_3 k) (smt58_4 k)
set_option maxRecDepth 100000 in
theorem smt58_6 (k : Nat) : ∀ f, mt58_6 k = some f → mo_Sim 58 k f := mt_leaf (ms_iald (e := (.iaload, 12, 0, 0, 0)) rfl (fun _ _ _ => rfl) : mo_Sim 58 11 (ma_iald 11 12)) (mt_leaf (ms_if2 (e := (.if_icmp .lt 33, 15, 45, 0, 0)) rfl (fun _ _ _ => rfl) : mo_Sim 58 12 (ma_if2 .lt 45 12 15)) (mt_leaf (ms_ald (e := (.aload_n 0, 16, 0, 0, 0)) rfl (fun _ _ _ => rfl) : mo_Sim 58 15 (ma_lda 0 16)) (mt_leaf (ms_getf (e := (.getfield 22, 19, 7, 2, 206)) rfl (fun _ _ _ => rfl) : mo_Sim 58 16 (ma_getf 7 2 19)) (mt_none))))
set_option maxRecDepth 100000 in
theorem smt58_7 (k : Nat) : ∀ f, mt58_7 k = some f → mo_Sim 58 k f := mt_leaf (ms_ild (e := (.iload_n 1, 20, 0, 0, 0)) rfl (fun _ _ _ => rfl) : mo_Sim 58 19 (ma_load 0 1 20)) (mt_leaf (ms_iald (e := (.iaload, 21, 0, 0, 0)) rfl (fun _ _ _ => rfl) : mo_Sim 58 20 (ma_iald 20 21)) (mt_leaf (ms_ald (e := (.aload_n 0, 22, 0, 0, 0)) rfl (fun _ _ _ => rfl) : mo_Sim 58 21 (ma_lda 0 22)) (mt_leaf (ms_getf (e := (.getfield 22, 25, 7, 2, 206)) rfl (fun _ _ _ => rfl) : mo_Sim 58 22 (ma_getf 7 2 25)) (mt_none))))
set_option maxRecDepth 100000 in
theorem smt58_5 (k : Nat) : ∀ f, mt58_5 k = some f → mo_Sim 58 k f := mt_node (smt58_6 k) (smt58_7 k)
set_option maxRecDepth 100000 in
theorem smt58_1 (k : Nat) : ∀ f, mt58_1 k = some f → mo_Sim 58 k f := mt_node (smt58_2 k) (smt58_5 k)
set_option maxRecDepth 100000 in
theorem smt58_10 (k : Nat) : ∀ f, mt58_10 k = some f → mo_Sim 58 k f := mt_leaf (ms_ild (e := (.iload_n 2, 26, 0, 0, 0)) rfl (fun _ _ _ => rfl) : mo_Sim 58 25 (ma_load 0 2 26)) (mt_leaf (ms_iald (e := (.iaload, 27, 0, 0, 0)) rfl (fun _ _ _ => rfl) : mo_Sim 58 26 (ma_iald 26 27)) (mt_leaf (ms_if2 (e := (.if_icmp .ne 22, 30, 49, 0, 0)) rfl (fun _ _ _ => rfl) : mo_Sim 58 27 (ma_if2 .ne 49 27 30)) (mt_leaf (ms_ald (e := (.aload_n 0, 31, 0, 0, 0)) rfl (fun _ _ _ => rfl) : mo_Sim 58 30 (ma_lda 0 31)) (mt_none))))
set_option maxRecDepth 100000 in
theorem smt58_11 (k : Nat) : ∀ f, mt58_11 k = some f → mo_Sim 58 k f := mt_leaf (ms_getf (e := (.getfield 18, 34, 7, 1, 205)) rfl (fun _ _ _ => rfl) : mo_Sim 58 31 (ma_getf 7 1 34)) (mt_leaf (ms_ild (e := (.iload_n 1, 35, 0, 0, 0)) rfl (fun _ _ _ => rfl) : mo_Sim 58 34 (ma_load 0 1 35)) (mt_leaf (ms_iald (e := (.iaload, 36, 0, 0, 0)) rfl (fun _ _ _ => rfl) : mo_Sim 58 35 (ma_iald 35 36)) (mt_leaf (ms_ald (e := (.aload_n 0, 37, 0, 0, 0)) rfl (fun _ _ _ => rfl) : mo_Sim 58 36 (ma_lda 0 37)) (mt_none))))
set_option maxRecDepth 100000 in
theorem smt58_9 (k : Nat) : ∀ f, mt58_9 k = some f → mo_Sim 58 k f := mt_node (smt58_10 k) (smt58_11 k)
set_option maxRecDepth 100000 in
theorem smt58_13 (k : Nat) : ∀ f, mt58_13 k = some f → mo_Sim 58 k f := mt_leaf (ms_getf (e := (.getfield 18, 40, 7, 1, 205)) rfl (fun _ _ _ => rfl) : mo_Sim 58 37 (ma_getf 7 1 40)) (mt_leaf (ms_ild (e := (.iload_n 2, 41, 0, 0, 0)) rfl (fun _ _ _ => rfl) : mo_Sim 58 40 (ma_load 0 2 41)) (mt_leaf (ms_iald (e := (.iaload, 42, 0, 0, 0)) rfl (fun _ _ _ => rfl) : mo_Sim 58 41 (ma_iald 41 42)) (mt_leaf (ms_if2 (e := (.if_icmp .ge 7, 45, 49, 0, 0)) rfl (fun _ _ _ => rfl) : mo_Sim 58 42 (ma_if2 .ge 49 42 45)) (mt_none))))
set_option maxRecDepth 100000 in
theorem smt58_14 (k : Nat) : ∀ f, mt58_14 k = some f → mo_Sim 58 k f := mt_leaf (ms_pushi (e := (.iconst 1, 46, 0, 0, 0)) rfl (fun _ _ _ => rfl) (by decide) : mo_Sim 58 45 (ma_push (ma_ci (.ofNat 1)) 46)) (mt_leaf (ms_goto (e := (.goto 4, 49, 50, 0, 0)) rfl (fun _ _ _ => rfl) : mo_Sim 58 46 (ma_goto 50)) (mt_leaf (ms_pushi (e := (.iconst 0, 50, 0, 0, 0)) rfl (fun _ _ _ => rfl) (by decide) : mo_Sim 58 49 (ma_push (ma_ci (.ofNat 0)) 50)) (mt_leaf (ms_ret (e := (.ireturn, 51, 0, 0, 0)) rfl (Or.inr (Or.inl ⟨rfl, rfl, (fun _ _ _ => rfl)⟩)) : mo_Sim 58 50 (ma_ret 1)) (mt_none))))
set_option maxRecDepth 100000 in
theorem smt58_12 (k : Nat) : ∀ f, mt58_12 k = some f → mo_Sim 58 k f := mt_node (smt58_13 k) (smt58_14 k)
set_option maxRecDepth 100000 in
theorem smt58_8 (k : Nat) : ∀ f, mt58_8 k = some f → mo_Sim 58 k f := mt_node (smt58_9 k) (smt58_12 k)
set_option maxRecDepth 100000 in
theorem smt58_0 (k : Nat) : ∀ f, mt58_0 k = some f → mo_Sim 58 k f := mt_node (smt58_1 k) (smt58_8 k)
set_option maxRecDepth 100000 in
theorem smt59_2 (k : Nat) : ∀ f, mt59_2 k = some f → mo_Sim 59 k f := mt_leaf (ms_pushi (e := (.iconst 0, 1, 0, 0, 0)) rfl (fun _ _ _ => rfl) (by decide) : mo_Sim 59 0 (ma_push (ma_ci (.ofNat 0)) 1)) (mt_leaf (ms_ist (e := (.istore_n 2, 2, 0, 0, 0)) rfl (fun _ _ _ => rfl) : mo_Sim 59 1 (ma_stor 0 2 2)) (mt_leaf (ms_ild (e := (.iload_n 1, 3, 0, 0, 0)) rfl (fun _ _ _ => rfl) : mo_Sim 59 2 (ma_load 0 1 3)) (mt_leaf (ms_ist (e := (.istore_n 3, 4, 0, 0, 0)) rfl (fun _ _ _ => rfl) : mo_Sim 59 3 (ma_stor 0 3 4)) (mt_none))))
set_option maxRecDepth 100000 in
theorem smt59_4 (k : Nat) : ∀ f, mt59_4 k = some f → mo_Sim 59 k f := mt_leaf (ms_ild (e := (.iload_n 3, 5, 0, 0, 0)) rfl (fun _ _ _ => rfl) : mo_Sim 59 4 (ma_load 0 3 5)) (mt_leaf (ms_ald (e := (.aload_n 0, 6, 0, 0, 0)) rfl (fun _ _ _ => rfl) : mo_Sim 59 5 (ma_lda 0 6)) (mt_none))
set_option maxRecDepth 100000 in
theorem smt59_5 (k : Nat) : ∀ f, mt59_5 k = some f → mo_Sim 59 k f := mt_leaf (ms_getf (e := (.getfield 54, 9, 7, 10, 214)) rfl (fun _ _ _ => rfl) : mo_Sim 59 6 (ma_getf 7 10 9)) (mt_leaf (ms_if2 (e := (.if_icmp .ge 20, 12, 29, 0, 0)) rfl (fun _ _ _ => rfl) : mo_Sim 59 9 (ma_if2 .ge 29 9 12)) (mt_leaf (ms_ild (e := (.iload_n 2, 13, 0, 0, 0)) rfl (fun _ _ _ => rfl) : mo_Sim 59 12 (ma_load 0 2 13)) (mt_none)))
set_option maxRecDepth 100000 in
theorem smt59_3 (k : Nat) : ∀ f, mt59_3 k = some f → mo_Sim 59 k f := mt_node (smt59_4 k) (smt59_5 k)
set_option maxRecDepth 100000 in
theorem smt59_1 (k : Nat) : ∀ f, mt59_1 k = some f → mo_Sim 59 k f := mt_node (smt59_2 k) (smt59_3 k)
set_option maxRecDepth 100000 in
theorem smt59_8 (k : Nat) : ∀ f, mt59_8 k = some f → mo_Sim 59 k f := mt_leaf (ms_ald (e := (.aload_n 0, 14, 0, 0, 0)) rfl (fun _ _ _ => rfl) : mo_Sim 59 13 (ma_lda 0 14)) (mt_leaf (ms_getf (e := (.getfield 22, 17, 7, 2, 206)) rfl (fun _ _ _ => rfl) : mo_Sim 59 14 (ma_getf 7 2 17)) (mt_none))
set_option maxRecDepth 100000 in
theorem smt59_9 (k : Nat) : ∀ f, mt59_9 k = some f → mo_Sim 59 k f := mt_leaf (ms_ild (e := (.iload_n 3, 18, 0, 0, 0)) rfl (fun _ _ _ => rfl) : mo_Sim 59 17 (ma_load 0 3 18)) (mt_leaf (ms_iald (e := (.iaload, 19, 0, 0, 0)) rfl (fun _ _ _ => rfl) : mo_Sim 59 18 (ma_iald 18 19)) (mt_leaf (ms_invS (e := (.invokestatic 152, 22, 205, 1, 759)) rfl rfl (fun _ _ _ => rfl) rfl rfl : mo_Sim 59 19 (ma_inv 205 2 2 20 22)) (mt_none)))
set_option maxRecDepth 100000 in
theorem smt59_7 (k : Nat) : ∀ f, mt59_7 k = some f → mo_Sim 59 k f := mt_node (smt59_8 k) (smt59_9 k)
set_option maxRecDepth 100000 in
theorem smt59_11 (k : Nat) : ∀ f, mt59_11 k = some f → mo_Sim 59 k f := mt_leaf (ms_ist (e := (.istore_n 2, 23, 0, 0, 0)) rfl (fun _ _ _ => rfl) : mo_Sim 59 22 (ma_stor 0 2 23)) (mt_leaf (ms_iinc (e := (.iinc 3 1, 26, 0, 0, 0)) rfl (fun _ _ _ => rfl) (by decide) : mo_Sim 59 23 (ma_iinc 3 (.ofNat 1) 23 26)) (mt_none))
set_option maxRecDepth 100000 in
theorem smt59_12 (k : Nat) : ∀ f, mt59_12 k = some f → mo_Sim 59 k f := mt_leaf (ms_goto (e := (.goto (-22), 29, 4, 0, 0)) rfl (fun _ _ _ => rfl) : mo_Sim 59 26 (ma_goto 4)) (mt_leaf (ms_ild (e := (.iload_n 2, 30, 0, 0, 0)) rfl (fun _ _ _ => rfl) : mo_Sim 59 29 (ma_load 0 2 30)) (mt_leaf (ms_ret (e := (.ireturn, 31, 0, 0, 0)) rfl (Or.inl ⟨rfl, rfl, (fun _ _ _ => rfl)⟩) : mo_Sim 59 30 (ma_ret 0)) (mt_none)))
set_option maxRecDepth 100000 in
theorem smt59_10 (k : Nat) : ∀ f, mt59_10 k = some f → mo_Sim 59 k f := mt_node (smt59_11 k) (smt59_12 k)
set_option maxRecDepth 100000 in
theorem smt59_6 (k : Nat) : ∀ f, mt59_6 k = some f → mo_Sim 59 k f := mt_node (smt59_7 k) (smt59_10 k)
set_option maxRecDepth 100000 in
theorem smt59_0 (k : Nat) : ∀ f, mt59_0 k = some f → mo_Sim 59 k f := mt_node (smt59_1 k) (smt59_6 k)
set_option maxRecDepth 100000 in
theorem smt60_4 (k : Nat) : ∀ f, mt60_4 k = some f → mo_Sim 60 k f := mt_leaf (ms_ald (e := (.aload_n 0, 1, 0, 0, 0)) rfl (fun _ _ _ => rfl) : mo_Sim 60 0 (ma_lda 0 1)) (mt_leaf (ms_ald (e := (.aload_n 0, 2, 0, 0, 0)) rfl (fun _ _ _ => rfl) : mo_Sim 60 1 (ma_lda 0 2)) (mt_leaf (ms_getf (e := (.getfield 18, 5, 7, 1, 205)) rfl (fun _ _ _ => rfl) : mo_Sim 60 2 (ma_getf 7 1 5)) (mt_none)))
set_option maxRecDepth 100000 in
theorem smt60_5 (k : Nat) : ∀ f, mt60_5 k = some f → mo_Sim 60 k f := mt_leaf (ms_ild (e := (.iload_n 1, 6, 0, 0, 0)) rfl (fun _ _ _ => rfl) : mo_Sim 60 5 (ma_load 0 1 6)) (mt_leaf (ms_ild (e := (.iload_n 2, 7, 0, 0, 0)) rfl (fun _ _ _ => rfl) : mo_Sim 60 6 (ma_load 0 2 7)) (mt_leaf (ms_invV (p := 3) (e := (.invokevirtual 155, 10, 61, 0, 751)) rfl rfl (fun _ _ _ => rfl) rfl rfl rfl (by decide) : mo_Sim 60 7 (ma_inv 61 4 5 7 10)) (mt_none)))
set_option maxRecDepth 100000 in
theorem smt60_3 (k : Nat) : ∀ f, mt60_3 k = some f → mo_Sim 60 k f := mt_node (smt60_4 k) (smt60_5 k)
set_option maxRecDepth 100000 in
theorem smt60_7 (k : Nat) : ∀ f, mt60_7 k = some f → mo_Sim 60 k f := mt_leaf (ms_ald (e := (.aload_n 0, 11, 0, 0, 0)) rfl (fun _ _ _ => rfl) : mo_Sim 60 10 (ma_lda 0 11)) (mt_leaf (ms_ald (e := (.aload_n 0, 12, 0, 0, 0)) rfl (fun _ _ _ => rfl) : mo_Sim 60 11 (ma_lda 0 12)) (mt_leaf (ms_getf (e := (.getfield 22, 15, 7, 2, 206)) rfl (fun _ _ _ => rfl) : mo_Sim 60 12 (ma_getf 7 2 15)) (mt_none)))
set_option maxRecDepth 100000 in
theorem smt60_8 (k : Nat) : ∀ f, mt60_8 k = some f → mo_Sim 60 k f := mt_leaf (ms_ild (e := (.iload_n 1, 16, 0, 0, 0)) rfl (fun _ _ _ => rfl) : mo_Sim 60 15 (ma_load 0 1 16)) (mt_leaf (ms_ild (e := (.iload_n 2, 17, 0, 0, 0)) rfl (fun _ _ _ => rfl) : mo_Sim 60 16 (ma_load 0 2 17)) (mt_leaf (ms_invV (p := 3) (e := (.invokevirtual 155, 20, 61, 0, 751)) rfl rfl (fun _ _ _ => rfl) rfl rfl rfl (by decide) : mo_Sim 60 17 (ma_inv 61 4 5 7 20)) (mt_none)))
set_option maxRecDepth 100000 in
theorem smt60_6 (k : Nat) : ∀ f, mt60_6 k = some f → mo_Sim 60 k f := mt_node (smt60_7 k) (smt60_8 k)
set_option maxRecDepth 100000 in
theorem smt60_2 (k : Nat) : ∀ f, mt60_2 k = some f → mo_Sim 60 k f := mt_node (smt60_3 k) (smt60_6 k)
set_option maxRecDepth 100000 in
theorem smt60_11 (k : Nat) : ∀ f, mt60_11 k = some f → mo_Sim 60 k f := mt_leaf (ms_ald (e := (.aload_n 0, 21, 0, 0, 0)) rfl (fun _ _ _ => rfl) : mo_Sim 60 20 (ma_lda 0 21)) (mt_leaf (ms_ald (e := (.aload_n 0, 22, 0, 0, 0)) rfl (fun _ _ _ => rfl) : mo_Sim 60 21 (ma_lda 0 22)) (mt_leaf (ms_getf (e := (.getfield 25, 25, 7, 3, 207)) rfl (fun _ _ _ => rfl) : mo_Sim 60 22 (ma_getf 7 3 25)) (mt_none)))
set_option maxRecDepth 100000 in
theorem smt60_12 (k : Nat) : ∀ f, mt60_12 k = some f → mo_Sim 60 k f := mt_leaf (ms_ild (e := (.iload_n 1, 26, 0, 0, 0)) rfl (fun _ _ _ => rfl) : mo_Sim 60 25 (ma_load 0 1 26)) (mt_leaf (ms_ild (e := (.iload_n 2, 27, 0, 0, 0)) rfl (fun _ _ _ => rfl) : mo_Sim 60 26 (ma_load 0 2 27)) (mt_leaf (ms_invV (p := 3) (e := (.invokevirtual 155, 30, 61, 0, 751)) rfl rfl (fun _ _ _ => rfl) rfl rfl rfl (by decide) : mo_Sim 60 27 (ma_inv 61 4 5 7 30)) (mt_none)))
set_option maxRecDepth 100000 in
theorem smt60_10 (k : Nat) : ∀ f, mt60_10 k = some f → mo_Sim 60 k f := mt_node (smt60_11 k) (smt60_12 k)
set_option maxRecDepth 100000 in
theorem smt60_14 (k : Nat) : ∀ f, mt60_14 k = some f → mo_Sim 60 k f := mt_leaf (ms_ald (e := (.aload_n 0, 31, 0, 0, 0)) rfl (fun _ _ _ => rfl) : mo_Sim 60 30 (ma_lda 0 31)) (mt_leaf (ms_ald (e := (.aload_n 0, 32, 0, 0, 0)) rfl (fun _ _ _ => rfl) : mo_Sim 60 31 (ma_lda 0 32)) (mt_leaf (ms_getf (e := (.getfield 28, 35, 7, 4, 208)) rfl (fun _ _ _ => rfl) : mo_Sim 60 32 (ma_getf 7 4 35)) (mt_none)))
set_option maxRecDepth 100000 in
theorem smt60_15 (k : Nat) : ∀ f, mt60_15 k = some f → mo_Sim 60 k f := mt_leaf (ms_ild (e := (.iload_n 1, 36, 0, 0, 0)) rfl (fun _ _ _ => rfl) : mo_Sim 60 35 (ma_load 0 1 36)) (mt_leaf (ms_ild (e := (.iload_n 2, 37, 0, 0, 0)) rfl (fun _ _ _ => rfl) : mo_Sim 60 36 (ma_load 0 2 37)) (mt_leaf (ms_invV (p := 3) (e := (.invokevirtual 155, 40, 61, 0, 751)) rfl rfl (fun _ _ _ => rfl) rfl rfl rfl (by decide) : mo_Sim 60 37 (ma_inv 61 4 5 7 40)) (mt_leaf (ms_ald (e := (.aload_n 0, 41, 0, 0, 0)) rfl (fun _ _ _ => rfl) : mo_Sim 60 40 (ma_lda 0 41)) (mt_none))))
set_option maxRecDepth 100000 in
theorem smt60_13 (k : Nat) : ∀ f, mt60_13 k = some f → mo_Sim 60 k f := mt_node (smt60_14 k) (smt60_15 k)
set_option maxRecDepth 100000 in
theorem smt60_9 (k : Nat) : ∀ f, mt60_9 k = some f → mo_Sim 60 k f := mt_node (smt60_10 k) (smt60_13 k)
set_option maxRecDepth 100000 in
theorem smt60_1 (k : Nat) : ∀ f, mt60_1 k = some f → mo_Sim 60 k f := mt_node (smt60_2 k) (smt60_9 k)
set_option maxRecDepth 100000 in
theorem smt60_19 (k : Nat) : ∀ f, mt60_19 k = some f → mo_Sim 60 k f := mt_leaf (ms_ald (e := (.aload_n 0, 42, 0, 0, 0)) rfl (fun _ _ _ => rfl) : mo_Sim 60 41 (ma_lda 0 42)) (mt_leaf (ms_getf (e := (.getfield 31, 45, 7, 5, 209)) rfl (fun _ _ _ => rfl) : mo_Sim 60 42 (ma_getf 7 5 45)) (mt_leaf (ms_ild (e := (.iload_n 1, 46, 0, 0, 0)) rfl (fun _ _ _ => rfl) : mo_Sim 60 45 (ma_load 0 1 46)) (mt_none)))
set_option maxRecDepth 100000 in
theorem smt60_20 (k : Nat) : ∀ f, mt60_20 k = some f → mo_Sim 60 k f := mt_leaf (ms_ild (e := (.iload_n 2, 47, 0, 0, 0)) rfl (fun _ _ _ => rfl) : mo_Sim 60 46 (ma_load 0 2 47)) (mt_leaf (ms_invV (p := 3) (e := (.invokevirtual 155, 50, 61, 0, 751)) rfl rfl (fun _ _ _ => rfl) rfl rfl rfl (by decide) : mo_Sim 60 47 (ma_inv 61 4 5 7 50)) (mt_leaf (ms_ald (e := (.aload_n 0, 51, 0, 0, 0)) rfl (fun _ _ _ => rfl) : mo_Sim 60 50 (ma_lda 0 51)) (mt_none)))
set_option maxRecDepth 100000 in
theorem smt60_18 (k : Nat) : ∀ f, mt60_18 k = some f → mo_Sim 60 k f := mt_node (smt60_19 k) (smt60_20 k)
set_option maxRecDepth 100000 in
theorem smt60_22 (k : Nat) : ∀ f, mt60_22 k = some f → mo_Sim 60 k f := mt_leaf (ms_getf (e := (.getfield 47, 54, 7, 9, 213)) rfl (fun _ _ _ => rfl) : mo_Sim 60 51 (ma_getf 7 9 54)) (mt_leaf (ms_ald (e := (.aload_n 0, 55, 0, 0, 0)) rfl (fun _ _ _ => rfl) : mo_Sim 60 54 (ma_lda 0 55)) (mt_leaf (ms_getf (e := (.getfield 18, 58, 7, 1, 205)) rfl (fun _ _ _ => rfl) : mo_Sim 60 55 (ma_getf 7 1 58)) (mt_none)))
set_option maxRecDepth 100000 in
theorem smt60_23 (k : Nat) : ∀ f, mt60_23 k = some f → mo_Sim 60 k f := mt_leaf (ms_ild (e := (.iload_n 1, 59, 0, 0, 0)) rfl (fun _ _ _ => rfl) : mo_Sim 60 58 (ma_load 0 1 59)) (mt_leaf (ms_iald (e := (.iaload, 60, 0, 0, 0)) rfl (fun _ _ _ => rfl) : mo_Sim 60 59 (ma_iald 59 60)) (mt_leaf (ms_ild (e := (.iload_n 1, 61, 0, 0, 0)) rfl (fun _ _ _ => rfl) : mo_Sim 60 60 (ma_load 0 1 61)) (mt_leaf (ms_pushi (e := (.iconst 1, 62, 0, 0, 0)) rfl (fun _ _ _ => rfl) (by decide) : mo_Sim 60 61 (ma_push (ma_ci (.ofNat 1)) 62)) (mt_none))))
set_option maxRecDepth 100000 in
theorem smt60_21 (k : Nat) : ∀ f, mt60_21 k = some f → mo_Sim 60 k f := mt_node (smt60_22 k) (smt60_23 k)
set_option maxRecDepth 100000 in
theorem smt60_17 (k : Nat) : ∀ f, mt60_17 k = some f → mo_Sim 60 k f := mt_node (smt60_18 k) (smt60_21 k)
set_option maxRecDepth 100000 in
theorem smt60_26 (k : Nat) : ∀ f, mt60_26 k = some f → mo_Sim 60 k f := mt_leaf (ms_iadd (e := (.iadd, 63, 0, 0, 0)) rfl (fun _ _ _ => rfl) : mo_Sim 60 62 (ma_iadd 62 63)) (mt_leaf (ms_iast (e := (.iastore, 64, 0, 0, 0)) rfl rfl (fun _ _ _ => rfl) : mo_Sim 60 63 (ma_ast 13 0 63 64)) (mt_leaf (ms_ald (e := (.aload_n 0, 65, 0, 0, 0)) rfl (fun _ _ _ => rfl) : mo_Sim 60 64 (ma_lda 0 65)) (mt_none)))
set_option maxRecDepth 100000 in
theorem smt60_27 (k : Nat) : ∀ f, mt60_27 k = some f → mo_Sim 60 k f := mt_leaf (ms_getf (e := (.getfield 47, 68, 7, 9, 213)) rfl (fun _ _ _ => rfl) : mo_Sim 60 65 (ma_getf 7 9 68)) (mt_leaf (ms_ald (e := (.aload_n 0, 69, 0, 0, 0)) rfl (fun _ _ _ => rfl) : mo_Sim 60 68 (ma_lda 0 69)) (mt_leaf (ms_getf (e := (.getfield 18, 72, 7, 1, 205)) rfl (fun _ _ _ => rfl) : mo_Sim 60 69 (ma_getf 7 1 72)) (mt_none)))
set_option maxRecDepth 100000 in
theorem smt60_25 (k : Nat) : ∀ f, mt60_25 k = some f → mo_Sim 60 k f := mt_node (smt60_26 k) (smt60_27 k)
set_option maxRecDepth 100000 in
theorem smt60_29 (k : Nat) : ∀ f, mt60_29 k = some f → mo_Sim 60 k f := mt_leaf (ms_ild (e := (.iload_n 2, 73, 0, 0, 0)) rfl (fun _ _ _ => rfl) : mo_Sim 60 72 (ma_load 0 2 73)) (mt_leaf (ms_iald (e := (.iaload, 74, 0, 0, 0)) rfl (fun _ _ _ => rfl) : mo_Sim 60 73 (ma_iald 73 74)) (mt_leaf (ms_ild (e := (.iload_n 2, 75, 0, 0, 0)) rfl (fun _ _ _ => rfl) : mo_Sim 60 74 (ma_load 0 2 75)) (mt_none)))
set_option maxRecDepth 100000 in
theorem smt60_30 (k : Nat) : ∀ f, mt60_30 k = some f → mo_Sim 60 k f := mt_leaf (ms_pushi (e := (.iconst 1, 76, 0, 0, 0)) rfl (fun _ _ _ => rfl) (by decide) : mo_Sim 60 75 (ma_push (ma_ci (.ofNat 1)) 76)) (mt_leaf (ms_iadd (e := (.iadd, 77, 0, 0, 0)) rfl (fun _ _ _ => rfl) : mo_Sim 60 76 (ma_iadd 76 77)) (mt_leaf (ms_iast (e := (.iastore, 78, 0, 0, 0)) rfl rfl (fun _ _ _ => rfl) : mo_Sim 60 77 (ma_ast 13 0 77 78)) (mt_leaf (ms_retv (e := (.return_, 79, 0, 0, 0)) rfl rfl (fun _ _ _ => rfl) : mo_Sim 60 78 (ma_retv)) (mt_none))))
set_option maxRecDepth 100000 in
theorem smt60_28 (k : Nat) : ∀ f, mt60_28 k = some f → mo_Sim 60 k f := mt_node (smt60_29 k) (smt60_30 k)
set_option maxRecDepth 100000 in
theorem smt60_24 (k : Nat) : ∀ f, mt60_24 k = some f → mo_Sim 60 k f := mt_node (smt60_25 k) (smt60_28 k)
set_option maxRecDepth 100000 in
theorem smt60_16 (k : Nat) : ∀ f, mt60_16 k = some f → mo_Sim 60 k f := mt_node (smt60_17 k) (smt60_24 k)
set_option maxRecDepth 100000 in
theorem smt60_0 (k : Nat) : ∀ f, mt60_0 k = some f → mo_Sim 60 k f := mt_node (smt60_1 k) (smt60_16 k)
set_option maxRecDepth 100000 in
theorem smt61_2 (k : Nat) : ∀ f, mt61_2 k = some f → mo_Sim 61 k f := mt_leaf (ms_ald (e := (.aload_n 1, 1, 0, 0, 0)) rfl (fun _ _ _ => rfl) : mo_Sim 61 0 (ma_lda 1 1)) (mt_leaf (ms_ild (e := (.iload_n 2, 2, 0, 0, 0)) rfl (fun _ _ _ => rfl) : mo_Sim 61 1 (ma_load 0 2 2)) (mt_leaf (ms_iald (e := (.iaload, 3, 0, 0, 0)) rfl (fun _ _ _ => rfl) : mo_Sim 61 2 (ma_iald 2 3)) (mt_none)))
set_option maxRecDepth 100000 in
theorem smt61_3 (k : Nat) : ∀ f, mt61_3 k = some f → mo_Sim 61 k f := mt_leaf (ms_ist (e := (.istore 4, 5, 0, 0, 0)) rfl (fun _ _ _ => rfl) : mo_Sim 61 3 (ma_stor 0 4 5)) (mt_leaf (ms_ald (e := (.aload_n 1, 6, 0, 0, 0)) rfl (fun _ _ _ => rfl) : mo_Sim 61 5 (ma_lda 1 6)) (mt_leaf (ms_ild (e := (.iload_n 2, 7, 0, 0, 0)) rfl (fun _ _ _ => rfl) : mo_Sim 61 6 (ma_load 0 2 7)) (mt_leaf (ms_ald (e := (.aload_n 1, 8, 0, 0, 0)) rfl (fun _ _ _ => rfl) : mo_Sim 61 7 (ma_lda 1 8)) (mt_none))))
set_option maxRecDepth 100000 in
theorem smt61_1 (k : Nat) : ∀ f, mt61_1 k = some f → mo_Sim 61 k f := mt_node (smt61_2 k) (smt61_3 k)
set_option maxRecDepth 100000 in
theorem smt61_5 (k : Nat) : ∀ f, mt61_5 k = some f → mo_Sim 61 k f := mt_leaf (ms_ild (e := (.iload_n 3, 9, 0, 0, 0)) rfl (fun _ _ _ => rfl) : mo_Sim 61 8 (ma_load 0 3 9)) (mt_leaf (ms_iald (e := (.iaload, 10, 0, 0, 0)) rfl (fun _ _ _ => rfl) : mo_Sim 61 9 (ma_iald 9 10)) (mt_leaf (ms_iast (e := (.iastore, 11, 0, 0, 0)) rfl rfl (fun _ _ _ => rfl) : mo_Sim 61 10 (ma_ast 13 0 10 11)) (mt_leaf (ms_ald (e := (.aload_n 1, 12, 0, 0, 0)) rfl (fun _ _ _ => rfl) : mo_Sim 61 11 (ma_lda 1 12)) (mt_none))))
set_option maxRecDepth 100000 in
theorem smt61_6 (k : Nat) : ∀ f, mt61_6 k = some f → mo_Sim 61 k f := mt_leaf (ms_ild (e := (.iload_n 3, 13, 0, 0, 0)) rfl (fun _ _ _ => rfl) : mo_Sim 61 12 (ma_load 0 3 13)) (mt_leaf (ms_ild (e := (.iload 4, 15, 0, 0, 0)) rfl (fun _ _ _ => rfl) : mo_Sim 61 13 (ma_load 0 4 15)) (mt_leaf (ms_iast (e := (.iastore, 16, 0, 0, 0)) rfl rfl (fun _ _ _ => rfl) : mo_Sim 61 15 (ma_ast 13 0 15 16)) (mt_leaf (ms_retv (e := (.return_, 17, 0, 0, 0)) rfl rfl (fun _ _ _ => rfl) : mo_Sim 61 16 (ma_retv)) (mt_none))))
set_option maxRecDepth 100000 in
theorem smt61_4 (k : Nat) : ∀ f, mt61_4 k = some f → mo_Sim 61 k f := mt_node (smt61_5 k) (smt61_6 k)
set_option maxRecDepth 100000 in
theorem smt61_0 (k : Nat) : ∀ f, mt61_0 k = some f → mo_Sim 61 k f := mt_node (smt61_1 k) (smt61_4 k)
set_option maxRecDepth 100000 in
theorem smt62_4 (k : Nat) : ∀ f, mt62_4 k = some f → mo_Sim 62 k f := mt_leaf (ms_ald (e := (.aload_n 1, 1, 0, 0, 0)) rfl (fun _ _ _ => rfl) : mo_Sim 62 0 (ma_lda 1 1)) (mt_leaf (ms_pushi (e := (.iconst 1, 2, 0, 0, 0)) rfl (fun _ _ _ => rfl) (by decide) : mo_Sim 62 1 (ma_push (ma_ci (.ofNat 1)) 2)) (mt_leaf (ms_putf (e := (.putfield 159, 5, 6, 0, 415)) rfl rfl (fun _ _ _ => rfl) (Or.inr (Or.inl ⟨rfl, rfl⟩)) : mo_Sim 62 2 (ma_putf 6 0 1 5)) (mt_leaf (ms_ald (e := (.aload_n 1, 6, 0, 0, 0)) rfl (fun _ _ _ => rfl) : mo_Sim 62 5 (ma_lda 1 6)) (mt_none))))
set_option maxRecDepth 100000 in
theorem smt62_5 (k : Nat) : ∀ f, mt62_5 k = some f → mo_Sim 62 k f := mt_leaf (ms_ald (e := (.aload_n 0, 7, 0, 0, 0)) rfl (fun _ _ _ => rfl) : mo_Sim 62 6 (ma_lda 0 7)) (mt_leaf (ms_getf (e := (.getfield 54, 10, 7, 10, 214)) rfl (fun _ _ _ => rfl) : mo_Sim 62 7 (ma_getf 7 10 10)) (mt_leaf (ms_pushi (e := (.sipush 256, 13, 0, 0, 0)) rfl (fun _ _ _ => rfl) (by decide) : mo_Sim 62 10 (ma_push (ma_ci (.ofNat 256)) 13)) (mt_leaf (ms_if2 (e := (.if_icmp .le 7, 16, 20, 0, 0)) rfl (fun _ _ _ => rfl) : mo_Sim 62 13 (ma_if2 .le 20 13 16)) (mt_none))))
set_option maxRecDepth 100000 in
theorem smt62_3 (k : Nat) : ∀ f, mt62_3 k = some f → mo_Sim 62 k f := mt_node (smt62_4 k) (smt62_5 k)
set_option maxRecDepth 100000 in
theorem smt62_7 (k : Nat) : ∀ f, mt62_7 k = some f → mo_Sim 62 k f := mt_leaf (ms_pushi (e := (.iconst 1, 17, 0, 0, 0)) rfl (fun _ _ _ => rfl) (by decide) : mo_Sim 62 16 (ma_push (ma_ci (.ofNat 1)) 17)) (mt_leaf (ms_goto (e := (.goto 4, 20, 21, 0, 0)) rfl (fun _ _ _ => rfl) : mo_Sim 62 17 (ma_goto 21)) (mt_leaf (ms_pushi (e := (.iconst 0, 21, 0, 0, 0)) rfl (fun _ _ _ => rfl) (by decide) : mo_Sim 62 20 (ma_push (ma_ci (.ofNat 0)) 21)) (mt_leaf (ms_putf (e := (.putfield 165, 24, 6, 1, 418)) rfl rfl (fun _ _ _ => rfl) (Or.inr (Or.inl ⟨rfl, rfl⟩)) : mo_Sim 62 21 (ma_putf 6 1 1 24)) (mt_none))))
set_option maxRecDepth 100000 in
theorem smt62_8 (k : Nat) : ∀ f, mt62_8 k = some f → mo_Sim 62 k f := mt_leaf (ms_ald (e := (.aload_n 1, 25, 0, 0, 0)) rfl (fun _ _ _ => rfl) : mo_Sim 62 24 (ma_lda 1 25)) (mt_leaf (ms_ald (e := (.aload_n 1, 26, 0, 0, 0)) rfl (fun _ _ _ => rfl) : mo_Sim 62 25 (ma_lda 1 26)) (mt_leaf (ms_getf (e := (.getfield 165, 29, 6, 1, 418)) rfl (fun _ _ _ => rfl) : mo_Sim 62 26 (ma_getf 6 1 29)) (mt_leaf (ms_if0 (e := (.ifCond .eq 7, 32, 36, 0, 0)) rfl (fun _ _ _ => rfl) : mo_Sim 62 29 (ma_if0 .eq 36 29 32)) (mt_none))))
set_option maxRecDepth 100000 in
theorem smt62_6 (k : Nat) : ∀ f, mt62_6 k = some f → mo_Sim 62 k f := mt_node (smt62_7 k) (smt62_8 k)
set_option maxRecDepth 100000 in
theorem smt62_2 (k : Nat) : ∀ f, mt62_2 k = some f → mo_Sim 62 k f := mt_node (smt62_3 k) (smt62_6 k)
set_option maxRecDepth 100000 in
theorem smt62_11 (k : Nat) : ∀ f, mt62_11 k = some f → mo_Sim 62 k f := mt_leaf (ms_pushi (e := (.iconst 0, 33, 0, 0, 0)) rfl (fun _ _ _ => rfl) (by decide) : mo_Sim 62 32 (ma_push (ma_ci (.ofNat 0)) 33)) (mt_leaf (ms_goto (e := (.goto 7, 36, 40, 0, 0)) rfl (fun _ _ _ => rfl) : mo_Sim 62 33 (ma_goto 40)) (mt_leaf (ms_ald (e := (.aload_n 0, 37, 0, 0, 0)) rfl (fun _ _ _ => rfl) : mo_Sim 62 36 (ma_lda 0 37)) (mt_leaf (ms_getf (e := (.getfield 54, 40, 7, 10, 214)) rfl (fun _ _ _ => rfl) : mo_Sim 62 37 (ma_getf 7 10 40)) (mt_none))))
set_option maxRecDepth 100000 in
theorem smt62_12 (k : Nat) : ∀ f, mt62_12 k = some f → mo_Sim 62 k f := mt_leaf (ms_putf (e := (.putfield 168, 43, 6, 2, 421)) rfl rfl (fun _ _ _ => rfl) (Or.inl ⟨rfl, rfl⟩) : mo_Sim 62 40 (ma_putf 6 2 0 43)) (mt_leaf (ms_pushi (e := (.iconst 0, 44, 0, 0, 0)) rfl (fun _ _ _ => rfl) (by decide) : mo_Sim 62 43 (ma_push (ma_ci (.ofNat 0)) 44)) (mt_leaf (ms_ist (e := (.istore_n 2, 45, 0, 0, 0)) rfl (fun _ _ _ => rfl) : mo_Sim 62 44 (ma_stor 0 2 45)) (mt_leaf (ms_ild (e := (.iload_n 2, 46, 0, 0, 0)) rfl (fun _ _ _ => rfl) : mo_Sim 62 45 (ma_load 0 2 46)) (mt_none))))
set_option maxRecDepth 100000 in
theorem smt62_10 (k : Nat) : ∀ f, mt62_10 k = some f → mo_Sim 62 k f := mt_node (smt62_11 k) (smt62_12 k)
set_option maxRecDepth 100000 in
theorem smt62_14 (k : Nat) : ∀ f, mt62_14 k = some f → mo_Sim 62 k f := mt_leaf (ms_ald (e := (.aload_n 1, 47, 0, 0, 0)) rfl (fun _ _ _ => rfl) : mo_Sim 62 46 (ma_lda 1 47)) (mt_leaf (ms_getf (e := (.getfield 168, 50, 6, 2, 421)) rfl (fun _ _ _ => rfl) : mo_Sim 62 47 (ma_getf 6 2 50)) (mt_leaf (ms_if2 (e := (.if_icmp .ge 38, 53, 88, 0, 0)) rfl (fun _ _ _ => rfl) : mo_Sim 62 50 (ma_if2 .ge 88 50 53)) (mt_leaf (ms_ald (e := (.aload_n 0, 54, 0, 0, 0)) rfl (fun _ _ _ => rfl) : mo_Sim 62 53 (ma_lda 0 54)) (mt_none))))
set_option maxRecDepth 100000 in
theorem smt62_15 (k : Nat) : ∀ f, mt62_15 k = some f → mo_Sim 62 k f := mt_leaf (ms_ild (e := (.iload_n 2, 55, 0, 0, 0)) rfl (fun _ _ _ => rfl) : mo_Sim 62 54 (ma_load 0 2 55)) (mt_leaf (ms_invV (p := 1) (e := (.invokevirtual 58, 58, 57, 0, 739)) rfl rfl (fun _ _ _ => rfl) rfl rfl rfl (by decide) : mo_Sim 62 55 (ma_inv 57 2 4 7 58)) (mt_leaf (ms_ald (e := (.aload_n 1, 59, 0, 0, 0)) rfl (fun _ _ _ => rfl) : mo_Sim 62 58 (ma_lda 1 59)) (mt_leaf (ms_getf (e := (.getfield 169, 62, 6, 3, 424)) rfl (fun _ _ _ => rfl) : mo_Sim 62 59 (ma_getf 6 3 62)) (mt_none))))
set_option maxRecDepth 100000 in
theorem smt62_13 (k : Nat) : ∀ f, mt62_13 k = some f → mo_Sim 62 k f := mt_node (smt62_14 k) (smt62_15 k)
set_option maxRecDepth 100000 in
theorem smt62_9 (k : Nat) : ∀ f, mt62_9 k = some f → mo_Sim 62 k f := mt_node (smt62_10 k) (smt62_13 k)
set_option maxRecDepth 100000 in
theorem smt62_1 (k : Nat) : ∀ f, mt62_1 k = some f → mo_Sim 62 k f := mt_node (smt62_2 k) (smt62_9 k)
set_option maxRecDepth 100000 in
theorem smt62_19 (k : Nat) : ∀ f, mt62_19 k = some f → mo_Sim 62 k f := mt_leaf (ms_ild (e := (.iload_n 2, 63, 0, 0, 0)) rfl (fun _ _ _ => rfl) : mo_Sim 62 62 (ma_load 0 2 63)) (mt_leaf (ms_ald (e := (.aload_n 0, 64, 0, 0, 0)) rfl (fun _ _ _ => rfl) : mo_Sim 62 63 (ma_lda 0 64)) (mt_leaf (ms_getf (e := (.getfield 18, 67, 7, 1, 205)) rfl (fun _ _ _ => rfl) : mo_Sim 62 64 (ma_getf 7 1 67)) (mt_leaf (ms_ild (e := (.iload_n 2, 68, 0, 0, 0)) rfl (fun _ _ _ => rfl) : mo_Sim 62 67 (ma_load 0 2 68)) (mt_none))))
set_option maxRecDepth 100000 in
theorem smt62_20 (k : Nat) : ∀ f, mt62_20 k = some f → mo_Sim 62 k f := mt_leaf (ms_iald (e := (.iaload, 69, 0, 0, 0)) rfl (fun _ _ _ => rfl) : mo_Sim 62 68 (ma_iald 68 69)) (mt_leaf (ms_iast (e := (.iastore, 70, 0, 0, 0)) rfl rfl (fun _ _ _ => rfl) : mo_Sim 62 69 (ma_ast 13 0 69 70)) (mt_leaf (ms_ald (e := (.aload_n 1, 71, 0, 0, 0)) rfl (fun _ _ _ => rfl) : mo_Sim 62 70 (ma_lda 1 71)) (mt_leaf (ms_getf (e := (.getfield 170, 74, 6, 4, 427)) rfl (fun _ _ _ => rfl) : mo_Sim 62 71 (ma_getf 6 4 74)) (mt_none))))
set_option maxRecDepth 100000 in
theorem smt62_18 (k : Nat) : ∀ f, mt62_18 k = some f → mo_Sim 62 k f := mt_node (smt62_19 k) (smt62_20 k)
set_option maxRecDepth 100000 in
theorem smt62_22 (k : Nat) : ∀ f, mt62_22 k = some f → mo_Sim 62 k f := mt_leaf (ms_ild (e := (.iload_n 2, 75, 0, 0, 0)) rfl (fun _ _ _ => rfl) : mo_Sim 62 74 (ma_load 0 2 75)) (mt_leaf (ms_ald (e := (.aload_n 0, 76, 0, 0, 0)) rfl (fun _ _ _ => rfl) : mo_Sim 62 75 (ma_lda 0 76)) (mt_leaf (ms_getf (e := (.getfield 22, 79, 7, 2, 206)) rfl (fun _ _ _ => rfl) : mo_Sim 62 76 (ma_getf 7 2 79)) (mt_leaf (ms_ild (e := (.iload_n 2, 80, 0, 0, 0)) rfl (fun _ _ _ => rfl) : mo_Sim 62 79 (ma_load 0 2 80)) (mt_none))))
set_option maxRecDepth 100000 in
theorem smt62_23 (k : Nat) : ∀ f, mt62_23 k = some f → mo_Sim 62 k f := mt_leaf (ms_iald (e := (.iaload, 81, 0, 0, 0)) rfl (fun _ _ _ => rfl) : mo_Sim 62 80 (ma_iald 80 81)) (mt_leaf (ms_iast (e := (.iastore, 82, 0, 0, 0)) rfl rfl (fun _ _ _ => rfl) : mo_Sim 62 81 (ma_ast 13 0 81 82)) (mt_leaf (ms_iinc (e := (.iinc 2 1, 85, 0, 0, 0)) rfl (fun _ _ _ => rfl) (by decide) : mo_Sim 62 82 (ma_iinc 2 (.ofNat 1) 82 85)) (mt_leaf (ms_goto (e := (.goto (-40), 88, 45, 0, 0)) rfl (fun _ _ _ => rfl) : mo_Sim 62 85 (ma_goto 45)) (mt_none))))
set_option maxRecDepth 100000 in
theorem smt62_21 (k : Nat) : ∀ f, mt62_21 k = some f → mo_Sim 62 k f := mt_node (smt62_22 k) (smt62_23 k)
set_option maxRecDepth 100000 in
theorem smt62_17 (k : Nat) : ∀ f, mt62_17 k = some f → mo_Sim 62 k f := mt_node (smt62_18 k) (smt62_21 k)
set_option maxRecDepth 100000 in
theorem smt62_26 (k : Nat) : ∀ f, mt62_26 k = some f → mo_Sim 62 k f := mt_leaf (ms_pushi (e := (.iconst 0, 89, 0, 0, 0)) rfl (fun _ _ _ => rfl) (by decide) : mo_Sim 62 88 (ma_push (ma_ci (.ofNat 0)) 89)) (mt_leaf (ms_ist (e := (.istore_n 2, 90, 0, 0, 0)) rfl (fun _ _ _ => rfl) : mo_Sim 62 89 (ma_stor 0 2 90)) (mt_leaf (ms_ild (e := (.iload_n 2, 91, 0, 0, 0)) rfl (fun _ _ _ => rfl) : mo_Sim 62 90 (ma_load 0 2 91)) (mt_leaf (ms_ald (e := (.aload_n 0, 92, 0, 0, 0)) rfl (fun _ _ _ => rfl) : mo_Sim 62 91 (ma_lda 0 92)) (mt_none))))
set_option maxRecDepth 100000 in
theorem smt62_27 (k : Nat) : ∀ f, mt62_27 k = some f → mo_Sim 62 k f := mt_leaf (ms_getf (e := (.getfield 54, 95, 7, 10, 214)) rfl (fun _ _ _ => rfl) : mo_Sim 62 92 (ma_getf 7 10 95)) (mt_leaf (ms_if2 (e := (.if_icmp .ge 21, 98, 116, 0, 0)) rfl (fun _ _ _ => rfl) : mo_Sim 62 95 (ma_if2 .ge 116 95 98)) (mt_leaf (ms_ald (e := (.aload_n 0, 99, 0, 0, 0)) rfl (fun _ _ _ => rfl) : mo_Sim 62 98 (ma_lda 0 99)) (mt_leaf (ms_getf (e := (.getfield 47, 102, 7, 9, 213)) rfl (fun _ _ _ => rfl) : mo_Sim 62 99 (ma_getf 7 9 102)) (mt_none))))
set_option maxRecDepth 100000 in
theorem smt62_25 (k : Nat) : ∀ f, mt62_25 k = some f → mo_Sim 62 k f := mt_node (smt62_26 k) (smt62_27 k)
set_option maxRecDepth 100000 in
theorem smt62_29 (k : Nat) : ∀ f, mt62_29 k = some f → mo_Sim 62 k f := mt_leaf (ms_ald (e := (.aload_n 0, 103, 0, 0, 0)) rfl (fun _ _ _ => rfl) : mo_Sim 62 102 (ma_lda 0 103)) (mt_leaf (ms_getf (e := (.getfield 18, 106, 7, 1, 205)) rfl (fun _ _ _ => rfl) : mo_Sim 62 103 (ma_getf 7 1 106)) (mt_leaf (ms_ild (e := (.iload_n 2, 107, 0, 0, 0)) rfl (fun _ _ _ => rfl) : mo_Sim 62 106 (ma_load 0 2 107)) (mt_leaf (ms_iald (e := (.iaload, 108, 0, 0, 0)) rfl (fun _ _ _ => rfl) : mo_Sim 62 107 (ma_iald 107 108)) (mt_none))))
set_option maxRecDepth 100000 in
theorem smt62_31 (k : Nat) : ∀ f, mt62_31 k = some f → mo_Sim 62 k f := mt_leaf (ms_pushi (e := (.iconst 0, 109, 0, 0, 0)) rfl (fun _ _ _ => rfl) (by decide) : mo_Sim 62 108 (ma_push (ma_ci (.ofNat 0)) 109)) (mt_leaf (ms_iast (e := (.iastore, 110, 0, 0, 0)) rfl rfl (fun _ _ _ => rfl) : mo_Sim 62 109 (ma_ast 13 0 109 110)) (mt_none))
set_option maxRecDepth 100000 in
theorem smt62_32 (k : Nat) : ∀ f, mt62_32 k = some f → mo_Sim 62 k f := mt_leaf (ms_iinc (e := (.iinc 2 1, 113, 0, 0, 0)) rfl (fun _ _ _ => rfl) (by decide) : mo_Sim 62 110 (ma_iinc 2 (.ofNat 1) 110 113)) (mt_leaf (ms_goto (e := (.goto (-23), 116, 90, 0, 0)) rfl (fun _ _ _ => rfl) : mo_Sim 62 113 (ma_goto 90)) (mt_leaf (ms_retv (e := (.return_, 117, 0, 0, 0)) rfl rfl (fun _ _ _ => rfl) : mo_Sim 62 116 (ma_retv)) (mt_none)))
set_option maxRecDepth 100000 in
theorem smt62_30 (k : Nat) : ∀ f, mt62_30 k = some f → mo_Sim 62 k f := mt_node (smt62_31 k) (smt62_32 k)
set_option maxRecDepth 100000 in
theorem smt62_28 (k : Nat) : ∀ f, mt62_28 k = some f → mo_Sim 62 k f := mt_node (smt62_29 k) (smt62_30 k)
set_option maxRecDepth 100000 in
theorem smt62_24 (k : Nat) : ∀ f, mt62_24 k = some f → mo_Sim 62 k f := mt_node (smt62_25 k) (smt62_28 k)
set_option maxRecDepth 100000 in
theorem smt62_16 (k : Nat) : ∀ f, mt62_16 k = some f → mo_Sim 62 k f := mt_node (smt62_17 k) (smt62_24 k)
set_option maxRecDepth 100000 in
theorem smt62_0 (k : Nat) : ∀ f, mt62_0 k = some f → mo_Sim 62 k f := mt_node (smt62_1 k) (smt62_16 k)
set_option maxRecDepth 100000 in
theorem smt63_3 (k : Nat) : ∀ f, mt63_3 k = some f → mo_Sim 63 k f := mt_leaf (ms_ald (e := (.aload_n 0, 1, 0, 0, 0)) rfl (fun _ _ _ => rfl) : mo_Sim 63 0 (ma_lda 0 1)) (mt_leaf (ms_obj (e := (.invokespecial 1, 4, 0, 4, 281)) rfl (fun _ _ _ => rfl) : mo_Sim 63 1 (ma_obj 4)) (mt_leaf (ms_ald (e := (.aload_n 0, 5, 0, 0, 0)) rfl (fun _ _ _ => rfl) : mo_Sim 63 4 (ma_lda 0 5)) (mt_none)))
set_option maxRecDepth 100000 in
theorem smt63_4 (k : Nat) : ∀ f, mt63_4 k = some f → mo_Sim 63 k f := mt_leaf (ms_pushi (e := (.bipush 9, 7, 0, 0, 0)) rfl (fun _ _ _ => rfl) (by decide) : mo_Sim 63 5 (ma_push (ma_ci (.ofNat 9)) 7)) (mt_leaf (ms_newaI (e := (.newarray .int, 9, 0, 0, 0)) rfl rfl (fun _ _ _ => rfl) : mo_Sim 63 7 (ma_newa 13 (ma_ci (.ofNat 0)) 9)) (mt_leaf (ms_putf (e := (.putfield 9, 12, 8, 0, 282)) rfl rfl (fun _ _ _ => rfl) (Or.inr (Or.inr (Or.inl ⟨rfl, Or.inr ⟨_, rfl⟩⟩))) : mo_Sim 63 9 (ma_putf 8 0 2 12)) (mt_none)))
set_option maxRecDepth 100000 in
theorem smt63_2 (k : Nat) : ∀ f, mt63_2 k = some f → mo_Sim 63 k f := mt_node (smt63_3 k) (smt63_4 k)
set_option maxRecDepth 100000 in
theorem smt63_6 (k : Nat) : ∀ f, mt63_6 k = some f → mo_Sim 63 k f := mt_leaf (ms_ald (e := (.aload_n 0, 13, 0, 0, 0)) rfl (fun _ _ _ => rfl) : mo_Sim 63 12 (ma_lda 0 13)) (mt_leaf (ms_pushi (e := (.sipush 729, 16, 0, 0, 0)) rfl (fun _ _ _ => rfl) (by decide) : mo_Sim 63 13 (ma_push (ma_ci (.ofNat 729)) 16)) (mt_leaf (ms_newaI (e := (.newarray .int, 18, 0, 0, 0)) rfl rfl (fun _ _ _ => rfl) : mo_Sim 63 16 (ma_newa 13 (ma_ci (.ofNat 0)) 18)) (mt_none)))
set_option maxRecDepth 100000 in
theorem smt63_7 (k : Nat) : ∀ f, mt63_7 k = some f → mo_Sim 63 k f := mt_leaf (ms_putf (e := (.putfield 13, 21, 8, 1, 284)) rfl rfl (fun _ _ _ => rfl) (Or.inr (Or.inr (Or.inl ⟨rfl, Or.inr ⟨_, rfl⟩⟩))) : mo_Sim 63 18 (ma_putf 8 1 2 21)) (mt_leaf (ms_ald (e := (.aload_n 0, 22, 0, 0, 0)) rfl (fun _ _ _ => rfl) : mo_Sim 63 21 (ma_lda 0 22)) (mt_leaf (ms_ald (e := (.aload_n 0, 23, 0, 0, 0)) rfl (fun _ _ _ => rfl) : mo_Sim 63 22 (ma_lda 0 23)) (mt_leaf (ms_getf (e := (.getfield 13, 26, 8, 1, 284)) rfl (fun _ _ _ => rfl) : mo_Sim 63 23 (ma_getf 8 1 26)) (mt_none))))
set_option maxRecDepth 100000 in
theorem smt63_5 (k : Nat) : ∀ f, mt63_5 k = some f → mo_Sim 63 k f := mt_node (smt63_6 k) (smt63_7 k)
set_option maxRecDepth 100000 in
theorem smt63_1 (k : Nat) : ∀ f, mt63_1 k = some f → mo_Sim 63 k f := mt_node (smt63_2 k) (smt63_5 k)
set_option maxRecDepth 100000 in
theorem smt63_10 (k : Nat) : ∀ f, mt63_10 k = some f → mo_Sim 63 k f := mt_leaf (ms_alen (e := (.arraylength, 27, 0, 0, 0)) rfl (fun _ _ _ => rfl) : mo_Sim 63 26 (ma_alen 27)) (mt_leaf (ms_newaI (e := (.newarray .int, 29, 0, 0, 0)) rfl rfl (fun _ _ _ => rfl) : mo_Sim 63 27 (ma_newa 13 (ma_ci (.ofNat 0)) 29)) (mt_leaf (ms_putf (e := (.putfield 16, 32, 8, 2, 285)) rfl rfl (fun _ _ _ => rfl) (Or.inr (Or.inr (Or.inl ⟨rfl, Or.inr ⟨_, rfl⟩⟩))) : mo_Sim 63 29 (ma_putf 8 2 2 32)) (mt_none)))
set_option maxRecDepth 100000 in
theorem smt63_11 (k : Nat) : ∀ f, mt63_11 k = some f → mo_Sim 63 k f := mt_leaf (ms_ald (e := (.aload_n 0, 33, 0, 0, 0)) rfl (fun _ _ _ => rfl) : mo_Sim 63 32 (ma_lda 0 33)) (mt_leaf (ms_ald (e := (.aload_n 0, 34, 0, 0, 0)) rfl (fun _ _ _ => rfl) : mo_Sim 63 33 (ma_lda 0 34)) (mt_leaf (ms_getf (e := (.getfield 13, 37, 8, 1, 284)) rfl (fun _ _ _ => rfl) : mo_Sim 63 34 (ma_getf 8 1 37)) (mt_leaf (ms_alen (e := (.arraylength, 38, 0, 0, 0)) rfl (fun _ _ _ => rfl) : mo_Sim 63 37 (ma_alen 38)) (mt_none))))
set_option maxRecDepth 100000 in
theorem smt63_9 (k : Nat) : ∀ f, mt63_9 k = some f → mo_Sim 63 k f := mt_node (smt63_10 k) (smt63_11 k)
set_option maxRecDepth 100000 in
theorem smt63_13 (k : Nat) : ∀ f, mt63_13 k = some f → mo_Sim 63 k f := mt_leaf (ms_newaI (e := (.newarray .int, 40, 0, 0, 0)) rfl rfl (fun _ _ _ => rfl) : mo_Sim 63 38 (ma_newa 13 (ma_ci (.ofNat 0)) 40)) (mt_leaf (ms_putf (e := (.putfield 19, 43, 8, 3, 286)) rfl rfl (fun _ _ _ => rfl) (Or.inr (Or.inr (Or.inl ⟨rfl, Or.inr ⟨_, rfl⟩⟩))) : mo_Sim 63 40 (ma_putf 8 3 2 43)) (mt_leaf (ms_ald (e := (.aload_n 0, 44, 0, 0, 0)) rfl (fun _ _ _ => rfl) : mo_Sim 63 43 (ma_lda 0 44)) (mt_none)))
set_option maxRecDepth 100000 in
theorem smt63_14 (k : Nat) : ∀ f, mt63_14 k = some f → mo_Sim 63 k f := mt_leaf (ms_pushi (e := (.bipush 10, 46, 0, 0, 0)) rfl (fun _ _ _ => rfl) (by decide) : mo_Sim 63 44 (ma_push (ma_ci (.ofNat 10)) 46)) (mt_leaf (ms_newaI (e := (.newarray .int, 48, 0, 0, 0)) rfl rfl (fun _ _ _ => rfl) : mo_Sim 63 46 (ma_newa 13 (ma_ci (.ofNat 0)) 48)) (mt_leaf (ms_putf (e := (.putfield 22, 51, 8, 4, 287)) rfl rfl (fun _ _ _ => rfl) (Or.inr (Or.inr (Or.inl ⟨rfl, Or.inr ⟨_, rfl⟩⟩))) : mo_Sim 63 48 (ma_putf 8 4 2 51)) (mt_leaf (ms_retv (e := (.return_, 52, 0, 0, 0)) rfl rfl (fun _ _ _ => rfl) : mo_Sim 63 51 (ma_retv)) (mt_none))))
set_option maxRecDepth 100000 in
theorem smt63_12 (k : Nat) : ∀ f, mt63_12 k = some f → mo_Sim 63 k f := mt_node (smt63_13 k) (smt63_14 k)
set_option maxRecDepth 100000 in
theorem smt63_8 (k : Nat) : ∀ f, mt63_8 k = some f → mo_Sim 63 k f := mt_node (smt63_9 k) (smt63_12 k)
set_option maxRecDepth 100000 in
theorem smt63_0 (k : Nat) : ∀ f, mt63_0 k = some f → mo_Sim 63 k f := mt_node (smt63_1 k) (smt63_8 k)
set_option maxRecDepth 100000 in
theorem smt64_3 (k : Nat) : ∀ f, mt64_3 k = some f → mo_Sim 64 k f := mt_leaf (ms_ald (e := (.aload_n 0, 1, 0, 0, 0)) rfl (fun _ _ _ => rfl) : mo_Sim 64 0 (ma_lda 0 1)) (mt_leaf (ms_ild (e := (.iload_n 1, 2, 0, 0, 0)) rfl (fun _ _ _ => rfl) : mo_Sim 64 1 (ma_load 0 1 2)) (mt_leaf (ms_putf (e := (.putfield 25, 5, 8, 5, 288)) rfl rfl (fun _ _ _ => rfl) (Or.inl ⟨rfl, rfl⟩) : mo_Sim 64 2 (ma_putf 8 5 0 5)) (mt_none)))
set_option maxRecDepth 100000 in
theorem smt64_4 (k : Nat) : ∀ f, mt64_4 k = some f → mo_Sim 64 k f := mt_leaf (ms_ald (e := (.aload_n 0, 6, 0, 0, 0)) rfl (fun _ _ _ => rfl) : mo_Sim 64 5 (ma_lda 0 6)) (mt_leaf (ms_ild (e := (.iload_n 2, 7, 0, 0, 0)) rfl (fun _ _ _ => rfl) : mo_Sim 64 6 (ma_load 0 2 7)) (mt_leaf (ms_pushi (e := (.bipush 9, 9, 0, 0, 0)) rfl (fun _ _ _ => rfl) (by decide) : mo_Sim 64 7 (ma_push (ma_ci (.ofNat 9)) 9)) (mt_leaf (ms_invS (e := (.invokestatic 29, 12, 206, 1, 814)) rfl rfl (fun _ _ _ => rfl) rfl rfl : mo_Sim 64 9 (ma_inv 206 2 2 20 12)) (mt_none))))
set_option maxRecDepth 100000 in
theorem smt64_2 (k : Nat) : ∀ f, mt64_2 k = some f → mo_Sim 64 k f := mt_node (smt64_3 k) (smt64_4 k)
set_option maxRecDepth 100000 in
theorem smt64_6 (k : Nat) : ∀ f, mt64_6 k = some f → mo_Sim 64 k f := mt_leaf (ms_putf (e := (.putfield 35, 15, 8, 6, 289)) rfl rfl (fun _ _ _ => rfl) (Or.inl ⟨rfl, rfl⟩) : mo_Sim 64 12 (ma_putf 8 6 0 15)) (mt_leaf (ms_ald (e := (.aload_n 0, 16, 0, 0, 0)) rfl (fun _ _ _ => rfl) : mo_Sim 64 15 (ma_lda 0 16)) (mt_leaf (ms_pushi (e := (.iconst 1, 17, 0, 0, 0)) rfl (fun _ _ _ => rfl) (by decide) : mo_Sim 64 16 (ma_push (ma_ci (.ofNat 1)) 17)) (mt_none)))
set_option maxRecDepth 100000 in
theorem smt64_7 (k : Nat) : ∀ f, mt64_7 k = some f → mo_Sim 64 k f := mt_leaf (ms_ald (e := (.aload_n 0, 18, 0, 0, 0)) rfl (fun _ _ _ => rfl) : mo_Sim 64 17 (ma_lda 0 18)) (mt_leaf (ms_getf (e := (.getfield 25, 21, 8, 5, 288)) rfl (fun _ _ _ => rfl) : mo_Sim 64 18 (ma_getf 8 5 21)) (mt_leaf (ms_ald (e := (.aload_n 0, 22, 0, 0, 0)) rfl (fun _ _ _ => rfl) : mo_Sim 64 21 (ma_lda 0 22)) (mt_leaf (ms_getf (e := (.getfield 25, 25, 8, 5, 288)) rfl (fun _ _ _ => rfl) : mo_Sim 64 22 (ma_getf 8 5 25)) (mt_none))))
set_option maxRecDepth 100000 in
theorem smt64_5 (k : Nat) : ∀ f, mt64_5 k = some f → mo_Sim 64 k f := mt_node (smt64_6 k) (smt64_7 k)
set_option maxRecDepth 100000 in
theorem smt64_1 (k : Nat) : ∀ f, mt64_1 k = some f → mo_Sim 64 k f := mt_node (smt64_2 k) (smt64_5 k)
set_option maxRecDepth 100000 in
theorem smt64_10 (k : Nat) : ∀ f, mt64_10 k = some f → mo_Sim 64 k f := mt_leaf (ms_i2 (e := (.imul, 26, 0, 0, 0)) rfl (fun _ _ _ => rfl) hf_mul : mo_Sim 64 25 (ma_i2 ma_fmul 25 26)) (mt_leaf (ms_ald (e := (.aload_n 0, 27, 0, 0, 0)) rfl (fun _ _ _ => rfl) : mo_Sim 64 26 (ma_lda 0 27)) (mt_leaf (ms_getf (e := (.getfield 25, 30, 8, 5, 288)) rfl (fun _ _ _ => rfl) : mo_Sim 64 27 (ma_getf 8 5 30)) (mt_none)))
set_option maxRecDepth 100000 in
theorem smt64_11 (k : Nat) : ∀ f, mt64_11 k = some f → mo_Sim 64 k f := mt_leaf (ms_i2 (e := (.imul, 31, 0, 0, 0)) rfl (fun _ _ _ => rfl) hf_mul : mo_Sim 64 30 (ma_i2 ma_fmul 30 31)) (mt_leaf (ms_i2 (e := (.ishl, 32, 0, 0, 0)) rfl (fun _ _ _ => rfl) hf_shl : mo_Sim 64 31 (ma_i2 ma_fshl 31 32)) (mt_leaf (ms_pushi (e := (.iconst 1, 33, 0, 0, 0)) rfl (fun _ _ _ => rfl) (by decide) : mo_Sim 64 32 (ma_push (ma_ci (.ofNat 1)) 33)) (mt_leaf (ms_isub (e := (.isub, 34, 0, 0, 0)) rfl (fun _ _ _ => rfl) : mo_Sim 64 33 (ma_isub 33 34)) (mt_none))))
set_option maxRecDepth 100000 in
theorem smt64_9 (k : Nat) : ∀ f, mt64_9 k = some f → mo_Sim 64 k f := mt_node (smt64_10 k) (smt64_11 k)
set_option maxRecDepth 100000 in
theorem smt64_13 (k : Nat) : ∀ f, mt64_13 k = some f → mo_Sim 64 k f := mt_leaf (ms_putf (e := (.putfield 38, 37, 8, 7, 290)) rfl rfl (fun _ _ _ => rfl) (Or.inl ⟨rfl, rfl⟩) : mo_Sim 64 34 (ma_putf 8 7 0 37)) (mt_leaf (ms_ald (e := (.aload_n 0, 38, 0, 0, 0)) rfl (fun _ _ _ => rfl) : mo_Sim 64 37 (ma_lda 0 38)) (mt_leaf (ms_getf (e := (.getfield 13, 41, 8, 1, 284)) rfl (fun _ _ _ => rfl) : mo_Sim 64 38 (ma_getf 8 1 41)) (mt_none)))
set_option maxRecDepth 100000 in
theorem smt64_14 (k : Nat) : ∀ f, mt64_14 k = some f → mo_Sim 64 k f := mt_leaf (ms_ald (e := (.aload_n 0, 42, 0, 0, 0)) rfl (fun _ _ _ => rfl) : mo_Sim 64 41 (ma_lda 0 42)) (mt_leaf (ms_getf (e := (.getfield 38, 45, 8, 7, 290)) rfl (fun _ _ _ => rfl) : mo_Sim 64 42 (ma_getf 8 7 45)) (mt_leaf (ms_invS (e := (.invokestatic 41, 48, 208, 1, 815)) rfl rfl (fun _ _ _ => rfl) rfl rfl : mo_Sim 64 45 (ma_inv 208 2 4 20 48)) (mt_leaf (ms_retv (e := (.return_, 49, 0, 0, 0)) rfl rfl (fun _ _ _ => rfl) : mo_Sim 64 48 (ma_retv)) (mt_none))))
set_option maxRecDepth 100000 in
theorem smt64_12 (k : Nat) : ∀ f, mt64_12 k = some f → mo_Sim 64 k f := mt_node (smt64_13 k) (smt64_14 k)
set_option maxRecDepth 100000 in
theorem smt64_8 (k : Nat) : ∀ f, mt64_8 k = some f → mo_Sim 64 k f := mt_node (smt64_9 k) (smt64_12 k)
set_option maxRecDepth 100000 in
theorem smt64_0 (k : Nat) : ∀ f, mt64_0 k = some f → mo_Sim 64 k f := mt_node (smt64_1 k) (smt64_8 k)
set_option maxRecDepth 100000 in
theorem smt65_2 (k : Nat) : ∀ f, mt65_2 k = some f → mo_Sim 65 k f := mt_leaf (ms_ald (e := (.aload_n 0, 1, 0, 0, 0)) rfl (fun _ _ _ => rfl) : mo_Sim 65 0 (ma_lda 0 1)) (mt_leaf (ms_getf (e := (.getfield 13, 4, 8, 1, 284)) rfl (fun _ _ _ => rfl) : mo_Sim 65 1 (ma_getf 8 1 4)) (mt_leaf (ms_ild (e := (.iload_n 1, 5, 0, 0, 0)) rfl (fun _ _ _ => rfl) : mo_Sim 65 4 (ma_load 0 1 5)) (mt_leaf (ms_pushi (e := (.bipush 9, 7, 0, 0, 0)) rfl (fun _ _ _ => rfl) (by decide) : mo_Sim 65 5 (ma_push (ma_ci (.ofNat 9)) 7)) (mt_none))))
set_option maxRecDepth 100000 in
theorem smt65_3 (k : Nat) : ∀ f, mt65_3 k = some f → mo_Sim 65 k f := mt_leaf (ms_i2 (e := (.imul, 8, 0, 0, 0)) rfl (fun _ _ _ => rfl) hf_mul : mo_Sim 65 7 (ma_i2 ma_fmul 7 8)) (mt_leaf (ms_ild (e := (.iload_n 2, 9, 0, 0, 0)) rfl (fun _ _ _ => rfl) : mo_Sim 65 8 (ma_load 0 2 9)) (mt_leaf (ms_iadd (e := (.iadd, 10, 0, 0, 0)) rfl (fun _ _ _ => rfl) : mo_Sim 65 9 (ma_iadd 9 10)) (mt_leaf (ms_pushi (e := (.bipush 9, 12, 0, 0, 0)) rfl (fun _ _ _ => rfl) (by decide) : mo_Sim 65 10 (ma_push (ma_ci (.ofNat 9)) 12)) (mt_none))))
set_option maxRecDepth 100000 in
theorem smt65_1 (k : Nat) : ∀ f, mt65_1 k = some f → mo_Sim 65 k f := mt_node (smt65_2 k) (smt65_3 k)
set_option maxRecDepth 100000 in
theorem smt65_5 (k : Nat) : ∀ f, mt65_5 k = some f → mo_Sim 65 k f := mt_leaf (ms_i2 (e := (.imul, 13, 0, 0, 0)) rfl (fun _ _ _ => rfl) hf_mul : mo_Sim 65 12 (ma_i2 ma_fmul 12 13)) (mt_leaf (ms_ild (e := (.iload_n 3, 14, 0, 0, 0)) rfl (fun _ _ _ => rfl) : mo_Sim 65 13 (ma_load 0 3 14)) (mt_leaf (ms_iadd (e := (.iadd, 15, 0, 0, 0)) rfl (fun _ _ _ => rfl) : mo_Sim 65 14 (ma_iadd 14 15)) (mt_leaf (ms_d2 (e := (.dup2, 16, 0, 0, 0)) rfl (fun _ _ _ => rfl) : mo_Sim 65 15 (ma_d2 16)) (mt_none))))
set_option maxRecDepth 100000 in
theorem smt65_7 (k : Nat) : ∀ f, mt65_7 k = some f → mo_Sim 65 k f := mt_leaf (ms_iald (e := (.iaload, 17, 0, 0, 0)) rfl (fun _ _ _ => rfl) : mo_Sim 65 16 (ma_iald 16 17)) (mt_leaf (ms_ild (e := (.iload 4, 19, 0, 0, 0)) rfl (fun _ _ _ => rfl) : mo_Sim 65 17 (ma_load 0 4 19)) (mt_none))
set_option maxRecDepth 100000 in
theorem smt65_8 (k : Nat) : ∀ f, mt65_8 k = some f → mo_Sim 65 k f := mt_leaf (ms_iand (e := (.iand, 20, 0, 0, 0)) rfl (fun _ _ _ => rfl) : mo_Sim 65 19 (ma_iand 19 20)) (mt_leaf (ms_iast (e := (.iastore, 21, 0, 0, 0)) rfl rfl (fun _ _ _ => rfl) : mo_Sim 65 20 (ma_ast 13 0 20 21)) (mt_leaf (ms_retv (e := (.return_, 22, 0, 0, 0)) rfl rfl (fun _ _ _ => rfl) : mo_Sim 65 21 (ma_retv)) (mt_none)))
set_option maxRecDepth 100000 in
theorem smt65_6 (k : Nat) : ∀ f, mt65_6 k = some f → mo_Sim 65 k f := mt_node (smt65_7 k) (smt65_8 k)
set_option maxRecDepth 100000 in
theorem smt65_4 (k : Nat) : ∀ f, mt65_4 k = some f → mo_Sim 65 k f := mt_node (smt65_5 k) (smt65_6 k)
set_option maxRecDepth 100000 in
theorem smt65_0 (k : Nat) : ∀ f, mt65_0 k = some f → mo_Sim 65 k f := mt_node (smt65_1 k) (smt65_4 k)
set_option maxRecDepth 100000 in
theorem smt66_5 (k : Nat) : ∀ f, mt66_5 k = some f → mo_Sim 66 k f := mt_leaf (ms_ald (e := (.aload_n 2, 1, 0, 0, 0)) rfl (fun _ _ _ => rfl) : mo_Sim 66 0 (ma_lda 2 1)) (mt_leaf (ms_ald (e := (.aload_n 3, 2, 0, 0, 0)) rfl (fun _ _ _ => rfl) : mo_Sim 66 1 (ma_lda 3 2)) (mt_leaf (ms_invV (p := 1) (e := (.invokevirtual 47, 5, 37, 0, 824)) rfl rfl (fun _ _ _ => rfl) rfl rfl rfl (by decide) : mo_Sim 66 2 (ma_inv 37 2 2 4 5)) (mt_none)))
set_option maxRecDepth 100000 in
theorem smt66_6 (k : Nat) : ∀ f, mt66_6 k = some f → mo_Sim 66 k f := mt_leaf (ms_if0 (e := (.ifCond .eq 4, 8, 9, 0, 0)) rfl (fun _ _ _ => rfl) : mo_Sim 66 5 (ma_if0 .eq 9 5 8)) (mt_leaf (ms_retv (e := (.return_, 9, 0, 0, 0)) rfl rfl (fun _ _ _ => rfl) : mo_Sim 66 8 (ma_retv)) (mt_leaf (ms_ald (e := (.aload_n 2, 10, 0, 0, 0)) rfl (fun _ _ _ => rfl) : mo_Sim 66 9 (ma_lda 2 10)) (mt_none)))
set_option maxRecDepth 100000 in
theorem smt66_4 (k : Nat) : ∀ f, mt66_4 k = some f → mo_Sim 66 k f := mt_node (smt66_5 k) (smt66_6 k)
set_option maxRecDepth 100000 in
theorem smt66_8 (k : Nat) : ∀ f, mt66_8 k = some f → mo_Sim 66 k f := mt_leaf (ms_ald (e := (.aload_n 1, 11, 0, 0, 0)) rfl (fun _ _ _ => rfl) : mo_Sim 66 10 (ma_lda 1 11)) (mt_leaf (ms_getf (e := (.getfield 53, 14, 2, 0, 314)) rfl (fun _ _ _ => rfl) : mo_Sim 66 11 (ma_getf 2 0 14)) (mt_leaf (ms_pushi (e := (.iconst 3, 15, 0, 0, 0)) rfl (fun _ _ _ => rfl) (by decide) : mo_Sim 66 14 (ma_push (ma_ci (.ofNat 3)) 15)) (mt_none)))
set_option maxRecDepth 100000 in
theorem smt66_9 (k : Nat) : ∀ f, mt66_9 k = some f → mo_Sim 66 k f := mt_leaf (ms_invV (p := 2) (e := (.invokevirtual 58, 18, 41, 0, 828)) rfl rfl (fun _ _ _ => rfl) rfl rfl rfl (by decide) : mo_Sim 66 15 (ma_inv 41 3 3 4 18)) (mt_leaf (ms_ist (e := (.istore 4, 20, 0, 0, 0)) rfl (fun _ _ _ => rfl) : mo_Sim 66 18 (ma_stor 0 4 20)) (mt_leaf (ms_ald (e := (.aload_n 2, 21, 0, 0, 0)) rfl (fun _ _ _ => rfl) : mo_Sim 66 20 (ma_lda 2 21)) (mt_none)))
set_option maxRecDepth 100000 in
theorem smt66_7 (k : Nat) : ∀ f, mt66_7 k = some f → mo_Sim 66 k f := mt_node (smt66_8 k) (smt66_9 k)
set_option maxRecDepth 100000 in
theorem smt66_3 (k : Nat) : ∀ f, mt66_3 k = some f → mo_Sim 66 k f := mt_node (smt66_4 k) (smt66_7 k)
set_option maxRecDepth 100000 in
theorem smt66_12 (k : Nat) : ∀ f, mt66_12 k = some f → mo_Sim 66 k f := mt_leaf (ms_ald (e := (.aload_n 1, 22, 0, 0, 0)) rfl (fun _ _ _ => rfl) : mo_Sim 66 21 (ma_lda 1 22)) (mt_leaf (ms_getf (e := (.getfield 53, 25, 2, 0, 314)) rfl (fun _ _ _ => rfl) : mo_Sim 66 22 (ma_getf 2 0 25)) (mt_leaf (ms_pushi (e := (.iconst 2, 26, 0, 0, 0)) rfl (fun _ _ _ => rfl) (by decide) : mo_Sim 66 25 (ma_push (ma_ci (.ofNat 2)) 26)) (mt_none)))
set_option maxRecDepth 100000 in
theorem smt66_13 (k : Nat) : ∀ f, mt66_13 k = some f → mo_Sim 66 k f := mt_leaf (ms_invV (p := 2) (e := (.invokevirtual 58, 29, 41, 0, 828)) rfl rfl (fun _ _ _ => rfl) rfl rfl rfl (by decide) : mo_Sim 66 26 (ma_inv 41 3 3 4 29)) (mt_leaf (ms_ist (e := (.istore 5, 31, 0, 0, 0)) rfl (fun _ _ _ => rfl) : mo_Sim 66 29 (ma_stor 0 5 31)) (mt_leaf (ms_pushi (e := (.iconst 0, 32, 0, 0, 0)) rfl (fun _ _ _ => rfl) (by decide) : mo_Sim 66 31 (ma_push (ma_ci (.ofNat 0)) 32)) (mt_none)))
set_option maxRecDepth 100000 in
theorem smt66_11 (k : Nat) : ∀ f, mt66_11 k = some f → mo_Sim 66 k f := mt_node (smt66_12 k) (smt66_13 k)
set_option maxRecDepth 100000 in
theorem smt66_15 (k : Nat) : ∀ f, mt66_15 k = some f → mo_Sim 66 k f := mt_leaf (ms_ist (e := (.istore 6, 34, 0, 0, 0)) rfl (fun _ _ _ => rfl) : mo_Sim 66 32 (ma_stor 0 6 34)) (mt_leaf (ms_ild (e := (.iload 6, 36, 0, 0, 0)) rfl (fun _ _ _ => rfl) : mo_Sim 66 34 (ma_load 0 6 36)) (mt_leaf (ms_ild (e := (.iload 4, 38, 0, 0, 0)) rfl (fun _ _ _ => rfl) : mo_Sim 66 36 (ma_load 0 4 38)) (mt_none)))
set_option maxRecDepth 100000 in
theorem smt66_16 (k : Nat) : ∀ f, mt66_16 k = some f → mo_Sim 66 k f := mt_leaf (ms_if2 (e := (.if_icmp .ge 150, 41, 188, 0, 0)) rfl (fun _ _ _ => rfl) : mo_Sim 66 38 (ma_if2 .ge 188 38 41)) (mt_leaf (ms_pushi (e := (.iconst 0, 42, 0, 0, 0)) rfl (fun _ _ _ => rfl) (by decide) : mo_Sim 66 41 (ma_push (ma_ci (.ofNat 0)) 42)) (mt_leaf (ms_ist (e := (.istore 7, 44, 0, 0, 0)) rfl (fun _ _ _ => rfl) : mo_Sim 66 42 (ma_stor 0 7 44)) (mt_none)))
set_option maxRecDepth 100000 in
theorem smt66_14 (k : Nat) : ∀ f, mt66_14 k = some f → mo_Sim 66 k f := mt_node (smt66_15 k) (smt66_16 k)
set_option maxRecDepth 100000 in
theorem smt66_10 (k : Nat) : ∀ f, mt66_10 k = some f → mo_Sim 66 k f := mt_node (smt66_11 k) (smt66_14 k)
set_option maxRecDepth 100000 in
theorem smt66_2 (k : Nat) : ∀ f, mt66_2 k = some f → mo_Sim 66 k f := mt_node (smt66_3 k) (smt66_10 k)
set_option maxRecDepth 100000 in
theorem smt66_20 (k : Nat) : ∀ f, mt66_20 k = some f → mo_Sim 66 k f := mt_leaf (ms_ild (e := (.iload 7, 46, 0, 0, 0)) rfl (fun _ _ _ => rfl) : mo_Sim 66 44 (ma_load 0 7 46)) (mt_leaf (ms_ild (e := (.iload 5, 48, 0, 0, 0)) rfl (fun _ _ _ => rfl) : mo_Sim 66 46 (ma_load 0 5 48)) (mt_leaf (ms_if2 (e := (.if_icmp .ge 134, 51, 182, 0, 0)) rfl (fun _ _ _ => rfl) : mo_Sim 66 48 (ma_if2 .ge 182 48 51)) (mt_none)))
set_option maxRecDepth 100000 in
theorem smt66_21 (k : Nat) : ∀ f, mt66_21 k = some f → mo_Sim 66 k f := mt_leaf (ms_pushi (e := (.iconst 0, 52, 0, 0, 0)) rfl (fun _ _ _ => rfl) (by decide) : mo_Sim 66 51 (ma_push (ma_ci (.ofNat 0)) 52)) (mt_leaf (ms_ist (e := (.istore 8, 54, 0, 0, 0)) rfl (fun _ _ _ => rfl) : mo_Sim 66 52 (ma_stor 0 8 54)) (mt_leaf (ms_ild (e := (.iload 8, 56, 0, 0, 0)) rfl (fun _ _ _ => rfl) : mo_Sim 66 54 (ma_load 0 8 56)) (mt_none)))
set_option maxRecDepth 100000 in
theorem smt66_19 (k : Nat) : ∀ f, mt66_19 k = some f → mo_Sim 66 k f := mt_node (smt66_20 k) (smt66_21 k)
set_option maxRecDepth 100000 in
theorem smt66_23 (k : Nat) : ∀ f, mt66_23 k = some f → mo_Sim 66 k f := mt_leaf (ms_ald (e := (.aload_n 2, 57, 0, 0, 0)) rfl (fun _ _ _ => rfl) : mo_Sim 66 56 (ma_lda 2 57)) (mt_leaf (ms_getf (e := (.getfield 61, 60, 4, 3, 366)) rfl (fun _ _ _ => rfl) : mo_Sim 66 57 (ma_getf 4 3 60)) (mt_leaf (ms_if2 (e := (.if_icmp .ge 116, 63, 176, 0, 0)) rfl (fun _ _ _ => rfl) : mo_Sim 66 60 (ma_if2 .ge 176 60 63)) (mt_none)))
set_option maxRecDepth 100000 in
theorem smt66_24 (k : Nat) : ∀ f, mt66_24 k = some f → mo_Sim 66 k f := mt_leaf (ms_ald (e := (.aload_n 1, 64, 0, 0, 0)) rfl (fun _ _ _ => rfl) : mo_Sim 66 63 (ma_lda 1 64)) (mt_leaf (ms_ald (e := (.aload_n 3, 65, 0, 0, 0)) rfl (fun _ _ _ => rfl) : mo_Sim 66 64 (ma_lda 3 65)) (mt_leaf (ms_getf (e := (.getfield 64, 68, 1, 2, 121)) rfl (fun _ _ _ => rfl) : mo_Sim 66 65 (ma_getf 1 2 68)) (mt_none)))
set_option maxRecDepth 100000 in
theorem smt66_22 (k : Nat) : ∀ f, mt66_22 k = some f → mo_Sim 66 k f := mt_node (smt66_23 k) (smt66_24 k)
set_option maxRecDepth 100000 in
theorem smt66_18 (k : Nat) : ∀ f, mt66_18 k = some f → mo_Sim 66 k f := mt_node (smt66_19 k) (smt66_22 k)
set_option maxRecDepth 100000 in
theorem smt66_27 (k : Nat) : ∀ f, mt66_27 k = some f → mo_Sim 66 k f := mt_leaf (ms_ald (e := (.aload_n 2, 69, 0, 0, 0)) rfl (fun _ _ _ => rfl) : mo_Sim 66 68 (ma_lda 2 69)) (mt_leaf (ms_getf (e := (.getfield 69, 72, 4, 4, 369)) rfl (fun _ _ _ => rfl) : mo_Sim 66 69 (ma_getf 4 4 72)) (mt_leaf (ms_ild (e := (.iload 6, 74, 0, 0, 0)) rfl (fun _ _ _ => rfl) : mo_Sim 66 72 (ma_load 0 6 74)) (mt_none)))
set_option maxRecDepth 100000 in
theorem smt66_28 (k : Nat) : ∀ f, mt66_28 k = some f → mo_Sim 66 k f := mt_leaf (ms_iald (e := (.iaload, 75, 0, 0, 0)) rfl (fun _ _ _ => rfl) : mo_Sim 66 74 (ma_iald 74 75)) (mt_leaf (ms_ald (e := (.aload_n 2, 76, 0, 0, 0)) rfl (fun _ _ _ => rfl) : mo_Sim 66 75 (ma_lda 2 76)) (mt_leaf (ms_getf (e := (.getfield 69, 79, 4, 4, 369)) rfl (fun _ _ _ => rfl) : mo_Sim 66 76 (ma_getf 4 4 79)) (mt_none)))
set_option maxRecDepth 100000 in
theorem smt66_26 (k : Nat) : ∀ f, mt66_26 k = some f → mo_Sim 66 k f := mt_node (smt66_27 k) (smt66_28 k)
set_option maxRecDepth 100000 in
theorem smt66_30 (k : Nat) : ∀ f, mt66_30 k = some f → mo_Sim 66 k f := mt_leaf (ms_ild (e := (.iload 7, 81, 0, 0, 0)) rfl (fun _ _ _ => rfl) : mo_Sim 66 79 (ma_load 0 7 81)) (mt_leaf (ms_iald (e := (.iaload, 82, 0, 0, 0)) rfl (fun _ _ _ => rfl) : mo_Sim 66 81 (ma_iald 81 82)) (mt_leaf (ms_ald (e := (.aload_n 2, 83, 0, 0, 0)) rfl (fun _ _ _ => rfl) : mo_Sim 66 82 (ma_lda 2 83)) (mt_none)))
set_option maxRecDepth 100000 in
theorem smt66_31 (k : Nat) : ∀ f, mt66_31 k = some f → mo_Sim 66 k f := mt_leaf (ms_getf (e := (.getfield 69, 86, 4, 4, 369)) rfl (fun _ _ _ => rfl) : mo_Sim 66 83 (ma_getf 4 4 86)) (mt_leaf (ms_ild (e := (.iload 8, 88, 0, 0, 0)) rfl (fun _ _ _ => rfl) : mo_Sim 66 86 (ma_load 0 8 88)) (mt_leaf (ms_iald (e := (.iaload, 89, 0, 0, 0)) rfl (fun _ _ _ => rfl) : mo_Sim 66 88 (ma_iald 88 89)) (mt_leaf (ms_invV (p := 4) (e := (.invokevirtual 72, 92, 24, 0, 829)) rfl rfl (fun _ _ _ => rfl) rfl rfl rfl (by decide) : mo_Sim 66 89 (ma_inv 24 5 5 2 92)) (mt_none))))
set_option maxRecDepth 100000 in
theorem smt66_29 (k : Nat) : ∀ f, mt66_29 k = some f → mo_Sim 66 k f := mt_node (smt66_30 k) (smt66_31 k)
set_option maxRecDepth 100000 in
theorem smt66_25 (k : Nat) : ∀ f, mt66_25 k = some f → mo_Sim 66 k f := mt_node (smt66_26 k) (smt66_29 k)
set_option maxRecDepth 100000 in
theorem smt66_17 (k : Nat) : ∀ f, mt66_17 k = some f → mo_Sim 66 k f := mt_node (smt66_18 k) (smt66_25 k)
set_option maxRecDepth 100000 in
theorem smt66_1 (k : Nat) : ∀ f, mt66_1 k = some f → mo_Sim 66 k f := mt_node (smt66_2 k) (smt66_17 k)
set_option maxRecDepth 100000 in
theorem smt66_36 (k : Nat) : ∀ f, mt66_36 k = some f → mo_Sim 66 k f := mt_leaf (ms_ist (e := (.istore 9, 94, 0, 0, 0)) rfl (fun _ _ _ => rfl) : mo_Sim 66 92 (ma_stor 0 9 94)) (mt_leaf (ms_ald (e := (.aload_n 1, 95, 0, 0, 0)) rfl (fun _ _ _ => rfl) : mo_Sim 66 94 (ma_lda 1 95)) (mt_leaf (ms_ald (e := (.aload_n 3, 96, 0, 0, 0)) rfl (fun _ _ _ => rfl) : mo_Sim 66 95 (ma_lda 3 96)) (mt_none)))
set_option maxRecDepth 100000 in
theorem smt66_37 (k : Nat) : ∀ f, mt66_37 k = some f → mo_Sim 66 k f := mt_leaf (ms_getf (e := (.getfield 76, 99, 1, 3, 128)) rfl (fun _ _ _ => rfl) : mo_Sim 66 96 (ma_getf 1 3 99)) (mt_leaf (ms_ald (e := (.aload_n 2, 100, 0, 0, 0)) rfl (fun _ _ _ => rfl) : mo_Sim 66 99 (ma_lda 2 100)) (mt_leaf (ms_getf (e := (.getfield 69, 103, 4, 4, 369)) rfl (fun _ _ _ => rfl) : mo_Sim 66 100 (ma_getf 4 4 103)) (mt_none)))
set_option maxRecDepth 100000 in
theorem smt66_35 (k : Nat) : ∀ f, mt66_35 k = some f → mo_Sim 66 k f := mt_node (smt66_36 k) (smt66_37 k)
set_option maxRecDepth 100000 in
theorem smt66_39 (k : Nat) : ∀ f, mt66_39 k = some f → mo_Sim 66 k f := mt_leaf (ms_ild (e := (.iload 6, 105, 0, 0, 0)) rfl (fun _ _ _ => rfl) : mo_Sim 66 103 (ma_load 0 6 105)) (mt_leaf (ms_iald (e := (.iaload, 106, 0, 0, 0)) rfl (fun _ _ _ => rfl) : mo_Sim 66 105 (ma_iald 105 106)) (mt_leaf (ms_ald (e := (.aload_n 2, 107, 0, 0, 0)) rfl (fun _ _ _ => rfl) : mo_Sim 66 106 (ma_lda 2 107)) (mt_none)))
set_option maxRecDepth 100000 in
theorem smt66_40 (k : Nat) : ∀ f, mt66_40 k = some f → mo_Sim 66 k f := mt_leaf (ms_getf (e := (.getfield 69, 110, 4, 4, 369)) rfl (fun _ _ _ => rfl) : mo_Sim 66 107 (ma_getf 4 4 110)) (mt_leaf (ms_ild (e := (.iload 7, 112, 0, 0, 0)) rfl (fun _ _ _ => rfl) : mo_Sim 66 110 (ma_load 0 7 112)) (mt_leaf (ms_iald (e := (.iaload, 113, 0, 0, 0)) rfl (fun _ _ _ => rfl) : mo_Sim 66 112 (ma_iald 112 113)) (mt_none)))
set_option maxRecDepth 100000 in
theorem smt66_38 (k : Nat) : ∀ f, mt66_38 k = some f → mo_Sim 66 k f := mt_node (smt66_39 k) (smt66_40 k)
set_option maxRecDepth 100000 in
theorem smt66_34 (k : Nat) : ∀ f, mt66_34 k = some f → mo_Sim 66 k f := mt_node (smt66_35 k) (smt66_38 k)
set_option maxRecDepth 100000 in
theorem smt66_43 (k : Nat) : ∀ f, mt66_43 k = some f → mo_Sim 66 k f := mt_leaf (ms_ald (e := (.aload_n 2, 114, 0, 0, 0)) rfl (fun _ _ _ => rfl) : mo_Sim 66 113 (ma_lda 2 114)) (mt_leaf (ms_getf (e := (.getfield 69, 117, 4, 4, 369)) rfl (fun _ _ _ => rfl) : mo_Sim 66 114 (ma_getf 4 4 117)) (mt_leaf (ms_ild (e := (.iload 8, 119, 0, 0, 0)) rfl (fun _ _ _ => rfl) : mo_Sim 66 117 (ma_load 0 8 119)) (mt_none)))
set_option maxRecDepth 100000 in
theorem smt66_44 (k : Nat) : ∀ f, mt66_44 k = some f → mo_Sim 66 k f := mt_leaf (ms_iald (e := (.iaload, 120, 0, 0, 0)) rfl (fun _ _ _ => rfl) : mo_Sim 66 119 (ma_iald 119 120)) (mt_leaf (ms_invV (p := 4) (e := (.invokevirtual 72, 123, 24, 0, 829)) rfl rfl (fun _ _ _ => rfl) rfl rfl rfl (by decide) : mo_Sim 66 120 (ma_inv 24 5 5 2 123)) (mt_leaf (ms_ist (e := (.istore 10, 125, 0, 0, 0)) rfl (fun _ _ _ => rfl) : mo_Sim 66 123 (ma_stor 0 10 125)) (mt_none)))
set_option maxRecDepth 100000 in
theorem smt66_42 (k : Nat) : ∀ f, mt66_42 k = some f → mo_Sim 66 k f := mt_node (smt66_43 k) (smt66_44 k)
set_option maxRecDepth 100000 in
theorem smt66_46 (k : Nat) : ∀ f, mt66_46 k = some f → mo_Sim 66 k f := mt_leaf (ms_ald (e := (.aload_n 1, 126, 0, 0, 0)) rfl (fun _ _ _ => rfl) : mo_Sim 66 125 (ma_lda 1 126)) (mt_leaf (ms_ald (e := (.aload_n 3, 127, 0, 0, 0)) rfl (fun _ _ _ => rfl) : mo_Sim 66 126 (ma_lda 3 127)) (mt_leaf (ms_getf (e := (.getfield 79, 130, 1, 4, 135)) rfl (fun _ _ _ => rfl) : mo_Sim 66 127 (ma_getf 1 4 130)) (mt_none)))
set_option maxRecDepth 100000 in
theorem smt66_47 (k : Nat) : ∀ f, mt66_47 k = some f → mo_Sim 66 k f := mt_leaf (ms_ald (e := (.aload_n 2, 131, 0, 0, 0)) rfl (fun _ _ _ => rfl) : mo_Sim 66 130 (ma_lda 2 131)) (mt_leaf (ms_getf (e := (.getfield 69, 134, 4, 4, 369)) rfl (fun _ _ _ => rfl) : mo_Sim 66 131 (ma_getf 4 4 134)) (mt_leaf (ms_ild (e := (.iload 6, 136, 0, 0, 0)) rfl (fun _ _ _ => rfl) : mo_Sim 66 134 (ma_load 0 6 136)) (mt_none)))
set_option maxRecDepth 100000 in
theorem smt66_45 (k : Nat) : ∀ f, mt66_45 k = some f → mo_Sim 66 k f := mt_node (smt66_46 k) (smt66_47 k)
set_option maxRecDepth 100000 in
theorem smt66_41 (k : Nat) : ∀ f, mt66_41 k = some f → mo_Sim 66 k f := mt_node (smt66_42 k) (smt66_45 k)
set_option maxRecDepth 100000 in
theorem smt66_33 (k : Nat) : ∀ f, mt66_33 k = some f → mo_Sim 66 k f := mt_node (smt66_34 k) (smt66_41 k)
set_option maxRecDepth 100000 in
theorem smt66_51 (k : Nat) : ∀ f, mt66_51 k = some f → mo_Sim 66 k f := mt_leaf (ms_iald (e := (.iaload, 137, 0, 0, 0)) rfl (fun _ _ _ => rfl) : mo_Sim 66 136 (ma_iald 136 137)) (mt_leaf (ms_ald (e := (.aload_n 2, 138, 0, 0, 0)) rfl (fun _ _ _ => rfl) : mo_Sim 66 137 (ma_lda 2 138)) (mt_leaf (ms_getf (e := (.getfield 69, 141, 4, 4, 369)) rfl (fun _ _ _ => rfl) : mo_Sim 66 138 (ma_getf 4 4 141)) (mt_none)))
set_option maxRecDepth 100000 in
theorem smt66_52 (k : Nat) : ∀ f, mt66_52 k = some f → mo_Sim 66 k f := mt_leaf (ms_ild (e := (.iload 7, 143, 0, 0, 0)) rfl (fun _ _ _ => rfl) : mo_Sim 66 141 (ma_load 0 7 143)) (mt_leaf (ms_iald (e := (.iaload, 144, 0, 0, 0)) rfl (fun _ _ _ => rfl) : mo_Sim 66 143 (ma_iald 143 144)) (mt_leaf (ms_ald (e := (.aload_n 2, 145, 0, 0, 0)) rfl (fun _ _ _ => rfl) : mo_Sim 66 144 (ma_lda 2 145)) (mt_none)))
set_option maxRecDepth 100000 in
theorem smt66_50 (k : Nat) : ∀ f, mt66_50 k = some f → mo_Sim 66 k f := mt_node (smt66_51 k) (smt66_52 k)
set_option maxRecDepth 100000 in
theorem smt66_54 (k : Nat) : ∀ f, mt66_54 k = some f → mo_Sim 66 k f := mt_leaf (ms_getf (e := (.getfield 69, 148, 4, 4, 369)) rfl (fun _ _ _ => rfl) : mo_Sim 66 145 (ma_getf 4 4 148)) (mt_leaf (ms_ild (e := (.iload 8, 150, 0, 0, 0)) rfl (fun _ _ _ => rfl) : mo_Sim 66 148 (ma_load 0 8 150)) (mt_leaf (ms_iald (e := (.iaload, 151, 0, 0, 0)) rfl (fun _ _ _ => rfl) : mo_Sim 66 150 (ma_iald 150 151)) (mt_none)))
set_option maxRecDepth 100000 in
theorem smt66_55 (k : Nat) : ∀ f, mt66_55 k = some f → mo_Sim 66 k f := mt_leaf (ms_invV (p := 4) (e := (.invokevirtual 72, 154, 24, 0, 829)) rfl rfl (fun _ _ _ => rfl) rfl rfl rfl (by decide) : mo_Sim 66 151 (ma_inv 24 5 5 2 154)) (mt_leaf (ms_ist (e := (.istore 11, 156, 0, 0, 0)) rfl (fun _ _ _ => rfl) : mo_Sim 66 154 (ma_stor 0 11 156)) (mt_leaf (ms_ald (e := (.aload_n 0, 157, 0, 0, 0)) rfl (fun _ _ _ => rfl) : mo_Sim 66 156 (ma_lda 0 157)) (mt_none)))
set_option maxRecDepth 100000 in
theorem smt66_53 (k : Nat) : ∀ f, mt66_53 k = some f → mo_Sim 66 k f := mt_node (smt66_54 k) (smt66_55 k)
set_option maxRecDepth 100000 in
theorem smt66_49 (k : Nat) : ∀ f, mt66_49 k = some f → mo_Sim 66 k f := mt_node (smt66_50 k) (smt66_53 k)
set_option maxRecDepth 100000 in
theorem smt66_58 (k : Nat) : ∀ f, mt66_58 k = some f → mo_Sim 66 k f := mt_leaf (ms_ild (e := (.iload 9, 159, 0, 0, 0)) rfl (fun _ _ _ => rfl) : mo_Sim 66 157 (ma_load 0 9 159)) (mt_leaf (ms_ild (e := (.iload 10, 161, 0, 0, 0)) rfl (fun _ _ _ => rfl) : mo_Sim 66 159 (ma_load 0 10 161)) (mt_leaf (ms_ild (e := (.iload 11, 163, 0, 0, 0)) rfl (fun _ _ _ => rfl) : mo_Sim 66 161 (ma_load 0 11 163)) (mt_none)))
set_option maxRecDepth 100000 in
theorem smt66_59 (k : Nat) : ∀ f, mt66_59 k = some f → mo_Sim 66 k f := mt_leaf (ms_ald (e := (.aload_n 2, 164, 0, 0, 0)) rfl (fun _ _ _ => rfl) : mo_Sim 66 163 (ma_lda 2 164)) (mt_leaf (ms_getf (e := (.getfield 82, 167, 4, 2, 363)) rfl (fun _ _ _ => rfl) : mo_Sim 66 164 (ma_getf 4 2 167)) (mt_leaf (ms_invV (p := 4) (e := (.invokevirtual 85, 170, 65, 0, 833)) rfl rfl (fun _ _ _ => rfl) rfl rfl rfl (by decide) : mo_Sim 66 167 (ma_inv 65 5 5 8 170)) (mt_none)))
set_option maxRecDepth 100000 in
theorem smt66_57 (k : Nat) : ∀ f, mt66_57 k = some f → mo_Sim 66 k f := mt_node (smt66_58 k) (smt66_59 k)
set_option maxRecDepth 100000 in
theorem smt66_61 (k : Nat) : ∀ f, mt66_61 k = some f → mo_Sim 66 k f := mt_leaf (ms_iinc (e := (.iinc 8 1, 173, 0, 0, 0)) rfl (fun _ _ _ => rfl) (by decide) : mo_Sim 66 170 (ma_iinc 8 (.ofNat 1) 170 173)) (mt_leaf (ms_goto (e := (.goto (-119), 176, 54, 0, 0)) rfl (fun _ _ _ => rfl) : mo_Sim 66 173 (ma_goto 54)) (mt_leaf (ms_iinc (e := (.iinc 7 1, 179, 0, 0, 0)) rfl (fun _ _ _ => rfl) (by decide) : mo_Sim 66 176 (ma_iinc 7 (.ofNat 1) 176 179)) (mt_none)))
set_option maxRecDepth 100000 in
theorem smt66_62 (k : Nat) : ∀ f, mt66_62 k = some f → mo_Sim 66 k f := mt_leaf (ms_goto (e := (.goto (-135), 182, 44, 0, 0)) rfl (fun _ _ _ => rfl) : mo_Sim 66 179 (ma_goto 44)) (mt_leaf (ms_iinc (e := (.iinc 6 1, 185, 0, 0, 0)) rfl (fun _ _ _ => rfl) (by decide) : mo_Sim 66 182 (ma_iinc 6 (.ofNat 1) 182 185)) (mt_leaf (ms_goto (e := (.goto (-151), 188, 34, 0, 0)) rfl (fun _ _ _ => rfl) : mo_Sim 66 185 (ma_goto 34)) (mt_leaf (ms_retv (e := (.return_, 189, 0, 0, 0)) rfl rfl (fun _ _ _ => rfl) : mo_Sim 66 188 (ma_retv)) (mt_none))))
set_option maxRecDepth 100000 in
theorem smt66_60 (k : Nat) : ∀ f, mt66_60 k = some f → mo_Sim 66 k f := mt_node (smt66_61 k) (smt66_62 k)
set_option maxRecDepth 100000 in
theorem smt66_56 (k : Nat) : ∀ f, mt66_56 k = some f → mo_Sim 66 k f := mt_node (smt66_57 k) (smt66_60 k)
set_option maxRecDepth 100000 in
theorem smt66_48 (k : Nat) : ∀ f, mt66_48 k = some f → mo_Sim 66 k f := mt_node (smt66_49 k) (smt66_56 k)
set_option maxRecDepth 100000 in
theorem smt66_32 (k : Nat) : ∀ f, mt66_32 k = some f → mo_Sim 66 k f := mt_node (smt66_33 k) (smt66_48 k)
set_option maxRecDepth 100000 in
theorem smt66_0 (k : Nat) : ∀ f, mt66_0 k = some f → mo_Sim 66 k f := mt_node (smt66_1 k) (smt66_32 k)
set_option maxRecDepth 100000 in
theorem smt67_5 (k : Nat) : ∀ f, mt67_5 k = some f → mo_Sim 67 k f := mt_leaf (ms_pushi (e := (.iconst 0, 1, 0, 0, 0)) rfl (fun _ _ _ => rfl) (by decide) : mo_Sim 67 0 (ma_push (ma_ci (.ofNat 0)) 1)) (mt_leaf (ms_ist (e := (.istore_n 1, 2, 0, 0, 0)) rfl (fun _ _ _ => rfl) : mo_Sim 67 1 (ma_stor 0 1 2)) (mt_none))
set_option maxRecDepth 100000 in
theorem smt67_6 (k : Nat) : ∀ f, mt67_6 k = some f → mo_Sim 67 k f := mt_leaf (ms_pushi (e := (.iconst 0, 3, 0, 0, 0)) rfl (fun _ _ _ => rfl) (by decide) : mo_Sim 67 2 (ma_push (ma_ci (.ofNat 0)) 3)) (mt_leaf (ms_ist (e := (.istore_n 2, 4, 0, 0, 0)) rfl (fun _ _ _ => rfl) : mo_Sim 67 3 (ma_stor 0 2 4)) (mt_leaf (ms_ild (e := (.iload_n 2, 5, 0, 0, 0)) rfl (fun _ _ _ => rfl) : mo_Sim 67 4 (ma_load 0 2 5)) (mt_none)))
set_option maxRecDepth 100000 in
theorem smt67_4 (k : Nat) : ∀ f, mt67_4 k = some f → mo_Sim 67 k f := mt_node (smt67_5 k) (smt67_6 k)
set_option maxRecDepth 100000 in
theorem smt67_8 (k : Nat) : ∀ f, mt67_8 k = some f → mo_Sim 67 k f := mt_leaf (ms_ald (e := (.aload_n 0, 6, 0, 0, 0)) rfl (fun _ _ _ => rfl) : mo_Sim 67 5 (ma_lda 0 6)) (mt_leaf (ms_getf (e := (.getfield 35, 9, 8, 6, 289)) rfl (fun _ _ _ => rfl) : mo_Sim 67 6 (ma_getf 8 6 9)) (mt_leaf (ms_if2 (e := (.if_icmp .ge 144, 12, 153, 0, 0)) rfl (fun _ _ _ => rfl) : mo_Sim 67 9 (ma_if2 .ge 153 9 12)) (mt_none)))
set_option maxRecDepth 100000 in
theorem smt67_9 (k : Nat) : ∀ f, mt67_9 k = some f → mo_Sim 67 k f := mt_leaf (ms_ald (e := (.aload_n 0, 13, 0, 0, 0)) rfl (fun _ _ _ => rfl) : mo_Sim 67 12 (ma_lda 0 13)) (mt_leaf (ms_getf (e := (.getfield 22, 16, 8, 4, 287)) rfl (fun _ _ _ => rfl) : mo_Sim 67 13 (ma_getf 8 4 16)) (mt_leaf (ms_ild (e := (.iload_n 2, 17, 0, 0, 0)) rfl (fun _ _ _ => rfl) : mo_Sim 67 16 (ma_load 0 2 17)) (mt_none)))
set_option maxRecDepth 100000 in
theorem smt67_7 (k : Nat) : ∀ f, mt67_7 k = some f → mo_Sim 67 k f := mt_node (smt67_8 k) (smt67_9 k)
set_option maxRecDepth 100000 in
theorem smt67_3 (k : Nat) : ∀ f, mt67_3 k = some f → mo_Sim 67 k f := mt_node (smt67_4 k) (smt67_7 k)
set_option maxRecDepth 100000 in
theorem smt67_12 (k : Nat) : ∀ f, mt67_12 k = some f → mo_Sim 67 k f := mt_leaf (ms_ild (e := (.iload_n 1, 18, 0, 0, 0)) rfl (fun _ _ _ => rfl) : mo_Sim 67 17 (ma_load 0 1 18)) (mt_leaf (ms_iast (e := (.iastore, 19, 0, 0, 0)) rfl rfl (fun _ _ _ => rfl) : mo_Sim 67 18 (ma_ast 13 0 18 19)) (mt_leaf (ms_pushi (e := (.iconst 0, 20, 0, 0, 0)) rfl (fun _ _ _ => rfl) (by decide) : mo_Sim 67 19 (ma_push (ma_ci (.ofNat 0)) 20)) (mt_none)))
set_option maxRecDepth 100000 in
theorem smt67_13 (k : Nat) : ∀ f, mt67_13 k = some f → mo_Sim 67 k f := mt_leaf (ms_ist (e := (.istore_n 3, 21, 0, 0, 0)) rfl (fun _ _ _ => rfl) : mo_Sim 67 20 (ma_stor 0 3 21)) (mt_leaf (ms_ild (e := (.iload_n 3, 22, 0, 0, 0)) rfl (fun _ _ _ => rfl) : mo_Sim 67 21 (ma_load 0 3 22)) (mt_leaf (ms_ild (e := (.iload_n 2, 23, 0, 0, 0)) rfl (fun _ _ _ => rfl) : mo_Sim 67 22 (ma_load 0 2 23)) (mt_none)))
set_option maxRecDepth 100000 in
theorem smt67_11 (k : Nat) : ∀ f, mt67_11 k = some f → mo_Sim 67 k f := mt_node (smt67_12 k) (smt67_13 k)
set_option maxRecDepth 100000 in
theorem smt67_15 (k : Nat) : ∀ f, mt67_15 k = some f → mo_Sim 67 k f := mt_leaf (ms_if2 (e := (.if_icmp .gt 124, 26, 147, 0, 0)) rfl (fun _ _ _ => rfl) : mo_Sim 67 23 (ma_if2 .gt 147 23 26)) (mt_leaf (ms_pushi (e := (.iconst 0, 27, 0, 0, 0)) rfl (fun _ _ _ => rfl) (by decide) : mo_Sim 67 26 (ma_push (ma_ci (.ofNat 0)) 27)) (mt_leaf (ms_ist (e := (.istore 4, 29, 0, 0, 0)) rfl (fun _ _ _ => rfl) : mo_Sim 67 27 (ma_stor 0 4 29)) (mt_none)))
set_option maxRecDepth 100000 in
theorem smt67_16 (k : Nat) : ∀ f, mt67_16 k = some f → mo_Sim 67 k f := mt_leaf (ms_ild (e := (.iload 4, 31, 0, 0, 0)) rfl (fun _ _ _ => rfl) : mo_Sim 67 29 (ma_load 0 4 31)) (mt_leaf (ms_ild (e := (.iload_n 2, 32, 0, 0, 0)) rfl (fun _ _ _ => rfl) : mo_Sim 67 31 (ma_load 0 2 32)) (mt_leaf (ms_if2 (e := (.if_icmp .gt 109, 35, 141, 0, 0)) rfl (fun _ _ _ => rfl) : mo_Sim 67 32 (ma_if2 .gt 141 32 35)) (mt_none)))
set_option maxRecDepth 100000 in
theorem smt67_14 (k : Nat) : ∀ f, mt67_14 k = some f → mo_Sim 67 k f := mt_node (smt67_15 k) (smt67_16 k)
set_option maxRecDepth 100000 in
theorem smt67_10 (k : Nat) : ∀ f, mt67_10 k = some f → mo_Sim 67 k f := mt_node (smt67_11 k) (smt67_14 k)
set_option maxRecDepth 100000 in
theorem smt67_2 (k : Nat) : ∀ f, mt67_2 k = some f → mo_Sim 67 k f := mt_node (smt67_3 k) (smt67_10 k)
set_option maxRecDepth 100000 in
theorem smt67_20 (k : Nat) : ∀ f, mt67_20 k = some f → mo_Sim 67 k f := mt_leaf (ms_ild (e := (.iload_n 3, 36, 0, 0, 0)) rfl (fun _ _ _ => rfl) : mo_Sim 67 35 (ma_load 0 3 36)) (mt_leaf (ms_ild (e := (.iload_n 2, 37, 0, 0, 0)) rfl (fun _ _ _ => rfl) : mo_Sim 67 36 (ma_load 0 2 37)) (mt_none))
set_option maxRecDepth 100000 in
theorem smt67_21 (k : Nat) : ∀ f, mt67_21 k = some f → mo_Sim 67 k f := mt_leaf (ms_if2 (e := (.if_icmp .eq 9, 40, 46, 0, 0)) rfl (fun _ _ _ => rfl) : mo_Sim 67 37 (ma_if2 .eq 46 37 40)) (mt_leaf (ms_ild (e := (.iload 4, 42, 0, 0, 0)) rfl (fun _ _ _ => rfl) : mo_Sim 67 40 (ma_load 0 4 42)) (mt_leaf (ms_ild (e := (.iload_n 2, 43, 0, 0, 0)) rfl (fun _ _ _ => rfl) : mo_Sim 67 42 (ma_load 0 2 43)) (mt_none)))
set_option maxRecDepth 100000 in
theorem smt67_19 (k : Nat) : ∀ f, mt67_19 k = some f → mo_Sim 67 k f := mt_node (smt67_20 k) (smt67_21 k)
set_option maxRecDepth 100000 in
theorem smt67_23 (k : Nat) : ∀ f, mt67_23 k = some f → mo_Sim 67 k f := mt_leaf (ms_if2 (e := (.if_icmp .ne 7, 46, 50, 0, 0)) rfl (fun _ _ _ => rfl) : mo_Sim 67 43 (ma_if2 .ne 50 43 46)) (mt_leaf (ms_pushi (e := (.iconst 1, 47, 0, 0, 0)) rfl (fun _ _ _ => rfl) (by decide) : mo_Sim 67 46 (ma_push (ma_ci (.ofNat 1)) 47)) (mt_leaf (ms_goto (e := (.goto 4, 50, 51, 0, 0)) rfl (fun _ _ _ => rfl) : mo_Sim 67 47 (ma_goto 51)) (mt_none)))
set_option maxRecDepth 100000 in
theorem smt67_24 (k : Nat) : ∀ f, mt67_24 k = some f → mo_Sim 67 k f := mt_leaf (ms_pushi (e := (.iconst 0, 51, 0, 0, 0)) rfl (fun _ _ _ => rfl) (by decide) : mo_Sim 67 50 (ma_push (ma_ci (.ofNat 0)) 51)) (mt_leaf (ms_ist (e := (.istore 5, 53, 0, 0, 0)) rfl (fun _ _ _ => rfl) : mo_Sim 67 51 (ma_stor 0 5 53)) (mt_leaf (ms_ild (e := (.iload 5, 55, 0, 0, 0)) rfl (fun _ _ _ => rfl) : mo_Sim 67 53 (ma_load 0 5 55)) (mt_none)))
set_option maxRecDepth 100000 in
theorem smt67_22 (k : Nat) : ∀ f, mt67_22 k = some f → mo_Sim 67 k f := mt_node (smt67_23 k) (smt67_24 k)
set_option maxRecDepth 100000 in
theorem smt67_18 (k : Nat) : ∀ f, mt67_18 k = some f → mo_Sim 67 k f := mt_node (smt67_19 k) (smt67_22 k)
set_option maxRecDepth 100000 in
theorem smt67_27 (k : Nat) : ∀ f, mt67_27 k = some f → mo_Sim 67 k f := mt_leaf (ms_if0 (e := (.ifCond .eq 7, 58, 62, 0, 0)) rfl (fun _ _ _ => rfl) : mo_Sim 67 55 (ma_if0 .eq 62 55 58)) (mt_leaf (ms_pushi (e := (.iconst 0, 59, 0, 0, 0)) rfl (fun _ _ _ => rfl) (by decide) : mo_Sim 67 58 (ma_push (ma_ci (.ofNat 0)) 59)) (mt_leaf (ms_goto (e := (.goto 4, 62, 63, 0, 0)) rfl (fun _ _ _ => rfl) : mo_Sim 67 59 (ma_goto 63)) (mt_none)))
set_option maxRecDepth 100000 in
theorem smt67_28 (k : Nat) : ∀ f, mt67_28 k = some f → mo_Sim 67 k f := mt_leaf (ms_ild (e := (.iload_n 2, 63, 0, 0, 0)) rfl (fun _ _ _ => rfl) : mo_Sim 67 62 (ma_load 0 2 63)) (mt_leaf (ms_ist (e := (.istore 6, 65, 0, 0, 0)) rfl (fun _ _ _ => rfl) : mo_Sim 67 63 (ma_stor 0 6 65)) (mt_leaf (ms_ild (e := (.iload 6, 67, 0, 0, 0)) rfl (fun _ _ _ => rfl) : mo_Sim 67 65 (ma_load 0 6 67)) (mt_none)))
set_option maxRecDepth 100000 in
theorem smt67_26 (k : Nat) : ∀ f, mt67_26 k = some f → mo_Sim 67 k f := mt_node (smt67_27 k) (smt67_28 k)
set_option maxRecDepth 100000 in
theorem smt67_30 (k : Nat) : ∀ f, mt67_30 k = some f → mo_Sim 67 k f := mt_leaf (ms_ild (e := (.iload_n 2, 68, 0, 0, 0)) rfl (fun _ _ _ => rfl) : mo_Sim 67 67 (ma_load 0 2 68)) (mt_leaf (ms_if2 (e := (.if_icmp .gt 67, 71, 135, 0, 0)) rfl (fun _ _ _ => rfl) : mo_Sim 67 68 (ma_if2 .gt 135 68 71)) (mt_leaf (ms_ald (e := (.aload_n 0, 72, 0, 0, 0)) rfl (fun _ _ _ => rfl) : mo_Sim 67 71 (ma_lda 0 72)) (mt_none)))
set_option maxRecDepth 100000 in
theorem smt67_31 (k : Nat) : ∀ f, mt67_31 k = some f → mo_Sim 67 k f := mt_leaf (ms_getf (e := (.getfield 13, 75, 8, 1, 284)) rfl (fun _ _ _ => rfl) : mo_Sim 67 72 (ma_getf 8 1 75)) (mt_leaf (ms_ild (e := (.iload_n 3, 76, 0, 0, 0)) rfl (fun _ _ _ => rfl) : mo_Sim 67 75 (ma_load 0 3 76)) (mt_leaf (ms_pushi (e := (.bipush 9, 78, 0, 0, 0)) rfl (fun _ _ _ => rfl) (by decide) : mo_Sim 67 76 (ma_push (ma_ci (.ofNat 9)) 78)) (mt_none)))
set_option maxRecDepth 100000 in
theorem smt67_29 (k : Nat) : ∀ f, mt67_29 k = some f → mo_Sim 67 k f := mt_node (smt67_30 k) (smt67_31 k)
set_option maxRecDepth 100000 in
theorem smt67_25 (k : Nat) : ∀ f, mt67_25 k = some f → mo_Sim 67 k f := mt_node (smt67_26 k) (smt67_29 k)
set_option maxRecDepth 100000 in
theorem smt67_17 (k : Nat) : ∀ f, mt67_17 k = some f → mo_Sim 67 k f := mt_node (smt67_18 k) (smt67_25 k)
set_option maxRecDepth 100000 in
theorem smt67_1 (k : Nat) : ∀ f, mt67_1 k = some f → mo_Sim 67 k f := mt_node (smt67_2 k) (smt67_17 k)
set_option maxRecDepth 100000 in
theorem smt67_36 (k : Nat) : ∀ f, mt67_36 k = some f → mo_Sim 67 k f := mt_leaf (ms_i2 (e := (.imul, 79, 0, 0, 0)) rfl (fun _ _ _ => rfl) hf_mul : mo_Sim 67 78 (ma_i2 ma_fmul 78 79)) (mt_leaf (ms_ild (e := (.iload 4, 81, 0, 0, 0)) rfl (fun _ _ _ => rfl) : mo_Sim 67 79 (ma_load 0 4 81)) (mt_none))
set_option maxRecDepth 100000 in
theorem smt67_37 (k : Nat) : ∀ f, mt67_37 k = some f → mo_Sim 67 k f := mt_leaf (ms_iadd (e := (.iadd, 82, 0, 0, 0)) rfl (fun _ _ _ => rfl) : mo_Sim 67 81 (ma_iadd 81 82)) (mt_leaf (ms_pushi (e := (.bipush 9, 84, 0, 0, 0)) rfl (fun _ _ _ => rfl) (by decide) : mo_Sim 67 82 (ma_push (ma_ci (.ofNat 9)) 84)) (mt_leaf (ms_i2 (e := (.imul, 85, 0, 0, 0)) rfl (fun _ _ _ => rfl) hf_mul : mo_Sim 67 84 (ma_i2 ma_fmul 84 85)) (mt_none)))
set_option maxRecDepth 100000 in
theorem smt67_35 (k : Nat) : ∀ f, mt67_35 k = some f → mo_Sim 67 k f := mt_node (smt67_36 k) (smt67_37 k)
set_option maxRecDepth 100000 in
theorem smt67_39 (k : Nat) : ∀ f, mt67_39 k = some f → mo_Sim 67 k f := mt_leaf (ms_ild (e := (.iload 6, 87, 0, 0, 0)) rfl (fun _ _ _ => rfl) : mo_Sim 67 85 (ma_load 0 6 87)) (mt_leaf (ms_iadd (e := (.iadd, 88, 0, 0, 0)) rfl (fun _ _ _ => rfl) : mo_Sim 67 87 (ma_iadd 87 88)) (mt_leaf (ms_iald (e := (.iaload, 89, 0, 0, 0)) rfl (fun _ _ _ => rfl) : mo_Sim 67 88 (ma_iald 88 89)) (mt_none)))
set_option maxRecDepth 100000 in
theorem smt67_40 (k : Nat) : ∀ f, mt67_40 k = some f → mo_Sim 67 k f := mt_leaf (ms_ist (e := (.istore 7, 91, 0, 0, 0)) rfl (fun _ _ _ => rfl) : mo_Sim 67 89 (ma_stor 0 7 91)) (mt_leaf (ms_ild (e := (.iload 7, 93, 0, 0, 0)) rfl (fun _ _ _ => rfl) : mo_Sim 67 91 (ma_load 0 7 93)) (mt_leaf (ms_ald (e := (.aload_n 0, 94, 0, 0, 0)) rfl (fun _ _ _ => rfl) : mo_Sim 67 93 (ma_lda 0 94)) (mt_none)))
set_option maxRecDepth 100000 in
theorem smt67_38 (k : Nat) : ∀ f, mt67_38 k = some f → mo_Sim 67 k f := mt_node (smt67_39 k) (smt67_40 k)
set_option maxRecDepth 100000 in
theorem smt67_34 (k : Nat) : ∀ f, mt67_34 k = some f → mo_Sim 67 k f := mt_node (smt67_35 k) (smt67_38 k)
set_option maxRecDepth 100000 in
theorem smt67_43 (k : Nat) : ∀ f, mt67_43 k = some f → mo_Sim 67 k f := mt_leaf (ms_getf (e := (.getfield 38, 97, 8, 7, 290)) rfl (fun _ _ _ => rfl) : mo_Sim 67 94 (ma_getf 8 7 97)) (mt_leaf (ms_if2 (e := (.if_icmp .eq 32, 100, 129, 0, 0)) rfl (fun _ _ _ => rfl) : mo_Sim 67 97 (ma_if2 .eq 129 97 100)) (mt_leaf (ms_ald (e := (.aload_n 0, 101, 0, 0, 0)) rfl (fun _ _ _ => rfl) : mo_Sim 67 100 (ma_lda 0 101)) (mt_none)))
set_option maxRecDepth 100000 in
theorem smt67_44 (k : Nat) : ∀ f, mt67_44 k = some f → mo_Sim 67 k f := mt_leaf (ms_getf (e := (.getfield 16, 104, 8, 2, 285)) rfl (fun _ _ _ => rfl) : mo_Sim 67 101 (ma_getf 8 2 104)) (mt_leaf (ms_ild (e := (.iload_n 1, 105, 0, 0, 0)) rfl (fun _ _ _ => rfl) : mo_Sim 67 104 (ma_load 0 1 105)) (mt_leaf (ms_ild (e := (.iload_n 3, 106, 0, 0, 0)) rfl (fun _ _ _ => rfl) : mo_Sim 67 105 (ma_load 0 3 106)) (mt_none)))
set_option maxRecDepth 100000 in
theorem smt67_42 (k : Nat) : ∀ f, mt67_42 k = some f → mo_Sim 67 k f := mt_node (smt67_43 k) (smt67_44 k)
set_option maxRecDepth 100000 in
theorem smt67_46 (k : Nat) : ∀ f, mt67_46 k = some f → mo_Sim 67 k f := mt_leaf (ms_ild (e := (.iload 4, 108, 0, 0, 0)) rfl (fun _ _ _ => rfl) : mo_Sim 67 106 (ma_load 0 4 108)) (mt_leaf (ms_pushi (e := (.iconst 4, 109, 0, 0, 0)) rfl (fun _ _ _ => rfl) (by decide) : mo_Sim 67 108 (ma_push (ma_ci (.ofNat 4)) 109)) (mt_leaf (ms_i2 (e := (.ishl, 110, 0, 0, 0)) rfl (fun _ _ _ => rfl) hf_shl : mo_Sim 67 109 (ma_i2 ma_fshl 109 110)) (mt_none)))
set_option maxRecDepth 100000 in
theorem smt67_47 (k : Nat) : ∀ f, mt67_47 k = some f → mo_Sim 67 k f := mt_leaf (ms_i2 (e := (.ior, 111, 0, 0, 0)) rfl (fun _ _ _ => rfl) hf_or : mo_Sim 67 110 (ma_i2 ma_for 110 111)) (mt_leaf (ms_ild (e := (.iload 6, 113, 0, 0, 0)) rfl (fun _ _ _ => rfl) : mo_Sim 67 111 (ma_load 0 6 113)) (mt_leaf (ms_pushi (e := (.bipush 8, 115, 0, 0, 0)) rfl (fun _ _ _ => rfl) (by decide) : mo_Sim 67 113 (ma_push (ma_ci (.ofNat 8)) 115)) (mt_none)))
set_option maxRecDepth 100000 in
theorem smt67_45 (k : Nat) : ∀ f, mt67_45 k = some f → mo_Sim 67 k f := mt_node (smt67_46 k) (smt67_47 k)
set_option maxRecDepth 100000 in
theorem smt67_41 (k : Nat) : ∀ f, mt67_41 k = some f → mo_Sim 67 k f := mt_node (smt67_42 k) (smt67_45 k)
set_option maxRecDepth 100000 in
theorem smt67_33 (k : Nat) : ∀ f, mt67_33 k = some f → mo_Sim 67 k f := mt_node (smt67_34 k) (smt67_41 k)
set_option maxRecDepth 100000 in
theorem smt67_51 (k : Nat) : ∀ f, mt67_51 k = some f → mo_Sim 67 k f := mt_leaf (ms_i2 (e := (.ishl, 116, 0, 0, 0)) rfl (fun _ _ _ => rfl) hf_shl : mo_Sim 67 115 (ma_i2 ma_fshl 115 116)) (mt_leaf (ms_i2 (e := (.ior, 117, 0, 0, 0)) rfl (fun _ _ _ => rfl) hf_or : mo_Sim 67 116 (ma_i2 ma_for 116 117)) (mt_leaf (ms_iast (e := (.iastore, 118, 0, 0, 0)) rfl rfl (fun _ _ _ => rfl) : mo_Sim 67 117 (ma_ast 13 0 117 118)) (mt_none)))
set_option maxRecDepth 100000 in
theorem smt67_52 (k : Nat) : ∀ f, mt67_52 k = some f → mo_Sim 67 k f := mt_leaf (ms_ald (e := (.aload_n 0, 119, 0, 0, 0)) rfl (fun _ _ _ => rfl) : mo_Sim 67 118 (ma_lda 0 119)) (mt_leaf (ms_getf (e := (.getfield 19, 122, 8, 3, 286)) rfl (fun _ _ _ => rfl) : mo_Sim 67 119 (ma_getf 8 3 122)) (mt_leaf (ms_ild (e := (.iload_n 1, 123, 0, 0, 0)) rfl (fun _ _ _ => rfl) : mo_Sim 67 122 (ma_load 0 1 123)) (mt_none)))
set_option maxRecDepth 100000 in
theorem smt67_50 (k : Nat) : ∀ f, mt67_50 k = some f → mo_Sim 67 k f := mt_node (smt67_51 k) (smt67_52 k)
set_option maxRecDepth 100000 in
theorem smt67_54 (k : Nat) : ∀ f, mt67_54 k = some f → mo_Sim 67 k f := mt_leaf (ms_ild (e := (.iload 7, 125, 0, 0, 0)) rfl (fun _ _ _ => rfl) : mo_Sim 67 123 (ma_load 0 7 125)) (mt_leaf (ms_iast (e := (.iastore, 126, 0, 0, 0)) rfl rfl (fun _ _ _ => rfl) : mo_Sim 67 125 (ma_ast 13 0 125 126)) (mt_leaf (ms_iinc (e := (.iinc 1 1, 129, 0, 0, 0)) rfl (fun _ _ _ => rfl) (by decide) : mo_Sim 67 126 (ma_iinc 1 (.ofNat 1) 126 129)) (mt_none)))
set_option maxRecDepth 100000 in
theorem smt67_55 (k : Nat) : ∀ f, mt67_55 k = some f → mo_Sim 67 k f := mt_leaf (ms_iinc (e := (.iinc 6 1, 132, 0, 0, 0)) rfl (fun _ _ _ => rfl) (by decide) : mo_Sim 67 129 (ma_iinc 6 (.ofNat 1) 129 132)) (mt_leaf (ms_goto (e := (.goto (-67), 135, 65, 0, 0)) rfl (fun _ _ _ => rfl) : mo_Sim 67 132 (ma_goto 65)) (mt_leaf (ms_iinc (e := (.iinc 4 1, 138, 0, 0, 0)) rfl (fun _ _ _ => rfl) (by decide) : mo_Sim 67 135 (ma_iinc 4 (.ofNat 1) 135 138)) (mt_none)))
set_option maxRecDepth 100000 in
theorem smt67_53 (k : Nat) : ∀ f, mt67_53 k = some f → mo_Sim 67 k f := mt_node (smt67_54 k) (smt67_55 k)
set_option maxRecDepth 100000 in
theorem smt67_49 (k : Nat) : ∀ f, mt67_49 k = some f → mo_Sim 67 k f := mt_node (smt67_50 k) (smt67_53 k)
set_option maxRecDepth 100000 in
theorem smt67_58 (k : Nat) : ∀ f, mt67_58 k = some f → mo_Sim 67 k f := mt_leaf (ms_goto (e := (.goto (-109), 141, 29, 0, 0)) rfl (fun _ _ _ => rfl) : mo_Sim 67 138 (ma_goto 29)) (mt_leaf (ms_iinc (e := (.iinc 3 1, 144, 0, 0, 0)) rfl (fun _ _ _ => rfl) (by decide) : mo_Sim 67 141 (ma_iinc 3 (.ofNat 1) 141 144)) (mt_leaf (ms_goto (e := (.goto (-123), 147, 21, 0, 0)) rfl (fun _ _ _ => rfl) : mo_Sim 67 144 (ma_goto 21)) (mt_none)))
set_option maxRecDepth 100000 in
theorem smt67_59 (k : Nat) : ∀ f, mt67_59 k = some f → mo_Sim 67 k f := mt_leaf (ms_iinc (e := (.iinc 2 1, 150, 0, 0, 0)) rfl (fun _ _ _ => rfl) (by decide) : mo_Sim 67 147 (ma_iinc 2 (.ofNat 1) 147 150)) (mt_leaf (ms_goto (e := (.goto (-146), 153, 4, 0, 0)) rfl (fun _ _ _ => rfl) : mo_Sim 67 150 (ma_goto 4)) (mt_leaf (ms_ald (e := (.aload_n 0, 154, 0, 0, 0)) rfl (fun _ _ _ => rfl) : mo_Sim 67 153 (ma_lda 0 154)) (mt_none)))
set_option maxRecDepth 100000 in
theorem smt67_57 (k : Nat) : ∀ f, mt67_57 k = some f → mo_Sim 67 k f := mt_node (smt67_58 k) (smt67_59 k)
set_option maxRecDepth 100000 in
theorem smt67_61 (k : Nat) : ∀ f, mt67_61 k = some f → mo_Sim 67 k f := mt_leaf (ms_getf (e := (.getfield 22, 157, 8, 4, 287)) rfl (fun _ _ _ => rfl) : mo_Sim 67 154 (ma_getf 8 4 157)) (mt_leaf (ms_ald (e := (.aload_n 0, 158, 0, 0, 0)) rfl (fun _ _ _ => rfl) : mo_Sim 67 157 (ma_lda 0 158)) (mt_leaf (ms_getf (e := (.getfield 35, 161, 8, 6, 289)) rfl (fun _ _ _ => rfl) : mo_Sim 67 158 (ma_getf 8 6 161)) (mt_none)))
set_option maxRecDepth 100000 in
theorem smt67_62 (k : Nat) : ∀ f, mt67_62 k = some f → mo_Sim 67 k f := mt_leaf (ms_ild (e := (.iload_n 1, 162, 0, 0, 0)) rfl (fun _ _ _ => rfl) : mo_Sim 67 161 (ma_load 0 1 162)) (mt_leaf (ms_iast (e := (.iastore, 163, 0, 0, 0)) rfl rfl (fun _ _ _ => rfl) : mo_Sim 67 162 (ma_ast 13 0 162 163)) (mt_leaf (ms_retv (e := (.return_, 164, 0, 0, 0)) rfl rfl (fun _ _ _ => rfl) : mo_Sim 67 163 (ma_retv)) (mt_none)))
set_option maxRecDepth 100000 in
theorem smt67_60 (k : Nat) : ∀ f, mt67_60 k = some f → mo_Sim 67 k f := mt_node (smt67_61 k) (smt67_62 k)
set_option maxRecDepth 100000 in
theorem smt67_56 (k : Nat) : ∀ f, mt67_56 k = some f → mo_Sim 67 k f := mt_node (smt67_57 k) (smt67_60 k)
set_option maxRecDepth 100000 in
theorem smt67_48 (k : Nat) : ∀ f, mt67_48 k = some f → mo_Sim 67 k f := mt_node (smt67_49 k) (smt67_56 k)
set_option maxRecDepth 100000 in
theorem smt67_32 (k : Nat) : ∀ f, mt67_32 k = some f → mo_Sim 67 k f := mt_node (smt67_33 k) (smt67_48 k)
set_option maxRecDepth 100000 in
theorem smt67_0 (k : Nat) : ∀ f, mt67_0 k = some f → mo_Sim 67 k f := mt_node (smt67_1 k) (smt67_32 k)
set_option maxRecDepth 100000 in
theorem smt68_1 (k : Nat) : ∀ f, mt68_1 k = some f → mo_Sim 68 k f := mt_leaf (ms_ald (e := (.aload_n 1, 1, 0, 0, 0)) rfl (fun _ _ _ => rfl) : mo_Sim 68 0 (ma_lda 1 1)) (mt_leaf (ms_invV (p := 0) (e := (.invokevirtual 89, 4, 31, 0, 845)) rfl rfl (fun _ _ _ => rfl) rfl rfl rfl (by decide) : mo_Sim 68 1 (ma_inv 31 1 1 3 4)) (mt_leaf (ms_ald (e := (.aload_n 0, 5, 0, 0, 0)) rfl (fun _ _ _ => rfl) : mo_Sim 68 4 (ma_lda 0 5)) (mt_leaf (ms_pushi (e := (.iconst 0, 6, 0, 0, 0)) rfl (fun _ _ _ => rfl) (by decide) : mo_Sim 68 5 (ma_push (ma_ci (.ofNat 0)) 6)) (mt_none))))
set_option maxRecDepth 100000 in
theorem smt68_2 (k : Nat) : ∀ f, mt68_2 k = some f → mo_Sim 68 k f := mt_leaf (ms_pushi (e := (.iconst 0, 7, 0, 0, 0)) rfl (fun _ _ _ => rfl) (by decide) : mo_Sim 68 6 (ma_push (ma_ci (.ofNat 0)) 7)) (mt_leaf (ms_ald (e := (.aload_n 1, 8, 0, 0, 0)) rfl (fun _ _ _ => rfl) : mo_Sim 68 7 (ma_lda 1 8)) (mt_leaf (ms_invS (e := (.invokestatic 94, 11, 70, 1, 852)) rfl rfl (fun _ _ _ => rfl) rfl rfl : mo_Sim 68 8 (ma_inv 70 4 5 20 11)) (mt_leaf (ms_retv (e := (.return_, 12, 0, 0, 0)) rfl rfl (fun _ _ _ => rfl) : mo_Sim 68 11 (ma_retv)) (mt_none))))
set_option maxRecDepth 100000 in
theorem smt68_0 (k : Nat) : ∀ f, mt68_0 k = some f → mo_Sim 68 k f := mt_node (smt68_1 k) (smt68_2 k)
set_option maxRecDepth 100000 in
theorem smt69_3 (k : Nat) : ∀ f, mt69_3 k = some f → mo_Sim 69 k f := mt_leaf (ms_pushi (e := (.iconst 0, 1, 0, 0, 0)) rfl (fun _ _ _ => rfl) (by decide) : mo_Sim 69 0 (ma_push (ma_ci (.ofNat 0)) 1)) (mt_leaf (ms_ist (e := (.istore_n 2, 2, 0, 0, 0)) rfl (fun _ _ _ => rfl) : mo_Sim 69 1 (ma_stor 0 2 2)) (mt_leaf (ms_ild (e := (.iload_n 2, 3, 0, 0, 0)) rfl (fun _ _ _ => rfl) : mo_Sim 69 2 (ma_load 0 2 3)) (mt_none)))
set_option maxRecDepth 100000 in
theorem smt69_4 (k : Nat) : ∀ f, mt69_4 k = some f → mo_Sim 69 k f := mt_leaf (ms_ald (e := (.aload_n 1, 4, 0, 0, 0)) rfl (fun _ _ _ => rfl) : mo_Sim 69 3 (ma_lda 1 4)) (mt_leaf (ms_getf (e := (.getfield 98, 7, 2, 1, 316)) rfl (fun _ _ _ => rfl) : mo_Sim 69 4 (ma_getf 2 1 7)) (mt_leaf (ms_if2 (e := (.if_icmp .ge 26, 10, 33, 0, 0)) rfl (fun _ _ _ => rfl) : mo_Sim 69 7 (ma_if2 .ge 33 7 10)) (mt_none)))
set_option maxRecDepth 100000 in
theorem smt69_2 (k : Nat) : ∀ f, mt69_2 k = some f → mo_Sim 69 k f := mt_node (smt69_3 k) (smt69_4 k)
set_option maxRecDepth 100000 in
theorem smt69_6 (k : Nat) : ∀ f, mt69_6 k = some f → mo_Sim 69 k f := mt_leaf (ms_ald (e := (.aload_n 0, 11, 0, 0, 0)) rfl (fun _ _ _ => rfl) : mo_Sim 69 10 (ma_lda 0 11)) (mt_leaf (ms_getf (e := (.getfield 9, 14, 8, 0, 282)) rfl (fun _ _ _ => rfl) : mo_Sim 69 11 (ma_getf 8 0 14)) (mt_leaf (ms_ild (e := (.iload_n 2, 15, 0, 0, 0)) rfl (fun _ _ _ => rfl) : mo_Sim 69 14 (ma_load 0 2 15)) (mt_none)))
set_option maxRecDepth 100000 in
theorem smt69_7 (k : Nat) : ∀ f, mt69_7 k = some f → mo_Sim 69 k f := mt_leaf (ms_ild (e := (.iload_n 2, 16, 0, 0, 0)) rfl (fun _ _ _ => rfl) : mo_Sim 69 15 (ma_load 0 2 16)) (mt_leaf (ms_iast (e := (.iastore, 17, 0, 0, 0)) rfl rfl (fun _ _ _ => rfl) : mo_Sim 69 16 (ma_ast 13 0 16 17)) (mt_leaf (ms_ald (e := (.aload_n 0, 18, 0, 0, 0)) rfl (fun _ _ _ => rfl) : mo_Sim 69 17 (ma_lda 0 18)) (mt_none)))
set_option maxRecDepth 100000 in
theorem smt69_5 (k : Nat) : ∀ f, mt69_5 k = some f → mo_Sim 69 k f := mt_node (smt69_6 k) (smt69_7 k)
set_option maxRecDepth 100000 in
theorem smt69_1 (k : Nat) : ∀ f, mt69_1 k = some f → mo_Sim 69 k f := mt_node (smt69_2 k) (smt69_5 k)
set_option maxRecDepth 100000 in
theorem smt69_10 (k : Nat) : ∀ f, mt69_10 k = some f → mo_Sim 69 k f := mt_leaf (ms_ild (e := (.iload_n 2, 19, 0, 0, 0)) rfl (fun _ _ _ => rfl) : mo_Sim 69 18 (ma_load 0 2 19)) (mt_leaf (ms_invV (p := 1) (e := (.invokevirtual 101, 22, 72, 0, 859)) rfl rfl (fun _ _ _ => rfl) rfl rfl rfl (by decide) : mo_Sim 69 19 (ma_inv 72 2 5 8 22)) (mt_leaf (ms_if0 (e := (.ifCond .ne 5, 25, 27, 0, 0)) rfl (fun _ _ _ => rfl) : mo_Sim 69 22 (ma_if0 .ne 27 22 25)) (mt_none)))
set_option maxRecDepth 100000 in
theorem smt69_11 (k : Nat) : ∀ f, mt69_11 k = some f → mo_Sim 69 k f := mt_leaf (ms_pushi (e := (.iconst 0, 26, 0, 0, 0)) rfl (fun _ _ _ => rfl) (by decide) : mo_Sim 69 25 (ma_push (ma_ci (.ofNat 0)) 26)) (mt_leaf (ms_ret (e := (.ireturn, 27, 0, 0, 0)) rfl (Or.inr (Or.inl ⟨rfl, rfl, (fun _ _ _ => rfl)⟩)) : mo_Sim 69 26 (ma_ret 1)) (mt_leaf (ms_iinc (e := (.iinc 2 1, 30, 0, 0, 0)) rfl (fun _ _ _ => rfl) (by decide) : mo_Sim 69 27 (ma_iinc 2 (.ofNat 1) 27 30)) (mt_none)))
set_option maxRecDepth 100000 in
theorem smt69_9 (k : Nat) : ∀ f, mt69_9 k = some f → mo_Sim 69 k f := mt_node (smt69_10 k) (smt69_11 k)
set_option maxRecDepth 100000 in
theorem smt69_13 (k : Nat) : ∀ f, mt69_13 k = some f → mo_Sim 69 k f := mt_leaf (ms_goto (e := (.goto (-28), 33, 2, 0, 0)) rfl (fun _ _ _ => rfl) : mo_Sim 69 30 (ma_goto 2)) (mt_leaf (ms_ald (e := (.aload_n 0, 34, 0, 0, 0)) rfl (fun _ _ _ => rfl) : mo_Sim 69 33 (ma_lda 0 34)) (mt_leaf (ms_ald (e := (.aload_n 1, 35, 0, 0, 0)) rfl (fun _ _ _ => rfl) : mo_Sim 69 34 (ma_lda 1 35)) (mt_none)))
set_option maxRecDepth 100000 in
theorem smt69_14 (k : Nat) : ∀ f, mt69_14 k = some f → mo_Sim 69 k f := mt_leaf (ms_getf (e := (.getfield 98, 38, 2, 1, 316)) rfl (fun _ _ _ => rfl) : mo_Sim 69 35 (ma_getf 2 1 38)) (mt_leaf (ms_ald (e := (.aload_n 1, 39, 0, 0, 0)) rfl (fun _ _ _ => rfl) : mo_Sim 69 38 (ma_lda 1 39)) (mt_leaf (ms_invS (e := (.invokestatic 105, 42, 71, 1, 1022)) rfl rfl (fun _ _ _ => rfl) rfl rfl : mo_Sim 69 39 (ma_inv 71 3 4 20 42)) (mt_leaf (ms_ret (e := (.ireturn, 43, 0, 0, 0)) rfl (Or.inr (Or.inl ⟨rfl, rfl, (fun _ _ _ => rfl)⟩)) : mo_Sim 69 42 (ma_ret 1)) (mt_none))))
set_option maxRecDepth 100000 in
theorem smt69_12 (k : Nat) : ∀ f, mt69_12 k = some f → mo_Sim 69 k f := mt_node (smt69_13 k) (smt69_14 k)
set_option maxRecDepth 100000 in
theorem smt69_8 (k : Nat) : ∀ f, mt69_8 k = some f → mo_Sim 69 k f := mt_node (smt69_9 k) (smt69_12 k)
set_option maxRecDepth 100000 in
theorem smt69_0 (k : Nat) : ∀ f, mt69_0 k = some f → mo_Sim 69 k f := mt_node (smt69_1 k) (smt69_8 k)
set_option maxRecDepth 100000 in
theorem smt70_3 (k : Nat) : ∀ f, mt70_3 k = some f → mo_Sim 70 k f := mt_leaf (ms_ild (e := (.iload_n 1, 1, 0, 0, 0)) rfl (fun _ _ _ => rfl) : mo_Sim 70 0 (ma_load 0 1 1)) (mt_leaf (ms_ald (e := (.aload_n 0, 2, 0, 0, 0)) rfl (fun _ _ _ => rfl) : mo_Sim 70 1 (ma_lda 0 2)) (mt_leaf (ms_getf (e := (.getfield 35, 5, 8, 6, 289)) rfl (fun _ _ _ => rfl) : mo_Sim 70 2 (ma_getf 8 6 5)) (mt_leaf (ms_if2 (e := (.if_icmp .lt 9, 8, 14, 0, 0)) rfl (fun _ _ _ => rfl) : mo_Sim 70 5 (ma_if2 .lt 14 5 8)) (mt_none))))
set_option maxRecDepth 100000 in
theorem smt70_5 (k : Nat) : ∀ f, mt70_5 k = some f → mo_Sim 70 k f := mt_leaf (ms_ald (e := (.aload_n 3, 9, 0, 0, 0)) rfl (fun _ _ _ => rfl) : mo_Sim 70 8 (ma_lda 3 9)) (mt_leaf (ms_ild (e := (.iload_n 2, 10, 0, 0, 0)) rfl (fun _ _ _ => rfl) : mo_Sim 70 9 (ma_load 0 2 10)) (mt_none))
set_option maxRecDepth 100000 in
theorem smt70_6 (k : Nat) : ∀ f, mt70_6 k = some f → mo_Sim 70 k f := mt_leaf (ms_invV (p := 1) (e := (.invokevirtual 109, 13, 32, 0, 855)) rfl rfl (fun _ _ _ => rfl) rfl rfl rfl (by decide) : mo_Sim 70 10 (ma_inv 32 2 3 3 13)) (mt_leaf (ms_retv (e := (.return_, 14, 0, 0, 0)) rfl rfl (fun _ _ _ => rfl) : mo_Sim 70 13 (ma_retv)) (mt_leaf (ms_pushi (e := (.iconst 0, 15, 0, 0, 0)) rfl (fun _ _ _ => rfl) (by decide) : mo_Sim 70 14 (ma_push (ma_ci (.ofNat 0)) 15)) (mt_none)))
set_option maxRecDepth 100000 in
theorem smt70_4 (k : Nat) : ∀ f, mt70_4 k = some f → mo_Sim 70 k f := mt_node (smt70_5 k) (smt70_6 k)
set_option maxRecDepth 100000 in
theorem smt70_2 (k : Nat) : ∀ f, mt70_2 k = some f → mo_Sim 70 k f := mt_node (smt70_3 k) (smt70_4 k)
set_option maxRecDepth 100000 in
theorem smt70_9 (k : Nat) : ∀ f, mt70_9 k = some f → mo_Sim 70 k f := mt_leaf (ms_ist (e := (.istore 4, 17, 0, 0, 0)) rfl (fun _ _ _ => rfl) : mo_Sim 70 15 (ma_stor 0 4 17)) (mt_leaf (ms_ild (e := (.iload 4, 19, 0, 0, 0)) rfl (fun _ _ _ => rfl) : mo_Sim 70 17 (ma_load 0 4 19)) (mt_none))
set_option maxRecDepth 100000 in
theorem smt70_10 (k : Nat) : ∀ f, mt70_10 k = some f → mo_Sim 70 k f := mt_leaf (ms_ald (e := (.aload_n 0, 20, 0, 0, 0)) rfl (fun _ _ _ => rfl) : mo_Sim 70 19 (ma_lda 0 20)) (mt_leaf (ms_getf (e := (.getfield 25, 23, 8, 5, 288)) rfl (fun _ _ _ => rfl) : mo_Sim 70 20 (ma_getf 8 5 23)) (mt_leaf (ms_if2 (e := (.if_icmp .ge 42, 26, 65, 0, 0)) rfl (fun _ _ _ => rfl) : mo_Sim 70 23 (ma_if2 .ge 65 23 26)) (mt_none)))
set_option maxRecDepth 100000 in
theorem smt70_8 (k : Nat) : ∀ f, mt70_8 k = some f → mo_Sim 70 k f := mt_node (smt70_9 k) (smt70_10 k)
set_option maxRecDepth 100000 in
theorem smt70_12 (k : Nat) : ∀ f, mt70_12 k = some f → mo_Sim 70 k f := mt_leaf (ms_ald (e := (.aload_n 0, 27, 0, 0, 0)) rfl (fun _ _ _ => rfl) : mo_Sim 70 26 (ma_lda 0 27)) (mt_leaf (ms_getf (e := (.getfield 9, 30, 8, 0, 282)) rfl (fun _ _ _ => rfl) : mo_Sim 70 27 (ma_getf 8 0 30)) (mt_none))
set_option maxRecDepth 100000 in
theorem smt70_13 (k : Nat) : ∀ f, mt70_13 k = some f → mo_Sim 70 k f := mt_leaf (ms_ild (e := (.iload_n 1, 31, 0, 0, 0)) rfl (fun _ _ _ => rfl) : mo_Sim 70 30 (ma_load 0 1 31)) (mt_leaf (ms_ild (e := (.iload 4, 33, 0, 0, 0)) rfl (fun _ _ _ => rfl) : mo_Sim 70 31 (ma_load 0 4 33)) (mt_leaf (ms_iast (e := (.iastore, 34, 0, 0, 0)) rfl rfl (fun _ _ _ => rfl) : mo_Sim 70 33 (ma_ast 13 0 33 34)) (mt_none)))
set_option maxRecDepth 100000 in
theorem smt70_11 (k : Nat) : ∀ f, mt70_11 k = some f → mo_Sim 70 k f := mt_node (smt70_12 k) (smt70_13 k)
set_option maxRecDepth 100000 in
theorem smt70_7 (k : Nat) : ∀ f, mt70_7 k = some f → mo_Sim 70 k f := mt_node (smt70_8 k) (smt70_11 k)
set_option maxRecDepth 100000 in
theorem smt70_1 (k : Nat) : ∀ f, mt70_1 k = some f → mo_Sim 70 k f := mt_node (smt70_2 k) (smt70_7 k)
set_option maxRecDepth 100000 in
theorem smt70_16 (k : Nat) : ∀ f, mt70_16 k = some f → mo_Sim 70 k f := mt_leaf (ms_ald (e := (.aload_n 0, 35, 0, 0, 0)) rfl (fun _ _ _ => rfl) : mo_Sim 70 34 (ma_lda 0 35)) (mt_leaf (ms_ild (e := (.iload_n 1, 36, 0, 0, 0)) rfl (fun _ _ _ => rfl) : mo_Sim 70 35 (ma_load 0 1 36)) (mt_leaf (ms_invV (p := 1) (e := (.invokevirtual 101, 39, 72, 0, 859)) rfl rfl (fun _ _ _ => rfl) rfl rfl rfl (by decide) : mo_Sim 70 36 (ma_inv 72 2 5 8 39)) (mt_leaf (ms_if0 (e := (.ifCond .eq 20, 42, 59, 0, 0)) rfl (fun _ _ _ => rfl) : mo_Sim 70 39 (ma_if0 .eq 59 39 42)) (mt_none))))
set_option maxRecDepth 100000 in
theorem smt70_18 (k : Nat) : ∀ f, mt70_18 k = some f → mo_Sim 70 k f := mt_leaf (ms_ald (e := (.aload_n 0, 43, 0, 0, 0)) rfl (fun _ _ _ => rfl) : mo_Sim 70 42 (ma_lda 0 43)) (mt_leaf (ms_ild (e := (.iload_n 1, 44, 0, 0, 0)) rfl (fun _ _ _ => rfl) : mo_Sim 70 43 (ma_load 0 1 44)) (mt_none))
set_option maxRecDepth 100000 in
theorem smt70_19 (k : Nat) : ∀ f, mt70_19 k = some f → mo_Sim 70 k f := mt_leaf (ms_pushi (e := (.iconst 1, 45, 0, 0, 0)) rfl (fun _ _ _ => rfl) (by decide) : mo_Sim 70 44 (ma_push (ma_ci (.ofNat 1)) 45)) (mt_leaf (ms_iadd (e := (.iadd, 46, 0, 0, 0)) rfl (fun _ _ _ => rfl) : mo_Sim 70 45 (ma_iadd 45 46)) (mt_leaf (ms_ild (e := (.iload_n 2, 47, 0, 0, 0)) rfl (fun _ _ _ => rfl) : mo_Sim 70 46 (ma_load 0 2 47)) (mt_none)))
set_option maxRecDepth 100000 in
theorem smt70_17 (k : Nat) : ∀ f, mt70_17 k = some f → mo_Sim 70 k f := mt_node (smt70_18 k) (smt70_19 k)
set_option maxRecDepth 100000 in
theorem smt70_15 (k : Nat) : ∀ f, mt70_15 k = some f → mo_Sim 70 k f := mt_node (smt70_16 k) (smt70_17 k)
set_option maxRecDepth 100000 in
theorem smt70_22 (k : Nat) : ∀ f, mt70_22 k = some f → mo_Sim 70 k f := mt_leaf (ms_ald (e := (.aload_n 0, 48, 0, 0, 0)) rfl (fun _ _ _ => rfl) : mo_Sim 70 47 (ma_lda 0 48)) (mt_leaf (ms_getf (e := (.getfield 25, 51, 8, 5, 288)) rfl (fun _ _ _ => rfl) : mo_Sim 70 48 (ma_getf 8 5 51)) (mt_none))
set_option maxRecDepth 100000 in
theorem smt70_23 (k : Nat) : ∀ f, mt70_23 k = some f → mo_Sim 70 k f := mt_leaf (ms_i2 (e := (.imul, 52, 0, 0, 0)) rfl (fun _ _ _ => rfl) hf_mul : mo_Sim 70 51 (ma_i2 ma_fmul 51 52)) (mt_leaf (ms_ild (e := (.iload 4, 54, 0, 0, 0)) rfl (fun _ _ _ => rfl) : mo_Sim 70 52 (ma_load 0 4 54)) (mt_leaf (ms_iadd (e := (.iadd, 55, 0, 0, 0)) rfl (fun _ _ _ => rfl) : mo_Sim 70 54 (ma_iadd 54 55)) (mt_none)))
set_option maxRecDepth 100000 in
theorem smt70_21 (k : Nat) : ∀ f, mt70_21 k = some f → mo_Sim 70 k f := mt_node (smt70_22 k) (smt70_23 k)
set_option maxRecDepth 100000 in
theorem smt70_25 (k : Nat) : ∀ f, mt70_25 k = some f → mo_Sim 70 k f := mt_leaf (ms_ald (e := (.aload_n 3, 56, 0, 0, 0)) rfl (fun _ _ _ => rfl) : mo_Sim 70 55 (ma_lda 3 56)) (mt_leaf (ms_invS (e := (.invokestatic 94, 59, 70, 1, 852)) rfl rfl (fun _ _ _ => rfl) rfl rfl : mo_Sim 70 56 (ma_inv 70 4 5 20 59)) (mt_none))
set_option maxRecDepth 100000 in
theorem smt70_26 (k : Nat) : ∀ f, mt70_26 k = some f → mo_Sim 70 k f := mt_leaf (ms_iinc (e := (.iinc 4 1, 62, 0, 0, 0)) rfl (fun _ _ _ => rfl) (by decide) : mo_Sim 70 59 (ma_iinc 4 (.ofNat 1) 59 62)) (mt_leaf (ms_goto (e := (.goto (-45), 65, 17, 0, 0)) rfl (fun _ _ _ => rfl) : mo_Sim 70 62 (ma_goto 17)) (mt_leaf (ms_retv (e := (.return_, 66, 0, 0, 0)) rfl rfl (fun _ _ _ => rfl) : mo_Sim 70 65 (ma_retv)) (mt_none)))
set_option maxRecDepth 100000 in
theorem smt70_24 (k : Nat) : ∀ f, mt70_24 k = some f → mo_Sim 70 k f := mt_node (smt70_25 k) (smt70_26 k)
set_option maxRecDepth 100000 in
theorem smt70_20 (k : Nat) : ∀ f, mt70_20 k = some f → mo_Sim 70 k f := mt_node (smt70_21 k) (smt70_24 k)
set_option maxRecDepth 100000 in
theorem smt70_14 (k : Nat) : ∀ f, mt70_14 k = some f → mo_Sim 70 k f := mt_node (smt70_15 k) (smt70_20 k)
set_option maxRecDepth 100000 in
theorem smt70_0 (k : Nat) : ∀ f, mt70_0 k = some f → mo_Sim 70 k f := mt_node (smt70_1 k) (smt70_14 k)
set_option maxRecDepth 100000 in
theorem smt71_3 (k : Nat) : ∀ f, mt71_3 k = some f → mo_Sim 71 k f := mt_leaf (ms_ild (e := (.iload_n 1, 1, 0, 0, 0)) rfl (fun _ _ _ => rfl) : mo_Sim 71 0 (ma_load 0 1 1)) (mt_leaf (ms_ald (e := (.aload_n 0, 2, 0, 0, 0)) rfl (fun _ _ _ => rfl) : mo_Sim 71 1 (ma_lda 0 2)) (mt_leaf (ms_getf (e := (.getfield 35, 5, 8, 6, 289)) rfl (fun _ _ _ => rfl) : mo_Sim 71 2 (ma_getf 8 6 5)) (mt_leaf (ms_if2 (e := (.if_icmp .lt 16, 8, 21, 0, 0)) rfl (fun _ _ _ => rfl) : mo_Sim 71 5 (ma_if2 .lt 21 5 8)) (mt_none))))
set_option maxRecDepth 100000 in
theorem smt71_5 (k : Nat) : ∀ f, mt71_5 k = some f → mo_Sim 71 k f := mt_leaf (ms_ald (e := (.aload_n 2, 9, 0, 0, 0)) rfl (fun _ _ _ => rfl) : mo_Sim 71 8 (ma_lda 2 9)) (mt_leaf (ms_ald (e := (.aload_n 0, 10, 0, 0, 0)) rfl (fun _ _ _ => rfl) : mo_Sim 71 9 (ma_lda 0 10)) (mt_none))
set_option maxRecDepth 100000 in
theorem smt71_6 (k : Nat) : ∀ f, mt71_6 k = some f → mo_Sim 71 k f := mt_leaf (ms_getf (e := (.getfield 9, 13, 8, 0, 282)) rfl (fun _ _ _ => rfl) : mo_Sim 71 10 (ma_getf 8 0 13)) (mt_leaf (ms_ald (e := (.aload_n 0, 14, 0, 0, 0)) rfl (fun _ _ _ => rfl) : mo_Sim 71 13 (ma_lda 0 14)) (mt_leaf (ms_getf (e := (.getfield 25, 17, 8, 5, 288)) rfl (fun _ _ _ => rfl) : mo_Sim 71 14 (ma_getf 8 5 17)) (mt_none)))
set_option maxRecDepth 100000 in
theorem smt71_4 (k : Nat) : ∀ f, mt71_4 k = some f → mo_Sim 71 k f := mt_node (smt71_5 k) (smt71_6 k)
set_option maxRecDepth 100000 in
theorem smt71_2 (k : Nat) : ∀ f, mt71_2 k = some f → mo_Sim 71 k f := mt_node (smt71_3 k) (smt71_4 k)
set_option maxRecDepth 100000 in
theorem smt71_9 (k : Nat) : ∀ f, mt71_9 k = some f → mo_Sim 71 k f := mt_leaf (ms_invV (p := 2) (e := (.invokevirtual 113, 20, 25, 0, 1025)) rfl rfl (fun _ _ _ => rfl) rfl rfl rfl (by decide) : mo_Sim 71 17 (ma_inv 25 3 7 2 20)) (mt_leaf (ms_ret (e := (.ireturn, 21, 0, 0, 0)) rfl (Or.inr (Or.inl ⟨rfl, rfl, (fun _ _ _ => rfl)⟩)) : mo_Sim 71 20 (ma_ret 1)) (mt_none))
set_option maxRecDepth 100000 in
theorem smt71_10 (k : Nat) : ∀ f, mt71_10 k = some f → mo_Sim 71 k f := mt_leaf (ms_pushi (e := (.iconst 0, 22, 0, 0, 0)) rfl (fun _ _ _ => rfl) (by decide) : mo_Sim 71 21 (ma_push (ma_ci (.ofNat 0)) 22)) (mt_leaf (ms_ist (e := (.istore_n 3, 23, 0, 0, 0)) rfl (fun _ _ _ => rfl) : mo_Sim 71 22 (ma_stor 0 3 23)) (mt_leaf (ms_ild (e := (.iload_n 3, 24, 0, 0, 0)) rfl (fun _ _ _ => rfl) : mo_Sim 71 23 (ma_load 0 3 24)) (mt_none)))
set_option maxRecDepth 100000 in
theorem smt71_8 (k : Nat) : ∀ f, mt71_8 k = some f → mo_Sim 71 k f := mt_node (smt71_9 k) (smt71_10 k)
set_option maxRecDepth 100000 in
theorem smt71_12 (k : Nat) : ∀ f, mt71_12 k = some f → mo_Sim 71 k f := mt_leaf (ms_ald (e := (.aload_n 0, 25, 0, 0, 0)) rfl (fun _ _ _ => rfl) : mo_Sim 71 24 (ma_lda 0 25)) (mt_leaf (ms_getf (e := (.getfield 25, 28, 8, 5, 288)) rfl (fun _ _ _ => rfl) : mo_Sim 71 25 (ma_getf 8 5 28)) (mt_none))
set_option maxRecDepth 100000 in
theorem smt71_13 (k : Nat) : ∀ f, mt71_13 k = some f → mo_Sim 71 k f := mt_leaf (ms_if2 (e := (.if_icmp .ge 37, 31, 65, 0, 0)) rfl (fun _ _ _ => rfl) : mo_Sim 71 28 (ma_if2 .ge 65 28 31)) (mt_leaf (ms_ald (e := (.aload_n 0, 32, 0, 0, 0)) rfl (fun _ _ _ => rfl) : mo_Sim 71 31 (ma_lda 0 32)) (mt_leaf (ms_getf (e := (.getfield 9, 35, 8, 0, 282)) rfl (fun _ _ _ => rfl) : mo_Sim 71 32 (ma_getf 8 0 35)) (mt_none)))
set_option maxRecDepth 100000 in
theorem smt71_11 (k : Nat) : ∀ f, mt71_11 k = some f → mo_Sim 71 k f := mt_node (smt71_12 k) (smt71_13 k)
set_option maxRecDepth 100000 in
theorem smt71_7 (k : Nat) : ∀ f, mt71_7 k = some f → mo_Sim 71 k f := mt_node (smt71_8 k) (smt71_11 k)
set_option maxRecDepth 100000 in
theorem smt71_1 (k : Nat) : ∀ f, mt71_1 k = some f → mo_Sim 71 k f := mt_node (smt71_2 k) (smt71_7 k)
set_option maxRecDepth 100000 in
theorem smt71_17 (k : Nat) : ∀ f, mt71_17 k = some f → mo_Sim 71 k f := mt_leaf (ms_ild (e := (.iload_n 1, 36, 0, 0, 0)) rfl (fun _ _ _ => rfl) : mo_Sim 71 35 (ma_load 0 1 36)) (mt_leaf (ms_ild (e := (.iload_n 3, 37, 0, 0, 0)) rfl (fun _ _ _ => rfl) : mo_Sim 71 36 (ma_load 0 3 37)) (mt_none))
set_option maxRecDepth 100000 in
theorem smt71_18 (k : Nat) : ∀ f, mt71_18 k = some f → mo_Sim 71 k f := mt_leaf (ms_iast (e := (.iastore, 38, 0, 0, 0)) rfl rfl (fun _ _ _ => rfl) : mo_Sim 71 37 (ma_ast 13 0 37 38)) (mt_leaf (ms_ald (e := (.aload_n 0, 39, 0, 0, 0)) rfl (fun _ _ _ => rfl) : mo_Sim 71 38 (ma_lda 0 39)) (mt_leaf (ms_ild (e := (.iload_n 1, 40, 0, 0, 0)) rfl (fun _ _ _ => rfl) : mo_Sim 71 39 (ma_load 0 1 40)) (mt_none)))
set_option maxRecDepth 100000 in
theorem smt71_16 (k : Nat) : ∀ f, mt71_16 k = some f → mo_Sim 71 k f := mt_node (smt71_17 k) (smt71_18 k)
set_option maxRecDepth 100000 in
theorem smt71_20 (k : Nat) : ∀ f, mt71_20 k = some f → mo_Sim 71 k f := mt_leaf (ms_invV (p := 1) (e := (.invokevirtual 101, 43, 72, 0, 859)) rfl rfl (fun _ _ _ => rfl) rfl rfl rfl (by decide) : mo_Sim 71 40 (ma_inv 72 2 5 8 43)) (mt_leaf (ms_if0 (e := (.ifCond .eq 16, 46, 59, 0, 0)) rfl (fun _ _ _ => rfl) : mo_Sim 71 43 (ma_if0 .eq 59 43 46)) (mt_none))
set_option maxRecDepth 100000 in
theorem smt71_21 (k : Nat) : ∀ f, mt71_21 k = some f → mo_Sim 71 k f := mt_leaf (ms_ald (e := (.aload_n 0, 47, 0, 0, 0)) rfl (fun _ _ _ => rfl) : mo_Sim 71 46 (ma_lda 0 47)) (mt_leaf (ms_ild (e := (.iload_n 1, 48, 0, 0, 0)) rfl (fun _ _ _ => rfl) : mo_Sim 71 47 (ma_load 0 1 48)) (mt_leaf (ms_pushi (e := (.iconst 1, 49, 0, 0, 0)) rfl (fun _ _ _ => rfl) (by decide) : mo_Sim 71 48 (ma_push (ma_ci (.ofNat 1)) 49)) (mt_none)))
set_option maxRecDepth 100000 in
theorem smt71_19 (k : Nat) : ∀ f, mt71_19 k = some f → mo_Sim 71 k f := mt_node (smt71_20 k) (smt71_21 k)
set_option maxRecDepth 100000 in
theorem smt71_15 (k : Nat) : ∀ f, mt71_15 k = some f → mo_Sim 71 k f := mt_node (smt71_16 k) (smt71_19 k)
set_option maxRecDepth 100000 in
theorem smt71_24 (k : Nat) : ∀ f, mt71_24 k = some f → mo_Sim 71 k f := mt_leaf (ms_iadd (e := (.iadd, 50, 0, 0, 0)) rfl (fun _ _ _ => rfl) : mo_Sim 71 49 (ma_iadd 49 50)) (mt_leaf (ms_ald (e := (.aload_n 2, 51, 0, 0, 0)) rfl (fun _ _ _ => rfl) : mo_Sim 71 50 (ma_lda 2 51)) (mt_none))
set_option maxRecDepth 100000 in
theorem smt71_25 (k : Nat) : ∀ f, mt71_25 k = some f → mo_Sim 71 k f := mt_leaf (ms_invS (e := (.invokestatic 105, 54, 71, 1, 1022)) rfl rfl (fun _ _ _ => rfl) rfl rfl : mo_Sim 71 51 (ma_inv 71 3 4 20 54)) (mt_leaf (ms_if0 (e := (.ifCond .eq 5, 57, 59, 0, 0)) rfl (fun _ _ _ => rfl) : mo_Sim 71 54 (ma_if0 .eq 59 54 57)) (mt_leaf (ms_pushi (e := (.iconst 1, 58, 0, 0, 0)) rfl (fun _ _ _ => rfl) (by decide) : mo_Sim 71 57 (ma_push (ma_ci (.ofNat 1)) 58)) (mt_none)))
set_option maxRecDepth 100000 in
theorem smt71_23 (k : Nat) : ∀ f, mt71_23 k = some f → mo_Sim 71 k f := mt_node (smt71_24 k) (smt71_25 k)
set_option maxRecDepth 100000 in
theorem smt71_27 (k : Nat) : ∀ f, mt71_27 k = some f → mo_Sim 71 k f := mt_leaf (ms_ret (e := (.ireturn, 59, 0, 0, 0)) rfl (Or.inr (Or.inl ⟨rfl, rfl, (fun _ _ _ => rfl)⟩)) : mo_Sim 71 58 (ma_ret 1)) (mt_leaf (ms_iinc (e := (.iinc 3 1, 62, 0, 0, 0)) rfl (fun _ _ _ => rfl) (by decide) : mo_Sim 71 59 (ma_iinc 3 (.ofNat 1) 59 62)) (mt_none))
set_option maxRecDepth 100000 in
theorem smt71_28 (k : Nat) : ∀ f, mt71_28 k = some f → mo_Sim 71 k f := mt_leaf (ms_goto (e := (.goto (-39), 65, 23, 0, 0)) rfl (fun _ _ _ => rfl) : mo_Sim 71 62 (ma_goto 23)) (mt_leaf (ms_pushi (e := (.iconst 0, 66, 0, 0, 0)) rfl (fun _ _ _ => rfl) (by decide) : mo_Sim 71 65 (ma_push (ma_ci (.ofNat 0)) 66)) (mt_leaf (ms_ret (e := (.ireturn, 67, 0, 0, 0)) rfl (Or.inr (Or.inl ⟨rfl, rfl, (fun _ _ _ => rfl)⟩)) : mo_Sim 71 66 (ma_ret 1)) (mt_none)))
set_option maxRecDepth 100000 in
theorem smt71_26 (k : Nat) : ∀ f, mt71_26 k = some f → mo_Sim 71 k f := mt_node (smt71_27 k) (smt71_28 k)
set_option maxRecDepth 100000 in
theorem smt71_22 (k : Nat) : ∀ f, mt71_22 k = some f → mo_Sim 71 k f := mt_node (smt71_23 k) (smt71_26 k)
set_option maxRecDepth 100000 in
theorem smt71_14 (k : Nat) : ∀ f, mt71_14 k = some f → mo_Sim 71 k f := mt_node (smt71_15 k) (smt71_22 k)
set_option maxRecDepth 100000 in
theorem smt71_0 (k : Nat) : ∀ f, mt71_0 k = some f → mo_Sim 71 k f := mt_node (smt71_1 k) (smt71_14 k)
set_option maxRecDepth 100000 in
theorem smt72_4 (k : Nat) : ∀ f, mt72_4 k = some f → mo_Sim 72 k f := mt_leaf (ms_ald (e := (.aload_n 0, 1, 0, 0, 0)) rfl (fun _ _ _ => rfl) : mo_Sim 72 0 (ma_lda 0 1)) (mt_leaf (ms_getf (e := (.getfield 22, 4, 8, 4, 287)) rfl (fun _ _ _ => rfl) : mo_Sim 72 1 (ma_getf 8 4 4)) (mt_leaf (ms_ild (e := (.iload_n 1, 5, 0, 0, 0)) rfl (fun _ _ _ => rfl) : mo_Sim 72 4 (ma_load 0 1 5)) (mt_leaf (ms_iald (e := (.iaload, 6, 0, 0, 0)) rfl (fun _ _ _ => rfl) : mo_Sim 72 5 (ma_iald 5 6)) (mt_none))))
set_option maxRecDepth 100000 in
theorem smt72_5 (k : Nat) : ∀ f, mt72_5 k = some f → mo_Sim 72 k f := mt_leaf (ms_ist (e := (.istore_n 2, 7, 0, 0, 0)) rfl (fun _ _ _ => rfl) : mo_Sim 72 6 (ma_stor 0 2 7)) (mt_leaf (ms_ild (e := (.iload_n 2, 8, 0, 0, 0)) rfl (fun _ _ _ => rfl) : mo_Sim 72 7 (ma_load 0 2 8)) (mt_leaf (ms_ald (e := (.aload_n 0, 9, 0, 0, 0)) rfl (fun _ _ _ => rfl) : mo_Sim 72 8 (ma_lda 0 9)) (mt_leaf (ms_getf (e := (.getfield 22, 12, 8, 4, 287)) rfl (fun _ _ _ => rfl) : mo_Sim 72 9 (ma_getf 8 4 12)) (mt_none))))
set_option maxRecDepth 100000 in
theorem smt72_3 (k : Nat) : ∀ f, mt72_3 k = some f → mo_Sim 72 k f := mt_node (smt72_4 k) (smt72_5 k)
set_option maxRecDepth 100000 in
theorem smt72_7 (k : Nat) : ∀ f, mt72_7 k = some f → mo_Sim 72 k f := mt_leaf (ms_ild (e := (.iload_n 1, 13, 0, 0, 0)) rfl (fun _ _ _ => rfl) : mo_Sim 72 12 (ma_load 0 1 13)) (mt_leaf (ms_pushi (e := (.iconst 1, 14, 0, 0, 0)) rfl (fun _ _ _ => rfl) (by decide) : mo_Sim 72 13 (ma_push (ma_ci (.ofNat 1)) 14)) (mt_leaf (ms_iadd (e := (.iadd, 15, 0, 0, 0)) rfl (fun _ _ _ => rfl) : mo_Sim 72 14 (ma_iadd 14 15)) (mt_leaf (ms_iald (e := (.iaload, 16, 0, 0, 0)) rfl (fun _ _ _ => rfl) : mo_Sim 72 15 (ma_iald 15 16)) (mt_none))))
set_option maxRecDepth 100000 in
theorem smt72_8 (k : Nat) : ∀ f, mt72_8 k = some f → mo_Sim 72 k f := mt_leaf (ms_if2 (e := (.if_icmp .ge 79, 19, 95, 0, 0)) rfl (fun _ _ _ => rfl) : mo_Sim 72 16 (ma_if2 .ge 95 16 19)) (mt_leaf (ms_ald (e := (.aload_n 0, 20, 0, 0, 0)) rfl (fun _ _ _ => rfl) : mo_Sim 72 19 (ma_lda 0 20)) (mt_leaf (ms_getf (e := (.getfield 16, 23, 8, 2, 285)) rfl (fun _ _ _ => rfl) : mo_Sim 72 20 (ma_getf 8 2 23)) (mt_leaf (ms_ild (e := (.iload_n 2, 24, 0, 0, 0)) rfl (fun _ _ _ => rfl) : mo_Sim 72 23 (ma_load 0 2 24)) (mt_none))))
set_option maxRecDepth 100000 in
theorem smt72_6 (k : Nat) : ∀ f, mt72_6 k = some f → mo_Sim 72 k f := mt_node (smt72_7 k) (smt72_8 k)
set_option maxRecDepth 100000 in
theorem smt72_2 (k : Nat) : ∀ f, mt72_2 k = some f → mo_Sim 72 k f := mt_node (smt72_3 k) (smt72_6 k)
set_option maxRecDepth 100000 in
theorem smt72_11 (k : Nat) : ∀ f, mt72_11 k = some f → mo_Sim 72 k f := mt_leaf (ms_iald (e := (.iaload, 25, 0, 0, 0)) rfl (fun _ _ _ => rfl) : mo_Sim 72 24 (ma_iald 24 25)) (mt_leaf (ms_ist (e := (.istore_n 3, 26, 0, 0, 0)) rfl (fun _ _ _ => rfl) : mo_Sim 72 25 (ma_stor 0 3 26)) (mt_leaf (ms_ald (e := (.aload_n 0, 27, 0, 0, 0)) rfl (fun _ _ _ => rfl) : mo_Sim 72 26 (ma_lda 0 27)) (mt_leaf (ms_getf (e := (.getfield 9, 30, 8, 0, 282)) rfl (fun _ _ _ => rfl) : mo_Sim 72 27 (ma_getf 8 0 30)) (mt_none))))
set_option maxRecDepth 100000 in
theorem smt72_12 (k : Nat) : ∀ f, mt72_12 k = some f → mo_Sim 72 k f := mt_leaf (ms_ild (e := (.iload_n 3, 31, 0, 0, 0)) rfl (fun _ _ _ => rfl) : mo_Sim 72 30 (ma_load 0 3 31)) (mt_leaf (ms_pushi (e := (.bipush 15, 33, 0, 0, 0)) rfl (fun _ _ _ => rfl) (by decide) : mo_Sim 72 31 (ma_push (ma_ci (.ofNat 15)) 33)) (mt_leaf (ms_iand (e := (.iand, 34, 0, 0, 0)) rfl (fun _ _ _ => rfl) : mo_Sim 72 33 (ma_iand 33 34)) (mt_leaf (ms_iald (e := (.iaload, 35, 0, 0, 0)) rfl (fun _ _ _ => rfl) : mo_Sim 72 34 (ma_iald 34 35)) (mt_none))))
set_option maxRecDepth 100000 in
theorem smt72_10 (k : Nat) : ∀ f, mt72_10 k = some f → mo_Sim 72 k f := mt_node (smt72_11 k) (smt72_12 k)
set_option maxRecDepth 100000 in
theorem smt72_14 (k : Nat) : ∀ f, mt72_14 k = some f → mo_Sim 72 k f := mt_leaf (ms_ald (e := (.aload_n 0, 36, 0, 0, 0)) rfl (fun _ _ _ => rfl) : mo_Sim 72 35 (ma_lda 0 36)) (mt_leaf (ms_getf (e := (.getfield 25, 39, 8, 5, 288)) rfl (fun _ _ _ => rfl) : mo_Sim 72 36 (ma_getf 8 5 39)) (mt_leaf (ms_i2 (e := (.imul, 40, 0, 0, 0)) rfl (fun _ _ _ => rfl) hf_mul : mo_Sim 72 39 (ma_i2 ma_fmul 39 40)) (mt_leaf (ms_ald (e := (.aload_n 0, 41, 0, 0, 0)) rfl (fun _ _ _ => rfl) : mo_Sim 72 40 (ma_lda 0 41)) (mt_none))))
set_option maxRecDepth 100000 in
theorem smt72_15 (k : Nat) : ∀ f, mt72_15 k = some f → mo_Sim 72 k f := mt_leaf (ms_getf (e := (.getfield 9, 44, 8, 0, 282)) rfl (fun _ _ _ => rfl) : mo_Sim 72 41 (ma_getf 8 0 44)) (mt_leaf (ms_ild (e := (.iload_n 3, 45, 0, 0, 0)) rfl (fun _ _ _ => rfl) : mo_Sim 72 44 (ma_load 0 3 45)) (mt_leaf (ms_pushi (e := (.iconst 4, 46, 0, 0, 0)) rfl (fun _ _ _ => rfl) (by decide) : mo_Sim 72 45 (ma_push (ma_ci (.ofNat 4)) 46)) (mt_leaf (ms_i2 (e := (.ishr, 47, 0, 0, 0)) rfl (fun _ _ _ => rfl) hf_shr : mo_Sim 72 46 (ma_i2 ma_fshr 46 47)) (mt_none))))
set_option maxRecDepth 100000 in
theorem smt72_13 (k : Nat) : ∀ f, mt72_13 k = some f → mo_Sim 72 k f := mt_node (smt72_14 k) (smt72_15 k)
set_option maxRecDepth 100000 in
theorem smt72_9 (k : Nat) : ∀ f, mt72_9 k = some f → mo_Sim 72 k f := mt_node (smt72_10 k) (smt72_13 k)
set_option maxRecDepth 100000 in
theorem smt72_1 (k : Nat) : ∀ f, mt72_1 k = some f → mo_Sim 72 k f := mt_node (smt72_2 k) (smt72_9 k)
set_option maxRecDepth 100000 in
theorem smt72_19 (k : Nat) : ∀ f, mt72_19 k = some f → mo_Sim 72 k f := mt_leaf (ms_pushi (e := (.bipush 15, 49, 0, 0, 0)) rfl (fun _ _ _ => rfl) (by decide) : mo_Sim 72 47 (ma_push (ma_ci (.ofNat 15)) 49)) (mt_leaf (ms_iand (e := (.iand, 50, 0, 0, 0)) rfl (fun _ _ _ => rfl) : mo_Sim 72 49 (ma_iand 49 50)) (mt_leaf (ms_iald (e := (.iaload, 51, 0, 0, 0)) rfl (fun _ _ _ => rfl) : mo_Sim 72 50 (ma_iald 50 51)) (mt_leaf (ms_iadd (e := (.iadd, 52, 0, 0, 0)) rfl (fun _ _ _ => rfl) : mo_Sim 72 51 (ma_iadd 51 52)) (mt_none))))
set_option maxRecDepth 100000 in
theorem smt72_20 (k : Nat) : ∀ f, mt72_20 k = some f → mo_Sim 72 k f := mt_leaf (ms_ist (e := (.istore 4, 54, 0, 0, 0)) rfl (fun _ _ _ => rfl) : mo_Sim 72 52 (ma_stor 0 4 54)) (mt_leaf (ms_ild (e := (.iload 4, 56, 0, 0, 0)) rfl (fun _ _ _ => rfl) : mo_Sim 72 54 (ma_load 0 4 56)) (mt_leaf (ms_ald (e := (.aload_n 0, 57, 0, 0, 0)) rfl (fun _ _ _ => rfl) : mo_Sim 72 56 (ma_lda 0 57)) (mt_leaf (ms_getf (e := (.getfield 25, 60, 8, 5, 288)) rfl (fun _ _ _ => rfl) : mo_Sim 72 57 (ma_getf 8 5 60)) (mt_none))))
set_option maxRecDepth 100000 in
theorem smt72_18 (k : Nat) : ∀ f, mt72_18 k = some f → mo_Sim 72 k f := mt_node (smt72_19 k) (smt72_20 k)
set_option maxRecDepth 100000 in
theorem smt72_22 (k : Nat) : ∀ f, mt72_22 k = some f → mo_Sim 72 k f := mt_leaf (ms_i2 (e := (.imul, 61, 0, 0, 0)) rfl (fun _ _ _ => rfl) hf_mul : mo_Sim 72 60 (ma_i2 ma_fmul 60 61)) (mt_leaf (ms_ald (e := (.aload_n 0, 62, 0, 0, 0)) rfl (fun _ _ _ => rfl) : mo_Sim 72 61 (ma_lda 0 62)) (mt_leaf (ms_getf (e := (.getfield 9, 65, 8, 0, 282)) rfl (fun _ _ _ => rfl) : mo_Sim 72 62 (ma_getf 8 0 65)) (mt_leaf (ms_ild (e := (.iload_n 3, 66, 0, 0, 0)) rfl (fun _ _ _ => rfl) : mo_Sim 72 65 (ma_load 0 3 66)) (mt_none))))
set_option maxRecDepth 100000 in
theorem smt72_23 (k : Nat) : ∀ f, mt72_23 k = some f → mo_Sim 72 k f := mt_leaf (ms_pushi (e := (.bipush 8, 68, 0, 0, 0)) rfl (fun _ _ _ => rfl) (by decide) : mo_Sim 72 66 (ma_push (ma_ci (.ofNat 8)) 68)) (mt_leaf (ms_i2 (e := (.ishr, 69, 0, 0, 0)) rfl (fun _ _ _ => rfl) hf_shr : mo_Sim 72 68 (ma_i2 ma_fshr 68 69)) (mt_leaf (ms_iald (e := (.iaload, 70, 0, 0, 0)) rfl (fun _ _ _ => rfl) : mo_Sim 72 69 (ma_iald 69 70)) (mt_leaf (ms_iadd (e := (.iadd, 71, 0, 0, 0)) rfl (fun _ _ _ => rfl) : mo_Sim 72 70 (ma_iadd 70 71)) (mt_none))))
set_option maxRecDepth 100000 in
theorem smt72_21 (k : Nat) : ∀ f, mt72_21 k = some f → mo_Sim 72 k f := mt_node (smt72_22 k) (smt72_23 k)
set_option maxRecDepth 100000 in
theorem smt72_17 (k : Nat) : ∀ f, mt72_17 k = some f → mo_Sim 72 k f := mt_node (smt72_18 k) (smt72_21 k)
set_option maxRecDepth 100000 in
theorem smt72_26 (k : Nat) : ∀ f, mt72_26 k = some f → mo_Sim 72 k f := mt_leaf (ms_ist (e := (.istore 4, 73, 0, 0, 0)) rfl (fun _ _ _ => rfl) : mo_Sim 72 71 (ma_stor 0 4 73)) (mt_leaf (ms_ald (e := (.aload_n 0, 74, 0, 0, 0)) rfl (fun _ _ _ => rfl) : mo_Sim 72 73 (ma_lda 0 74)) (mt_leaf (ms_getf (e := (.getfield 19, 77, 8, 3, 286)) rfl (fun _ _ _ => rfl) : mo_Sim 72 74 (ma_getf 8 3 77)) (mt_leaf (ms_ild (e := (.iload_n 2, 78, 0, 0, 0)) rfl (fun _ _ _ => rfl) : mo_Sim 72 77 (ma_load 0 2 78)) (mt_none))))
set_option maxRecDepth 100000 in
theorem smt72_27 (k : Nat) : ∀ f, mt72_27 k = some f → mo_Sim 72 k f := mt_leaf (ms_iald (e := (.iaload, 79, 0, 0, 0)) rfl (fun _ _ _ => rfl) : mo_Sim 72 78 (ma_iald 78 79)) (mt_leaf (ms_ild (e := (.iload 4, 81, 0, 0, 0)) rfl (fun _ _ _ => rfl) : mo_Sim 72 79 (ma_load 0 4 81)) (mt_leaf (ms_i2 (e := (.ishr, 82, 0, 0, 0)) rfl (fun _ _ _ => rfl) hf_shr : mo_Sim 72 81 (ma_i2 ma_fshr 81 82)) (mt_leaf (ms_pushi (e := (.iconst 1, 83, 0, 0, 0)) rfl (fun _ _ _ => rfl) (by decide) : mo_Sim 72 82 (ma_push (ma_ci (.ofNat 1)) 83)) (mt_none))))
set_option maxRecDepth 100000 in
theorem smt72_25 (k : Nat) : ∀ f, mt72_25 k = some f → mo_Sim 72 k f := mt_node (smt72_26 k) (smt72_27 k)
set_option maxRecDepth 100000 in
theorem smt72_29 (k : Nat) : ∀ f, mt72_29 k = some f → mo_Sim 72 k f := mt_leaf (ms_iand (e := (.iand, 84, 0, 0, 0)) rfl (fun _ _ _ => rfl) : mo_Sim 72 83 (ma_iand 83 84)) (mt_leaf (ms_if0 (e := (.ifCond .ne 5, 87, 89, 0, 0)) rfl (fun _ _ _ => rfl) : mo_Sim 72 84 (ma_if0 .ne 89 84 87)) (mt_leaf (ms_pushi (e := (.iconst 0, 88, 0, 0, 0)) rfl (fun _ _ _ => rfl) (by decide) : mo_Sim 72 87 (ma_push (ma_ci (.ofNat 0)) 88)) (mt_leaf (ms_ret (e := (.ireturn, 89, 0, 0, 0)) rfl (Or.inr (Or.inl ⟨rfl, rfl, (fun _ _ _ => rfl)⟩)) : mo_Sim 72 88 (ma_ret 1)) (mt_none))))
set_option maxRecDepth 100000 in
theorem smt72_30 (k : Nat) : ∀ f, mt72_30 k = some f → mo_Sim 72 k f := mt_leaf (ms_iinc (e := (.iinc 2 1, 92, 0, 0, 0)) rfl (fun _ _ _ => rfl) (by decide) : mo_Sim 72 89 (ma_iinc 2 (.ofNat 1) 89 92)) (mt_leaf (ms_goto (e := (.goto (-85), 95, 7, 0, 0)) rfl (fun _ _ _ => rfl) : mo_Sim 72 92 (ma_goto 7)) (mt_leaf (ms_pushi (e := (.iconst 1, 96, 0, 0, 0)) rfl (fun _ _ _ => rfl) (by decide) : mo_Sim 72 95 (ma_push (ma_ci (.ofNat 1)) 96)) (mt_leaf (ms_ret (e := (.ireturn, 97, 0, 0, 0)) rfl (Or.inr (Or.inl ⟨rfl, rfl, (fun _ _ _ => rfl)⟩)) : mo_Sim 72 96 (ma_ret 1)) (mt_none))))
set_option maxRecDepth 100000 in
theorem smt72_28 (k : Nat) : ∀ f, mt72_28 k = some f → mo_Sim 72 k f := mt_node (smt72_29 k) (smt72_30 k)
set_option maxRecDepth 100000 in
theorem smt72_24 (k : Nat) : ∀ f, mt72_24 k = some f → mo_Sim 72 k f := mt_node (smt72_25 k) (smt72_28 k)
set_option maxRecDepth 100000 in
theorem smt72_16 (k : Nat) : ∀ f, mt72_16 k = some f → mo_Sim 72 k f := mt_node (smt72_17 k) (smt72_24 k)
set_option maxRecDepth 100000 in
theorem smt72_0 (k : Nat) : ∀ f, mt72_0 k = some f → mo_Sim 72 k f := mt_node (smt72_1 k) (smt72_16 k)
set_option maxRecDepth 100000 in
theorem smt73_3 (k : Nat) : ∀ f, mt73_3 k = some f → mo_Sim 73 k f := mt_leaf (ms_ald (e := (.aload_n 0, 1, 0, 0, 0)) rfl (fun _ _ _ => rfl) : mo_Sim 73 0 (ma_lda 0 1)) (mt_leaf (ms_obj (e := (.invokespecial 3, 4, 0, 4, 246)) rfl (fun _ _ _ => rfl) : mo_Sim 73 1 (ma_obj 4)) (mt_leaf (ms_ald (e := (.aload_n 0, 5, 0, 0, 0)) rfl (fun _ _ _ => rfl) : mo_Sim 73 4 (ma_lda 0 5)) (mt_none)))
set_option maxRecDepth 100000 in
theorem smt73_4 (k : Nat) : ∀ f, mt73_4 k = some f → mo_Sim 73 k f := mt_leaf (ms_pushi (e := (.iconst 1, 6, 0, 0, 0)) rfl (fun _ _ _ => rfl) (by decide) : mo_Sim 73 5 (ma_push (ma_ci (.ofNat 1)) 6)) (mt_leaf (ms_putf (e := (.putfield 9, 9, 9, 0, 247)) rfl rfl (fun _ _ _ => rfl) (Or.inl ⟨rfl, rfl⟩) : mo_Sim 73 6 (ma_putf 9 0 0 9)) (mt_leaf (ms_ald (e := (.aload_n 0, 10, 0, 0, 0)) rfl (fun _ _ _ => rfl) : mo_Sim 73 9 (ma_lda 0 10)) (mt_none)))
set_option maxRecDepth 100000 in
theorem smt73_2 (k : Nat) : ∀ f, mt73_2 k = some f → mo_Sim 73 k f := mt_node (smt73_3 k) (smt73_4 k)
set_option maxRecDepth 100000 in
theorem smt73_6 (k : Nat) : ∀ f, mt73_6 k = some f → mo_Sim 73 k f := mt_leaf (ms_pushi (e := (.bipush 30, 12, 0, 0, 0)) rfl (fun _ _ _ => rfl) (by decide) : mo_Sim 73 10 (ma_push (ma_ci (.ofNat 30)) 12)) (mt_leaf (ms_newaI (e := (.newarray .int, 14, 0, 0, 0)) rfl rfl (fun _ _ _ => rfl) : mo_Sim 73 12 (ma_newa 13 (ma_ci (.ofNat 0)) 14)) (mt_leaf (ms_putf (e := (.putfield 13, 17, 9, 2, 251)) rfl rfl (fun _ _ _ => rfl) (Or.inr (Or.inr (Or.inl ⟨rfl, Or.inr ⟨_, rfl⟩⟩))) : mo_Sim 73 14 (ma_putf 9 2 2 17)) (mt_none)))
set_option maxRecDepth 100000 in
theorem smt73_7 (k : Nat) : ∀ f, mt73_7 k = some f → mo_Sim 73 k f := mt_leaf (ms_ald (e := (.aload_n 0, 18, 0, 0, 0)) rfl (fun _ _ _ => rfl) : mo_Sim 73 17 (ma_lda 0 18)) (mt_leaf (ms_pushi (e := (.bipush 30, 20, 0, 0, 0)) rfl (fun _ _ _ => rfl) (by decide) : mo_Sim 73 18 (ma_push (ma_ci (.ofNat 30)) 20)) (mt_leaf (ms_newaI (e := (.newarray .int, 22, 0, 0, 0)) rfl rfl (fun _ _ _ => rfl) : mo_Sim 73 20 (ma_newa 13 (ma_ci (.ofNat 0)) 22)) (mt_leaf (ms_putf (e := (.putfield 17, 25, 9, 3, 253)) rfl rfl (fun _ _ _ => rfl) (Or.inr (Or.inr (Or.inl ⟨rfl, Or.inr ⟨_, rfl⟩⟩))) : mo_Sim 73 22 (ma_putf 9 3 2 25)) (mt_none))))
set_option maxRecDepth 100000 in
theorem smt73_5 (k : Nat) : ∀ f, mt73_5 k = some f → mo_Sim 73 k f := mt_node (smt73_6 k) (smt73_7 k)
set_option maxRecDepth 100000 in
theorem smt73_1 (k : Nat) : ∀ f, mt73_1 k = some f → mo_Sim 73 k f := mt_node (smt73_2 k) (smt73_5 k)
set_option maxRecDepth 100000 in
theorem smt73_10 (k : Nat) : ∀ f, mt73_10 k = some f → mo_Sim 73 k f := mt_leaf (ms_ald (e := (.aload_n 0, 26, 0, 0, 0)) rfl (fun _ _ _ => rfl) : mo_Sim 73 25 (ma_lda 0 26)) (mt_leaf (ms_pushi (e := (.bipush 30, 28, 0, 0, 0)) rfl (fun _ _ _ => rfl) (by decide) : mo_Sim 73 26 (ma_push (ma_ci (.ofNat 30)) 28)) (mt_leaf (ms_newaI (e := (.newarray .int, 30, 0, 0, 0)) rfl rfl (fun _ _ _ => rfl) : mo_Sim 73 28 (ma_newa 13 (ma_ci (.ofNat 0)) 30)) (mt_none)))
set_option maxRecDepth 100000 in
theorem smt73_11 (k : Nat) : ∀ f, mt73_11 k = some f → mo_Sim 73 k f := mt_leaf (ms_putf (e := (.putfield 20, 33, 9, 4, 255)) rfl rfl (fun _ _ _ => rfl) (Or.inr (Or.inr (Or.inl ⟨rfl, Or.inr ⟨_, rfl⟩⟩))) : mo_Sim 73 30 (ma_putf 9 4 2 33)) (mt_leaf (ms_ald (e := (.aload_n 0, 34, 0, 0, 0)) rfl (fun _ _ _ => rfl) : mo_Sim 73 33 (ma_lda 0 34)) (mt_leaf (ms_pushi (e := (.bipush 30, 36, 0, 0, 0)) rfl (fun _ _ _ => rfl) (by decide) : mo_Sim 73 34 (ma_push (ma_ci (.ofNat 30)) 36)) (mt_none)))
set_option maxRecDepth 100000 in
theorem smt73_9 (k : Nat) : ∀ f, mt73_9 k = some f → mo_Sim 73 k f := mt_node (smt73_10 k) (smt73_11 k)
set_option maxRecDepth 100000 in
theorem smt73_13 (k : Nat) : ∀ f, mt73_13 k = some f → mo_Sim 73 k f := mt_leaf (ms_newaI (e := (.newarray .int, 38, 0, 0, 0)) rfl rfl (fun _ _ _ => rfl) : mo_Sim 73 36 (ma_newa 13 (ma_ci (.ofNat 0)) 38)) (mt_leaf (ms_putf (e := (.putfield 23, 41, 9, 5, 257)) rfl rfl (fun _ _ _ => rfl) (Or.inr (Or.inr (Or.inl ⟨rfl, Or.inr ⟨_, rfl⟩⟩))) : mo_Sim 73 38 (ma_putf 9 5 2 41)) (mt_leaf (ms_ald (e := (.aload_n 0, 42, 0, 0, 0)) rfl (fun _ _ _ => rfl) : mo_Sim 73 41 (ma_lda 0 42)) (mt_none)))
set_option maxRecDepth 100000 in
theorem smt73_14 (k : Nat) : ∀ f, mt73_14 k = some f → mo_Sim 73 k f := mt_leaf (ms_pushi (e := (.bipush 8, 44, 0, 0, 0)) rfl (fun _ _ _ => rfl) (by decide) : mo_Sim 73 42 (ma_push (ma_ci (.ofNat 8)) 44)) (mt_leaf (ms_newaI (e := (.newarray .int, 46, 0, 0, 0)) rfl rfl (fun _ _ _ => rfl) : mo_Sim 73 44 (ma_newa 13 (ma_ci (.ofNat 0)) 46)) (mt_leaf (ms_putf (e := (.putfield 26, 49, 9, 6, 259)) rfl rfl (fun _ _ _ => rfl) (Or.inr (Or.inr (Or.inl ⟨rfl, Or.inr ⟨_, rfl⟩⟩))) : mo_Sim 73 46 (ma_putf 9 6 2 49)) (mt_leaf (ms_retv (e := (.return_, 50, 0, 0, 0)) rfl rfl (fun _ _ _ => rfl) : mo_Sim 73 49 (ma_retv)) (mt_none))))
set_option maxRecDepth 100000 in
theorem smt73_12 (k : Nat) : ∀ f, mt73_12 k = some f → mo_Sim 73 k f := mt_node (smt73_13 k) (smt73_14 k)
set_option maxRecDepth 100000 in
theorem smt73_8 (k : Nat) : ∀ f, mt73_8 k = some f → mo_Sim 73 k f := mt_node (smt73_9 k) (smt73_12 k)
set_option maxRecDepth 100000 in
theorem smt73_0 (k : Nat) : ∀ f, mt73_0 k = some f → mo_Sim 73 k f := mt_node (smt73_1 k) (smt73_8 k)
set_option maxRecDepth 100000 in
theorem smt74_1 (k : Nat) : ∀ f, mt74_1 k = some f → mo_Sim 74 k f := mt_leaf (ms_ald (e := (.aload_n 0, 1, 0, 0, 0)) rfl (fun _ _ _ => rfl) : mo_Sim 74 0 (ma_lda 0 1)) (mt_leaf (ms_ild (e := (.iload_n 1, 2, 0, 0, 0)) rfl (fun _ _ _ => rfl) : mo_Sim 74 1 (ma_load 0 1 2)) (mt_leaf (ms_putf (e := (.putfield 9, 5, 9, 0, 247)) rfl rfl (fun _ _ _ => rfl) (Or.inl ⟨rfl, rfl⟩) : mo_Sim 74 2 (ma_putf 9 0 0 5)) (mt_none)))
set_option maxRecDepth 100000 in
theorem smt74_2 (k : Nat) : ∀ f, mt74_2 k = some f → mo_Sim 74 k f := mt_leaf (ms_ald (e := (.aload_n 0, 6, 0, 0, 0)) rfl (fun _ _ _ => rfl) : mo_Sim 74 5 (ma_lda 0 6)) (mt_leaf (ms_pushi (e := (.iconst 0, 7, 0, 0, 0)) rfl (fun _ _ _ => rfl) (by decide) : mo_Sim 74 6 (ma_push (ma_ci (.ofNat 0)) 7)) (mt_leaf (ms_putf (e := (.putfield 29, 10, 9, 1, 249)) rfl rfl (fun _ _ _ => rfl) (Or.inl ⟨rfl, rfl⟩) : mo_Sim 74 7 (ma_putf 9 1 0 10)) (mt_leaf (ms_retv (e := (.return_, 11, 0, 0, 0)) rfl rfl (fun _ _ _ => rfl) : mo_Sim 74 10 (ma_retv)) (mt_none))))
set_option maxRecDepth 100000 in
theorem smt74_0 (k : Nat) : ∀ f, mt74_0 k = some f → mo_Sim 74 k f := mt_node (smt74_1 k) (smt74_2 k)
set_option maxRecDepth 100000 in
theorem smt75_2 (k : Nat) : ∀ f, mt75_2 k = some f → mo_Sim 75 k f := mt_leaf (ms_ild (e := (.iload_n 1, 1, 0, 0, 0)) rfl (fun _ _ _ => rfl) : mo_Sim 75 0 (ma_load 0 1 1)) (mt_leaf (ms_if0 (e := (.ifCond .lt 15, 4, 16, 0, 0)) rfl (fun _ _ _ => rfl) : mo_Sim 75 1 (ma_if0 .lt 16 1 4)) (mt_none))
set_option maxRecDepth 100000 in
theorem smt75_3 (k : Nat) : ∀ f, mt75_3 k = some f → mo_Sim 75 k f := mt_leaf (ms_ild (e := (.iload_n 1, 5, 0, 0, 0)) rfl (fun _ _ _ => rfl) : mo_Sim 75 4 (ma_load 0 1 5)) (mt_leaf (ms_ald (e := (.aload_n 0, 6, 0, 0, 0)) rfl (fun _ _ _ => rfl) : mo_Sim 75 5 (ma_lda 0 6)) (mt_leaf (ms_getf (e := (.getfield 9, 9, 9, 0, 247)) rfl (fun _ _ _ => rfl) : mo_Sim 75 6 (ma_getf 9 0 9)) (mt_none)))
set_option maxRecDepth 100000 in
theorem smt75_1 (k : Nat) : ∀ f, mt75_1 k = some f → mo_Sim 75 k f := mt_node (smt75_2 k) (smt75_3 k)
set_option maxRecDepth 100000 in
theorem smt75_5 (k : Nat) : ∀ f, mt75_5 k = some f → mo_Sim 75 k f := mt_leaf (ms_if2 (e := (.if_icmp .ge 7, 12, 16, 0, 0)) rfl (fun _ _ _ => rfl) : mo_Sim 75 9 (ma_if2 .ge 16 9 12)) (mt_leaf (ms_pushi (e := (.iconst 1, 13, 0, 0, 0)) rfl (fun _ _ _ => rfl) (by decide) : mo_Sim 75 12 (ma_push (ma_ci (.ofNat 1)) 13)) (mt_none))
set_option maxRecDepth 100000 in
theorem smt75_6 (k : Nat) : ∀ f, mt75_6 k = some f → mo_Sim 75 k f := mt_leaf (ms_goto (e := (.goto 4, 16, 17, 0, 0)) rfl (fun _ _ _ => rfl) : mo_Sim 75 13 (ma_goto 17)) (mt_leaf (ms_pushi (e := (.iconst 0, 17, 0, 0, 0)) rfl (fun _ _ _ => rfl) (by decide) : mo_Sim 75 16 (ma_push (ma_ci (.ofNat 0)) 17)) (mt_leaf (ms_ret (e := (.ireturn, 18, 0, 0, 0)) rfl (Or.inr (Or.inl ⟨rfl, rfl, (fun _ _ _ => rfl)⟩)) : mo_Sim 75 17 (ma_ret 1)) (mt_none)))
set_option maxRecDepth 100000 in
theorem smt75_4 (k : Nat) : ∀ f, mt75_4 k = some f → mo_Sim 75 k f := mt_node (smt75_5 k) (smt75_6 k)
set_option maxRecDepth 100000 in
theorem smt75_0 (k : Nat) : ∀ f, mt75_0 k = some f → mo_Sim 75 k f := mt_node (smt75_1 k) (smt75_4 k)
