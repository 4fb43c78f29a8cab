set_option maxRecDepth 100000 in
theorem smt197_5 (k : Nat) : ∀ f, mt197_5 k = some f → mo_Sim 197 k f := mt_leaf (ms_pushi (e := (.iconst 0, 1, 0, 0, 0)) rfl (fun _ _ _ => rfl) (by decide) : mo_Sim 197 0 (ma_push (ma_ci (.ofNat 0)) 1)) (mt_leaf (ms_ist (e := (.istore_n 1, 2, 0, 0, 0)) rfl (fun _ _ _ => rfl) : mo_Sim 197 1 (ma_stor 0 1 2)) (mt_leaf (ms_ild (e := (.iload_n 1, 3, 0, 0, 0)) rfl (fun _ _ _ => rfl) : mo_Sim 197 2 (ma_load 0 1 3)) (mt_none)))
set_option maxRecDepth 100000 in
theorem smt197_6 (k : Nat) : ∀ f, mt197_6 k = some f → mo_Sim 197 k f := mt_leaf (ms_ald (e := (.aload_n 0, 4, 0, 0, 0)) rfl (fun _ _ _ => rfl) : mo_Sim 197 3 (ma_lda 0 4)) (mt_leaf (ms_getf (e := (.getfield 7, 7, 12, 0, 1052)) rfl (fun _ _ _ => rfl) : mo_Sim 197 4 (ma_getf 12 0 7)) (mt_leaf (ms_if2 (e := (.if_icmp .ge 146, 10, 153, 0, 0)) rfl (fun _ _ _ => rfl) : mo_Sim 197 7 (ma_if2 .ge 153 7 10)) (mt_none)))
set_option maxRecDepth 100000 in
theorem smt197_4 (k : Nat) : ∀ f, mt197_4 k = some f → mo_Sim 197 k f := mt_node (smt197_5 k) (smt197_6 k)
set_option maxRecDepth 100000 in
theorem smt197_8 (k : Nat) : ∀ f, mt197_8 k = some f → mo_Sim 197 k f := mt_leaf (ms_ald (e := (.aload_n 0, 11, 0, 0, 0)) rfl (fun _ _ _ => rfl) : mo_Sim 197 10 (ma_lda 0 11)) (mt_leaf (ms_getf (e := (.getfield 60, 14, 12, 19, 1071)) rfl (fun _ _ _ => rfl) : mo_Sim 197 11 (ma_getf 12 19 14)) (mt_leaf (ms_ild (e := (.iload_n 1, 15, 0, 0, 0)) rfl (fun _ _ _ => rfl) : mo_Sim 197 14 (ma_load 0 1 15)) (mt_none)))
set_option maxRecDepth 100000 in
theorem smt197_9 (k : Nat) : ∀ f, mt197_9 k = some f → mo_Sim 197 k f := mt_leaf (ms_ald (e := (.aload_n 0, 16, 0, 0, 0)) rfl (fun _ _ _ => rfl) : mo_Sim 197 15 (ma_lda 0 16)) (mt_leaf (ms_getf (e := (.getfield 7, 19, 12, 0, 1052)) rfl (fun _ _ _ => rfl) : mo_Sim 197 16 (ma_getf 12 0 19)) (mt_leaf (ms_i2 (e := (.imul, 20, 0, 0, 0)) rfl (fun _ _ _ => rfl) hf_mul : mo_Sim 197 19 (ma_i2 ma_fmul 19 20)) (mt_none)))
set_option maxRecDepth 100000 in
theorem smt197_7 (k : Nat) : ∀ f, mt197_7 k = some f → mo_Sim 197 k f := mt_node (smt197_8 k) (smt197_9 k)
set_option maxRecDepth 100000 in
theorem smt197_3 (k : Nat) : ∀ f, mt197_3 k = some f → mo_Sim 197 k f := mt_node (smt197_4 k) (smt197_7 k)
set_option maxRecDepth 100000 in
theorem smt197_12 (k : Nat) : ∀ f, mt197_12 k = some f → mo_Sim 197 k f := mt_leaf (ms_ild (e := (.iload_n 1, 21, 0, 0, 0)) rfl (fun _ _ _ => rfl) : mo_Sim 197 20 (ma_load 0 1 21)) (mt_leaf (ms_iadd (e := (.iadd, 22, 0, 0, 0)) rfl (fun _ _ _ => rfl) : mo_Sim 197 21 (ma_iadd 21 22)) (mt_leaf (ms_iald (e := (.iaload, 23, 0, 0, 0)) rfl (fun _ _ _ => rfl) : mo_Sim 197 22 (ma_iald 22 23)) (mt_none)))
set_option maxRecDepth 100000 in
theorem smt197_13 (k : Nat) : ∀ f, mt197_13 k = some f → mo_Sim 197 k f := mt_leaf (ms_ild (e := (.iload_n 1, 24, 0, 0, 0)) rfl (fun _ _ _ => rfl) : mo_Sim 197 23 (ma_load 0 1 24)) (mt_leaf (ms_if2 (e := (.if_icmp .eq 5, 27, 29, 0, 0)) rfl (fun _ _ _ => rfl) : mo_Sim 197 24 (ma_if2 .eq 29 24 27)) (mt_leaf (ms_pushi (e := (.iconst 0, 28, 0, 0, 0)) rfl (fun _ _ _ => rfl) (by decide) : mo_Sim 197 27 (ma_push (ma_ci (.ofNat 0)) 28)) (mt_none)))
set_option maxRecDepth 100000 in
theorem smt197_11 (k : Nat) : ∀ f, mt197_11 k = some f → mo_Sim 197 k f := mt_node (smt197_12 k) (smt197_13 k)
set_option maxRecDepth 100000 in
theorem smt197_15 (k : Nat) : ∀ f, mt197_15 k = some f → mo_Sim 197 k f := mt_leaf (ms_ret (e := (.ireturn, 29, 0, 0, 0)) rfl (Or.inr (Or.inl ⟨rfl, rfl, (fun _ _ _ => rfl)⟩)) : mo_Sim 197 28 (ma_ret 1)) (mt_leaf (ms_pushi (e := (.iconst 0, 30, 0, 0, 0)) rfl (fun _ _ _ => rfl) (by decide) : mo_Sim 197 29 (ma_push (ma_ci (.ofNat 0)) 30)) (mt_leaf (ms_ist (e := (.istore_n 2, 31, 0, 0, 0)) rfl (fun _ _ _ => rfl) : mo_Sim 197 30 (ma_stor 0 2 31)) (mt_none)))
set_option maxRecDepth 100000 in
theorem smt197_16 (k : Nat) : ∀ f, mt197_16 k = some f → mo_Sim 197 k f := mt_leaf (ms_ild (e := (.iload_n 2, 32, 0, 0, 0)) rfl (fun _ _ _ => rfl) : mo_Sim 197 31 (ma_load 0 2 32)) (mt_leaf (ms_ald (e := (.aload_n 0, 33, 0, 0, 0)) rfl (fun _ _ _ => rfl) : mo_Sim 197 32 (ma_lda 0 33)) (mt_leaf (ms_getf (e := (.getfield 7, 36, 12, 0, 1052)) rfl (fun _ _ _ => rfl) : mo_Sim 197 33 (ma_getf 12 0 36)) (mt_none)))
set_option maxRecDepth 100000 in
theorem smt197_14 (k : Nat) : ∀ f, mt197_14 k = some f → mo_Sim 197 k f := mt_node (smt197_15 k) (smt197_16 k)
set_option maxRecDepth 100000 in
theorem smt197_10 (k : Nat) : ∀ f, mt197_10 k = some f → mo_Sim 197 k f := mt_node (smt197_11 k) (smt197_14 k)
set_option maxRecDepth 100000 in
theorem smt197_2 (k : Nat) : ∀ f, mt197_2 k = some f → mo_Sim 197 k f := mt_node (smt197_3 k) (smt197_10 k)
set_option maxRecDepth 100000 in
theorem smt197_20 (k : Nat) : ∀ f, mt197_20 k = some f → mo_Sim 197 k f := mt_leaf (ms_if2 (e := (.if_icmp .ge 111, 39, 147, 0, 0)) rfl (fun _ _ _ => rfl) : mo_Sim 197 36 (ma_if2 .ge 147 36 39)) (mt_leaf (ms_ald (e := (.aload_n 0, 40, 0, 0, 0)) rfl (fun _ _ _ => rfl) : mo_Sim 197 39 (ma_lda 0 40)) (mt_leaf (ms_getf (e := (.getfield 60, 43, 12, 19, 1071)) rfl (fun _ _ _ => rfl) : mo_Sim 197 40 (ma_getf 12 19 43)) (mt_none)))
set_option maxRecDepth 100000 in
theorem smt197_21 (k : Nat) : ∀ f, mt197_21 k = some f → mo_Sim 197 k f := mt_leaf (ms_ild (e := (.iload_n 1, 44, 0, 0, 0)) rfl (fun _ _ _ => rfl) : mo_Sim 197 43 (ma_load 0 1 44)) (mt_leaf (ms_ald (e := (.aload_n 0, 45, 0, 0, 0)) rfl (fun _ _ _ => rfl) : mo_Sim 197 44 (ma_lda 0 45)) (mt_leaf (ms_getf (e := (.getfield 7, 48, 12, 0, 1052)) rfl (fun _ _ _ => rfl) : mo_Sim 197 45 (ma_getf 12 0 48)) (mt_none)))
set_option maxRecDepth 100000 in
theorem smt197_19 (k : Nat) : ∀ f, mt197_19 k = some f → mo_Sim 197 k f := mt_node (smt197_20 k) (smt197_21 k)
set_option maxRecDepth 100000 in
theorem smt197_23 (k : Nat) : ∀ f, mt197_23 k = some f → mo_Sim 197 k f := mt_leaf (ms_i2 (e := (.imul, 49, 0, 0, 0)) rfl (fun _ _ _ => rfl) hf_mul : mo_Sim 197 48 (ma_i2 ma_fmul 48 49)) (mt_leaf (ms_ild (e := (.iload_n 2, 50, 0, 0, 0)) rfl (fun _ _ _ => rfl) : mo_Sim 197 49 (ma_load 0 2 50)) (mt_leaf (ms_iadd (e := (.iadd, 51, 0, 0, 0)) rfl (fun _ _ _ => rfl) : mo_Sim 197 50 (ma_iadd 50 51)) (mt_none)))
set_option maxRecDepth 100000 in
theorem smt197_24 (k : Nat) : ∀ f, mt197_24 k = some f → mo_Sim 197 k f := mt_leaf (ms_iald (e := (.iaload, 52, 0, 0, 0)) rfl (fun _ _ _ => rfl) : mo_Sim 197 51 (ma_iald 51 52)) (mt_leaf (ms_ald (e := (.aload_n 0, 53, 0, 0, 0)) rfl (fun _ _ _ => rfl) : mo_Sim 197 52 (ma_lda 0 53)) (mt_leaf (ms_getf (e := (.getfield 60, 56, 12, 19, 1071)) rfl (fun _ _ _ => rfl) : mo_Sim 197 53 (ma_getf 12 19 56)) (mt_none)))
set_option maxRecDepth 100000 in
theorem smt197_22 (k : Nat) : ∀ f, mt197_22 k = some f → mo_Sim 197 k f := mt_node (smt197_23 k) (smt197_24 k)
set_option maxRecDepth 100000 in
theorem smt197_18 (k : Nat) : ∀ f, mt197_18 k = some f → mo_Sim 197 k f := mt_node (smt197_19 k) (smt197_22 k)
set_option maxRecDepth 100000 in
theorem smt197_27 (k : Nat) : ∀ f, mt197_27 k = some f → mo_Sim 197 k f := mt_leaf (ms_ild (e := (.iload_n 2, 57, 0, 0, 0)) rfl (fun _ _ _ => rfl) : mo_Sim 197 56 (ma_load 0 2 57)) (mt_leaf (ms_ald (e := (.aload_n 0, 58, 0, 0, 0)) rfl (fun _ _ _ => rfl) : mo_Sim 197 57 (ma_lda 0 58)) (mt_leaf (ms_getf (e := (.getfield 7, 61, 12, 0, 1052)) rfl (fun _ _ _ => rfl) : mo_Sim 197 58 (ma_getf 12 0 61)) (mt_none)))
set_option maxRecDepth 100000 in
theorem smt197_28 (k : Nat) : ∀ f, mt197_28 k = some f → mo_Sim 197 k f := mt_leaf (ms_i2 (e := (.imul, 62, 0, 0, 0)) rfl (fun _ _ _ => rfl) hf_mul : mo_Sim 197 61 (ma_i2 ma_fmul 61 62)) (mt_leaf (ms_ild (e := (.iload_n 1, 63, 0, 0, 0)) rfl (fun _ _ _ => rfl) : mo_Sim 197 62 (ma_load 0 1 63)) (mt_leaf (ms_iadd (e := (.iadd, 64, 0, 0, 0)) rfl (fun _ _ _ => rfl) : mo_Sim 197 63 (ma_iadd 63 64)) (mt_none)))
set_option maxRecDepth 100000 in
theorem smt197_26 (k : Nat) : ∀ f, mt197_26 k = some f → mo_Sim 197 k f := mt_node (smt197_27 k) (smt197_28 k)
set_option maxRecDepth 100000 in
theorem smt197_30 (k : Nat) : ∀ f, mt197_30 k = some f → mo_Sim 197 k f := mt_leaf (ms_iald (e := (.iaload, 65, 0, 0, 0)) rfl (fun _ _ _ => rfl) : mo_Sim 197 64 (ma_iald 64 65)) (mt_leaf (ms_if2 (e := (.if_icmp .eq 5, 68, 70, 0, 0)) rfl (fun _ _ _ => rfl) : mo_Sim 197 65 (ma_if2 .eq 70 65 68)) (mt_leaf (ms_pushi (e := (.iconst 0, 69, 0, 0, 0)) rfl (fun _ _ _ => rfl) (by decide) : mo_Sim 197 68 (ma_push (ma_ci (.ofNat 0)) 69)) (mt_none)))
set_option maxRecDepth 100000 in
theorem smt197_31 (k : Nat) : ∀ f, mt197_31 k = some f → mo_Sim 197 k f := mt_leaf (ms_ret (e := (.ireturn, 70, 0, 0, 0)) rfl (Or.inr (Or.inl ⟨rfl, rfl, (fun _ _ _ => rfl)⟩)) : mo_Sim 197 69 (ma_ret 1)) (mt_leaf (ms_pushi (e := (.iconst 0, 71, 0, 0, 0)) rfl (fun _ _ _ => rfl) (by decide) : mo_Sim 197 70 (ma_push (ma_ci (.ofNat 0)) 71)) (mt_leaf (ms_ist (e := (.istore_n 3, 72, 0, 0, 0)) rfl (fun _ _ _ => rfl) : mo_Sim 197 71 (ma_stor 0 3 72)) (mt_none)))
set_option maxRecDepth 100000 in
theorem smt197_29 (k : Nat) : ∀ f, mt197_29 k = some f → mo_Sim 197 k f := mt_node (smt197_30 k) (smt197_31 k)
set_option maxRecDepth 100000 in
theorem smt197_25 (k : Nat) : ∀ f, mt197_25 k = some f → mo_Sim 197 k f := mt_node (smt197_26 k) (smt197_29 k)
set_option maxRecDepth 100000 in
theorem smt197_17 (k : Nat) : ∀ f, mt197_17 k = some f → mo_Sim 197 k f := mt_node (smt197_18 k) (smt197_25 k)
set_option maxRecDepth 100000 in
theorem smt197_1 (k : Nat) : ∀ f, mt197_1 k = some f → mo_Sim 197 k f := mt_node (smt197_2 k) (smt197_17 k)
set_option maxRecDepth 100000 in
theorem smt197_36 (k : Nat) : ∀ f, mt197_36 k = some f → mo_Sim 197 k f := mt_leaf (ms_ild (e := (.iload_n 3, 73, 0, 0, 0)) rfl (fun _ _ _ => rfl) : mo_Sim 197 72 (ma_load 0 3 73)) (mt_leaf (ms_ald (e := (.aload_n 0, 74, 0, 0, 0)) rfl (fun _ _ _ => rfl) : mo_Sim 197 73 (ma_lda 0 74)) (mt_leaf (ms_getf (e := (.getfield 7, 77, 12, 0, 1052)) rfl (fun _ _ _ => rfl) : mo_Sim 197 74 (ma_getf 12 0 77)) (mt_none)))
set_option maxRecDepth 100000 in
theorem smt197_37 (k : Nat) : ∀ f, mt197_37 k = some f → mo_Sim 197 k f := mt_leaf (ms_if2 (e := (.if_icmp .ge 64, 80, 141, 0, 0)) rfl (fun _ _ _ => rfl) : mo_Sim 197 77 (ma_if2 .ge 141 77 80)) (mt_leaf (ms_ald (e := (.aload_n 0, 81, 0, 0, 0)) rfl (fun _ _ _ => rfl) : mo_Sim 197 80 (ma_lda 0 81)) (mt_leaf (ms_getf (e := (.getfield 60, 84, 12, 19, 1071)) rfl (fun _ _ _ => rfl) : mo_Sim 197 81 (ma_getf 12 19 84)) (mt_none)))
set_option maxRecDepth 100000 in
theorem smt197_35 (k : Nat) : ∀ f, mt197_35 k = some f → mo_Sim 197 k f := mt_node (smt197_36 k) (smt197_37 k)
set_option maxRecDepth 100000 in
theorem smt197_39 (k : Nat) : ∀ f, mt197_39 k = some f → mo_Sim 197 k f := mt_leaf (ms_ald (e := (.aload_n 0, 85, 0, 0, 0)) rfl (fun _ _ _ => rfl) : mo_Sim 197 84 (ma_lda 0 85)) (mt_leaf (ms_getf (e := (.getfield 60, 88, 12, 19, 1071)) rfl (fun _ _ _ => rfl) : mo_Sim 197 85 (ma_getf 12 19 88)) (mt_leaf (ms_ild (e := (.iload_n 1, 89, 0, 0, 0)) rfl (fun _ _ _ => rfl) : mo_Sim 197 88 (ma_load 0 1 89)) (mt_none)))
set_option maxRecDepth 100000 in
theorem smt197_40 (k : Nat) : ∀ f, mt197_40 k = some f → mo_Sim 197 k f := mt_leaf (ms_ald (e := (.aload_n 0, 90, 0, 0, 0)) rfl (fun _ _ _ => rfl) : mo_Sim 197 89 (ma_lda 0 90)) (mt_leaf (ms_getf (e := (.getfield 7, 93, 12, 0, 1052)) rfl (fun _ _ _ => rfl) : mo_Sim 197 90 (ma_getf 12 0 93)) (mt_leaf (ms_i2 (e := (.imul, 94, 0, 0, 0)) rfl (fun _ _ _ => rfl) hf_mul : mo_Sim 197 93 (ma_i2 ma_fmul 93 94)) (mt_none)))
set_option maxRecDepth 100000 in
theorem smt197_38 (k : Nat) : ∀ f, mt197_38 k = some f → mo_Sim 197 k f := mt_node (smt197_39 k) (smt197_40 k)
set_option maxRecDepth 100000 in
theorem smt197_34 (k : Nat) : ∀ f, mt197_34 k = some f → mo_Sim 197 k f := mt_node (smt197_35 k) (smt197_38 k)
set_option maxRecDepth 100000 in
theorem smt197_43 (k : Nat) : ∀ f, mt197_43 k = some f → mo_Sim 197 k f := mt_leaf (ms_ild (e := (.iload_n 2, 95, 0, 0, 0)) rfl (fun _ _ _ => rfl) : mo_Sim 197 94 (ma_load 0 2 95)) (mt_leaf (ms_iadd (e := (.iadd, 96, 0, 0, 0)) rfl (fun _ _ _ => rfl) : mo_Sim 197 95 (ma_iadd 95 96)) (mt_leaf (ms_iald (e := (.iaload, 97, 0, 0, 0)) rfl (fun _ _ _ => rfl) : mo_Sim 197 96 (ma_iald 96 97)) (mt_none)))
set_option maxRecDepth 100000 in
theorem smt197_44 (k : Nat) : ∀ f, mt197_44 k = some f → mo_Sim 197 k f := mt_leaf (ms_ald (e := (.aload_n 0, 98, 0, 0, 0)) rfl (fun _ _ _ => rfl) : mo_Sim 197 97 (ma_lda 0 98)) (mt_leaf (ms_getf (e := (.getfield 7, 101, 12, 0, 1052)) rfl (fun _ _ _ => rfl) : mo_Sim 197 98 (ma_getf 12 0 101)) (mt_leaf (ms_i2 (e := (.imul, 102, 0, 0, 0)) rfl (fun _ _ _ => rfl) hf_mul : mo_Sim 197 101 (ma_i2 ma_fmul 101 102)) (mt_none)))
set_option maxRecDepth 100000 in
theorem smt197_42 (k : Nat) : ∀ f, mt197_42 k = some f → mo_Sim 197 k f := mt_node (smt197_43 k) (smt197_44 k)
set_option maxRecDepth 100000 in
theorem smt197_46 (k : Nat) : ∀ f, mt197_46 k = some f → mo_Sim 197 k f := mt_leaf (ms_ild (e := (.iload_n 3, 103, 0, 0, 0)) rfl (fun _ _ _ => rfl) : mo_Sim 197 102 (ma_load 0 3 103)) (mt_leaf (ms_iadd (e := (.iadd, 104, 0, 0, 0)) rfl (fun _ _ _ => rfl) : mo_Sim 197 103 (ma_iadd 103 104)) (mt_leaf (ms_iald (e := (.iaload, 105, 0, 0, 0)) rfl (fun _ _ _ => rfl) : mo_Sim 197 104 (ma_iald 104 105)) (mt_none)))
set_option maxRecDepth 100000 in
theorem smt197_47 (k : Nat) : ∀ f, mt197_47 k = some f → mo_Sim 197 k f := mt_leaf (ms_ald (e := (.aload_n 0, 106, 0, 0, 0)) rfl (fun _ _ _ => rfl) : mo_Sim 197 105 (ma_lda 0 106)) (mt_leaf (ms_getf (e := (.getfield 60, 109, 12, 19, 1071)) rfl (fun _ _ _ => rfl) : mo_Sim 197 106 (ma_getf 12 19 109)) (mt_leaf (ms_ild (e := (.iload_n 1, 110, 0, 0, 0)) rfl (fun _ _ _ => rfl) : mo_Sim 197 109 (ma_load 0 1 110)) (mt_none)))
set_option maxRecDepth 100000 in
theorem smt197_45 (k : Nat) : ∀ f, mt197_45 k = some f → mo_Sim 197 k f := mt_node (smt197_46 k) (smt197_47 k)
set_option maxRecDepth 100000 in
theorem smt197_41 (k : Nat) : ∀ f, mt197_41 k = some f → mo_Sim 197 k f := mt_node (smt197_42 k) (smt197_45 k)
set_option maxRecDepth 100000 in
theorem smt197_33 (k : Nat) : ∀ f, mt197_33 k = some f → mo_Sim 197 k f := mt_node (smt197_34 k) (smt197_41 k)
set_option maxRecDepth 100000 in
theorem smt197_51 (k : Nat) : ∀ f, mt197_51 k = some f → mo_Sim 197 k f := mt_leaf (ms_ald (e := (.aload_n 0, 111, 0, 0, 0)) rfl (fun _ _ _ => rfl) : mo_Sim 197 110 (ma_lda 0 111)) (mt_leaf (ms_getf (e := (.getfield 7, 114, 12, 0, 1052)) rfl (fun _ _ _ => rfl) : mo_Sim 197 111 (ma_getf 12 0 114)) (mt_leaf (ms_i2 (e := (.imul, 115, 0, 0, 0)) rfl (fun _ _ _ => rfl) hf_mul : mo_Sim 197 114 (ma_i2 ma_fmul 114 115)) (mt_none)))
set_option maxRecDepth 100000 in
theorem smt197_52 (k : Nat) : ∀ f, mt197_52 k = some f → mo_Sim 197 k f := mt_leaf (ms_ald (e := (.aload_n 0, 116, 0, 0, 0)) rfl (fun _ _ _ => rfl) : mo_Sim 197 115 (ma_lda 0 116)) (mt_leaf (ms_getf (e := (.getfield 60, 119, 12, 19, 1071)) rfl (fun _ _ _ => rfl) : mo_Sim 197 116 (ma_getf 12 19 119)) (mt_leaf (ms_ild (e := (.iload_n 2, 120, 0, 0, 0)) rfl (fun _ _ _ => rfl) : mo_Sim 197 119 (ma_load 0 2 120)) (mt_none)))
set_option maxRecDepth 100000 in
theorem smt197_50 (k : Nat) : ∀ f, mt197_50 k = some f → mo_Sim 197 k f := mt_node (smt197_51 k) (smt197_52 k)
set_option maxRecDepth 100000 in
theorem smt197_54 (k : Nat) : ∀ f, mt197_54 k = some f → mo_Sim 197 k f := mt_leaf (ms_ald (e := (.aload_n 0, 121, 0, 0, 0)) rfl (fun _ _ _ => rfl) : mo_Sim 197 120 (ma_lda 0 121)) (mt_leaf (ms_getf (e := (.getfield 7, 124, 12, 0, 1052)) rfl (fun _ _ _ => rfl) : mo_Sim 197 121 (ma_getf 12 0 124)) (mt_leaf (ms_i2 (e := (.imul, 125, 0, 0, 0)) rfl (fun _ _ _ => rfl) hf_mul : mo_Sim 197 124 (ma_i2 ma_fmul 124 125)) (mt_none)))
set_option maxRecDepth 100000 in
theorem smt197_55 (k : Nat) : ∀ f, mt197_55 k = some f → mo_Sim 197 k f := mt_leaf (ms_ild (e := (.iload_n 3, 126, 0, 0, 0)) rfl (fun _ _ _ => rfl) : mo_Sim 197 125 (ma_load 0 3 126)) (mt_leaf (ms_iadd (e := (.iadd, 127, 0, 0, 0)) rfl (fun _ _ _ => rfl) : mo_Sim 197 126 (ma_iadd 126 127)) (mt_leaf (ms_iald (e := (.iaload, 128, 0, 0, 0)) rfl (fun _ _ _ => rfl) : mo_Sim 197 127 (ma_iald 127 128)) (mt_none)))
set_option maxRecDepth 100000 in
theorem smt197_53 (k : Nat) : ∀ f, mt197_53 k = some f → mo_Sim 197 k f := mt_node (smt197_54 k) (smt197_55 k)
set_option maxRecDepth 100000 in
theorem smt197_49 (k : Nat) : ∀ f, mt197_49 k = some f → mo_Sim 197 k f := mt_node (smt197_50 k) (smt197_53 k)
set_option maxRecDepth 100000 in
theorem smt197_58 (k : Nat) : ∀ f, mt197_58 k = some f → mo_Sim 197 k f := mt_leaf (ms_iadd (e := (.iadd, 129, 0, 0, 0)) rfl (fun _ _ _ => rfl) : mo_Sim 197 128 (ma_iadd 128 129)) (mt_leaf (ms_iald (e := (.iaload, 130, 0, 0, 0)) rfl (fun _ _ _ => rfl) : mo_Sim 197 129 (ma_iald 129 130)) (mt_leaf (ms_if2 (e := (.if_icmp .eq 5, 133, 135, 0, 0)) rfl (fun _ _ _ => rfl) : mo_Sim 197 130 (ma_if2 .eq 135 130 133)) (mt_none)))
set_option maxRecDepth 100000 in
theorem smt197_59 (k : Nat) : ∀ f, mt197_59 k = some f → mo_Sim 197 k f := mt_leaf (ms_pushi (e := (.iconst 0, 134, 0, 0, 0)) rfl (fun _ _ _ => rfl) (by decide) : mo_Sim 197 133 (ma_push (ma_ci (.ofNat 0)) 134)) (mt_leaf (ms_ret (e := (.ireturn, 135, 0, 0, 0)) rfl (Or.inr (Or.inl ⟨rfl, rfl, (fun _ _ _ => rfl)⟩)) : mo_Sim 197 134 (ma_ret 1)) (mt_leaf (ms_iinc (e := (.iinc 3 1, 138, 0, 0, 0)) rfl (fun _ _ _ => rfl) (by decide) : mo_Sim 197 135 (ma_iinc 3 (.ofNat 1) 135 138)) (mt_none)))
set_option maxRecDepth 100000 in
theorem smt197_57 (k : Nat) : ∀ f, mt197_57 k = some f → mo_Sim 197 k f := mt_node (smt197_58 k) (smt197_59 k)
set_option maxRecDepth 100000 in
theorem smt197_61 (k : Nat) : ∀ f, mt197_61 k = some f → mo_Sim 197 k f := mt_leaf (ms_goto (e := (.goto (-66), 141, 72, 0, 0)) rfl (fun _ _ _ => rfl) : mo_Sim 197 138 (ma_goto 72)) (mt_leaf (ms_iinc (e := (.iinc 2 1, 144, 0, 0, 0)) rfl (fun _ _ _ => rfl) (by decide) : mo_Sim 197 141 (ma_iinc 2 (.ofNat 1) 141 144)) (mt_leaf (ms_goto (e := (.goto (-113), 147, 31, 0, 0)) rfl (fun _ _ _ => rfl) : mo_Sim 197 144 (ma_goto 31)) (mt_none)))
set_option maxRecDepth 100000 in
theorem smt197_62 (k : Nat) : ∀ f, mt197_62 k = some f → mo_Sim 197 k f := mt_leaf (ms_iinc (e := (.iinc 1 1, 150, 0, 0, 0)) rfl (fun _ _ _ => rfl) (by decide) : mo_Sim 197 147 (ma_iinc 1 (.ofNat 1) 147 150)) (mt_leaf (ms_goto (e := (.goto (-148), 153, 2, 0, 0)) rfl (fun _ _ _ => rfl) : mo_Sim 197 150 (ma_goto 2)) (mt_leaf (ms_pushi (e := (.iconst 1, 154, 0, 0, 0)) rfl (fun _ _ _ => rfl) (by decide) : mo_Sim 197 153 (ma_push (ma_ci (.ofNat 1)) 154)) (mt_leaf (ms_ret (e := (.ireturn, 155, 0, 0, 0)) rfl (Or.inr (Or.inl ⟨rfl, rfl, (fun _ _ _ => rfl)⟩)) : mo_Sim 197 154 (ma_ret 1)) (mt_none))))
set_option maxRecDepth 100000 in
theorem smt197_60 (k : Nat) : ∀ f, mt197_60 k = some f → mo_Sim 197 k f := mt_node (smt197_61 k) (smt197_62 k)
set_option maxRecDepth 100000 in
theorem smt197_56 (k : Nat) : ∀ f, mt197_56 k = some f → mo_Sim 197 k f := mt_node (smt197_57 k) (smt197_60 k)
set_option maxRecDepth 100000 in
theorem smt197_48 (k : Nat) : ∀ f, mt197_48 k = some f → mo_Sim 197 k f := mt_node (smt197_49 k) (smt197_56 k)
set_option maxRecDepth 100000 in
theorem smt197_32 (k : Nat) : ∀ f, mt197_32 k = some f → mo_Sim 197 k f := mt_node (smt197_33 k) (smt197_48 k)
set_option maxRecDepth 100000 in
theorem smt197_0 (k : Nat) : ∀ f, mt197_0 k = some f → mo_Sim 197 k f := mt_node (smt197_1 k) (smt197_32 k)
set_option maxRecDepth 100000 in
theorem smt198_3 (k : Nat) : ∀ f, mt198_3 k = some f → mo_Sim 198 k f := mt_leaf (ms_pushl (e := (.lconst 0, 1, 0, 0, 0)) rfl (fun _ _ _ => rfl) (by decide) : mo_Sim 198 0 (ma_push (ma_cl (.ofNat 0)) 1)) (mt_leaf (ms_lst (e := (.lstore_n 1, 2, 0, 0, 0)) rfl (fun _ _ _ => rfl) : mo_Sim 198 1 (ma_stol 1 2)) (mt_leaf (ms_ald (e := (.aload_n 0, 3, 0, 0, 0)) rfl (fun _ _ _ => rfl) : mo_Sim 198 2 (ma_lda 0 3)) (mt_none)))
set_option maxRecDepth 100000 in
theorem smt198_4 (k : Nat) : ∀ f, mt198_4 k = some f → mo_Sim 198 k f := mt_leaf (ms_getf (e := (.getfield 7, 6, 12, 0, 1052)) rfl (fun _ _ _ => rfl) : mo_Sim 198 3 (ma_getf 12 0 6)) (mt_leaf (ms_pushi (e := (.iconst 3, 7, 0, 0, 0)) rfl (fun _ _ _ => rfl) (by decide) : mo_Sim 198 6 (ma_push (ma_ci (.ofNat 3)) 7)) (mt_leaf (ms_invS (e := (.invokestatic 88, 10, 140, 1, 1155)) rfl rfl (fun _ _ _ => rfl) rfl rfl : mo_Sim 198 7 (ma_inv 140 2 4 20 10)) (mt_none)))
set_option maxRecDepth 100000 in
theorem smt198_2 (k : Nat) : ∀ f, mt198_2 k = some f → mo_Sim 198 k f := mt_node (smt198_3 k) (smt198_4 k)
set_option maxRecDepth 100000 in
theorem smt198_6 (k : Nat) : ∀ f, mt198_6 k = some f → mo_Sim 198 k f := mt_leaf (ms_pushi (e := (.iconst 1, 11, 0, 0, 0)) rfl (fun _ _ _ => rfl) (by decide) : mo_Sim 198 10 (ma_push (ma_ci (.ofNat 1)) 11)) (mt_leaf (ms_isub (e := (.isub, 12, 0, 0, 0)) rfl (fun _ _ _ => rfl) : mo_Sim 198 11 (ma_isub 11 12)) (mt_leaf (ms_ist (e := (.istore_n 3, 13, 0, 0, 0)) rfl (fun _ _ _ => rfl) : mo_Sim 198 12 (ma_stor 0 3 13)) (mt_none)))
set_option maxRecDepth 100000 in
theorem smt198_7 (k : Nat) : ∀ f, mt198_7 k = some f → mo_Sim 198 k f := mt_leaf (ms_ild (e := (.iload_n 3, 14, 0, 0, 0)) rfl (fun _ _ _ => rfl) : mo_Sim 198 13 (ma_load 0 3 14)) (mt_leaf (ms_if0 (e := (.ifCond .lt 25, 17, 39, 0, 0)) rfl (fun _ _ _ => rfl) : mo_Sim 198 14 (ma_if0 .lt 39 14 17)) (mt_leaf (ms_lld (e := (.lload_n 1, 18, 0, 0, 0)) rfl (fun _ _ _ => rfl) : mo_Sim 198 17 (ma_load 2 1 18)) (mt_leaf (ms_ald (e := (.aload_n 0, 19, 0, 0, 0)) rfl (fun _ _ _ => rfl) : mo_Sim 198 18 (ma_lda 0 19)) (mt_none))))
set_option maxRecDepth 100000 in
theorem smt198_5 (k : Nat) : ∀ f, mt198_5 k = some f → mo_Sim 198 k f := mt_node (smt198_6 k) (smt198_7 k)
set_option maxRecDepth 100000 in
theorem smt198_1 (k : Nat) : ∀ f, mt198_1 k = some f → mo_Sim 198 k f := mt_node (smt198_2 k) (smt198_5 k)
set_option maxRecDepth 100000 in
theorem smt198_10 (k : Nat) : ∀ f, mt198_10 k = some f → mo_Sim 198 k f := mt_leaf (ms_getf (e := (.getfield 7, 22, 12, 0, 1052)) rfl (fun _ _ _ => rfl) : mo_Sim 198 19 (ma_getf 12 0 22)) (mt_leaf (ms_i2l (e := (.i2l, 23, 0, 0, 0)) rfl (fun _ _ _ => rfl) : mo_Sim 198 22 (ma_i2l 23)) (mt_leaf (ms_l2 (e := (.lmul, 24, 0, 0, 0)) rfl (fun _ _ _ => rfl) hg_mul : mo_Sim 198 23 (ma_l2 ma_gmul 24)) (mt_none)))
set_option maxRecDepth 100000 in
theorem smt198_11 (k : Nat) : ∀ f, mt198_11 k = some f → mo_Sim 198 k f := mt_leaf (ms_ald (e := (.aload_n 0, 25, 0, 0, 0)) rfl (fun _ _ _ => rfl) : mo_Sim 198 24 (ma_lda 0 25)) (mt_leaf (ms_getf (e := (.getfield 60, 28, 12, 19, 1071)) rfl (fun _ _ _ => rfl) : mo_Sim 198 25 (ma_getf 12 19 28)) (mt_leaf (ms_ild (e := (.iload_n 3, 29, 0, 0, 0)) rfl (fun _ _ _ => rfl) : mo_Sim 198 28 (ma_load 0 3 29)) (mt_leaf (ms_iald (e := (.iaload, 30, 0, 0, 0)) rfl (fun _ _ _ => rfl) : mo_Sim 198 29 (ma_iald 29 30)) (mt_none))))
set_option maxRecDepth 100000 in
theorem smt198_9 (k : Nat) : ∀ f, mt198_9 k = some f → mo_Sim 198 k f := mt_node (smt198_10 k) (smt198_11 k)
set_option maxRecDepth 100000 in
theorem smt198_13 (k : Nat) : ∀ f, mt198_13 k = some f → mo_Sim 198 k f := mt_leaf (ms_i2l (e := (.i2l, 31, 0, 0, 0)) rfl (fun _ _ _ => rfl) : mo_Sim 198 30 (ma_i2l 31)) (mt_leaf (ms_l2 (e := (.ladd, 32, 0, 0, 0)) rfl (fun _ _ _ => rfl) hg_add : mo_Sim 198 31 (ma_l2 ma_gadd 32)) (mt_leaf (ms_lst (e := (.lstore_n 1, 33, 0, 0, 0)) rfl (fun _ _ _ => rfl) : mo_Sim 198 32 (ma_stol 1 33)) (mt_none)))
set_option maxRecDepth 100000 in
theorem smt198_14 (k : Nat) : ∀ f, mt198_14 k = some f → mo_Sim 198 k f := mt_leaf (ms_iinc (e := (.iinc 3 (-1), 36, 0, 0, 0)) rfl (fun _ _ _ => rfl) (by decide) : mo_Sim 198 33 (ma_iinc 3 (.negSucc 0) 33 36)) (mt_leaf (ms_goto (e := (.goto (-23), 39, 13, 0, 0)) rfl (fun _ _ _ => rfl) : mo_Sim 198 36 (ma_goto 13)) (mt_leaf (ms_lld (e := (.lload_n 1, 40, 0, 0, 0)) rfl (fun _ _ _ => rfl) : mo_Sim 198 39 (ma_load 2 1 40)) (mt_leaf (ms_ret (e := (.lreturn, 41, 0, 0, 0)) rfl (Or.inr (Or.inr (Or.inr ⟨rfl, rfl, (fun _ _ _ => rfl)⟩))) : mo_Sim 198 40 (ma_ret 3)) (mt_none))))
set_option maxRecDepth 100000 in
theorem smt198_12 (k : Nat) : ∀ f, mt198_12 k = some f → mo_Sim 198 k f := mt_node (smt198_13 k) (smt198_14 k)
set_option maxRecDepth 100000 in
theorem smt198_8 (k : Nat) : ∀ f, mt198_8 k = some f → mo_Sim 198 k f := mt_node (smt198_9 k) (smt198_12 k)
set_option maxRecDepth 100000 in
theorem smt198_0 (k : Nat) : ∀ f, mt198_0 k = some f → mo_Sim 198 k f := mt_node (smt198_1 k) (smt198_8 k)
set_option maxRecDepth 100000 in
theorem smt199_4 (k : Nat) : ∀ f, mt199_4 k = some f → mo_Sim 199 k f := mt_leaf (ms_ild (e := (.iload_n 1, 1, 0, 0, 0)) rfl (fun _ _ _ => rfl) : mo_Sim 199 0 (ma_load 0 1 1)) (mt_leaf (ms_ist (e := (.istore_n 2, 2, 0, 0, 0)) rfl (fun _ _ _ => rfl) : mo_Sim 199 1 (ma_stor 0 2 2)) (mt_leaf (ms_pushi (e := (.iconst 0, 3, 0, 0, 0)) rfl (fun _ _ _ => rfl) (by decide) : mo_Sim 199 2 (ma_push (ma_ci (.ofNat 0)) 3)) (mt_leaf (ms_ist (e := (.istore_n 3, 4, 0, 0, 0)) rfl (fun _ _ _ => rfl) : mo_Sim 199 3 (ma_stor 0 3 4)) (mt_none))))
set_option maxRecDepth 100000 in
theorem smt199_5 (k : Nat) : ∀ f, mt199_5 k = some f → mo_Sim 199 k f := mt_leaf (ms_ild (e := (.iload_n 3, 5, 0, 0, 0)) rfl (fun _ _ _ => rfl) : mo_Sim 199 4 (ma_load 0 3 5)) (mt_leaf (ms_ald (e := (.aload_n 0, 6, 0, 0, 0)) rfl (fun _ _ _ => rfl) : mo_Sim 199 5 (ma_lda 0 6)) (mt_leaf (ms_getf (e := (.getfield 7, 9, 12, 0, 1052)) rfl (fun _ _ _ => rfl) : mo_Sim 199 6 (ma_getf 12 0 9)) (mt_leaf (ms_pushi (e := (.iconst 3, 10, 0, 0, 0)) rfl (fun _ _ _ => rfl) (by decide) : mo_Sim 199 9 (ma_push (ma_ci (.ofNat 3)) 10)) (mt_none))))
set_option maxRecDepth 100000 in
theorem smt199_3 (k : Nat) : ∀ f, mt199_3 k = some f → mo_Sim 199 k f := mt_node (smt199_4 k) (smt199_5 k)
set_option maxRecDepth 100000 in
theorem smt199_7 (k : Nat) : ∀ f, mt199_7 k = some f → mo_Sim 199 k f := mt_leaf (ms_invS (e := (.invokestatic 88, 13, 140, 1, 1155)) rfl rfl (fun _ _ _ => rfl) rfl rfl : mo_Sim 199 10 (ma_inv 140 2 4 20 13)) (mt_leaf (ms_if2 (e := (.if_icmp .ge 98, 16, 111, 0, 0)) rfl (fun _ _ _ => rfl) : mo_Sim 199 13 (ma_if2 .ge 111 13 16)) (mt_leaf (ms_ald (e := (.aload_n 0, 17, 0, 0, 0)) rfl (fun _ _ _ => rfl) : mo_Sim 199 16 (ma_lda 0 17)) (mt_leaf (ms_ild (e := (.iload_n 3, 18, 0, 0, 0)) rfl (fun _ _ _ => rfl) : mo_Sim 199 17 (ma_load 0 3 18)) (mt_none))))
set_option maxRecDepth 100000 in
theorem smt199_8 (k : Nat) : ∀ f, mt199_8 k = some f → mo_Sim 199 k f := mt_leaf (ms_pushi (e := (.iconst 3, 19, 0, 0, 0)) rfl (fun _ _ _ => rfl) (by decide) : mo_Sim 199 18 (ma_push (ma_ci (.ofNat 3)) 19)) (mt_leaf (ms_pushi (e := (.iconst 0, 20, 0, 0, 0)) rfl (fun _ _ _ => rfl) (by decide) : mo_Sim 199 19 (ma_push (ma_ci (.ofNat 0)) 20)) (mt_leaf (ms_invV (p := 3) (e := (.invokevirtual 137, 23, 152, 0, 1224)) rfl rfl (fun _ _ _ => rfl) rfl rfl rfl (by decide) : mo_Sim 199 20 (ma_inv 152 4 4 12 23)) (mt_leaf (ms_ist (e := (.istore 4, 25, 0, 0, 0)) rfl (fun _ _ _ => rfl) : mo_Sim 199 23 (ma_stor 0 4 25)) (mt_none))))
set_option maxRecDepth 100000 in
theorem smt199_6 (k : Nat) : ∀ f, mt199_6 k = some f → mo_Sim 199 k f := mt_node (smt199_7 k) (smt199_8 k)
set_option maxRecDepth 100000 in
theorem smt199_2 (k : Nat) : ∀ f, mt199_2 k = some f → mo_Sim 199 k f := mt_node (smt199_3 k) (smt199_6 k)
set_option maxRecDepth 100000 in
theorem smt199_11 (k : Nat) : ∀ f, mt199_11 k = some f → mo_Sim 199 k f := mt_leaf (ms_ald (e := (.aload_n 0, 26, 0, 0, 0)) rfl (fun _ _ _ => rfl) : mo_Sim 199 25 (ma_lda 0 26)) (mt_leaf (ms_ild (e := (.iload_n 3, 27, 0, 0, 0)) rfl (fun _ _ _ => rfl) : mo_Sim 199 26 (ma_load 0 3 27)) (mt_leaf (ms_pushi (e := (.iconst 3, 28, 0, 0, 0)) rfl (fun _ _ _ => rfl) (by decide) : mo_Sim 199 27 (ma_push (ma_ci (.ofNat 3)) 28)) (mt_leaf (ms_pushi (e := (.iconst 1, 29, 0, 0, 0)) rfl (fun _ _ _ => rfl) (by decide) : mo_Sim 199 28 (ma_push (ma_ci (.ofNat 1)) 29)) (mt_none))))
set_option maxRecDepth 100000 in
theorem smt199_12 (k : Nat) : ∀ f, mt199_12 k = some f → mo_Sim 199 k f := mt_leaf (ms_invV (p := 3) (e := (.invokevirtual 137, 32, 152, 0, 1224)) rfl rfl (fun _ _ _ => rfl) rfl rfl rfl (by decide) : mo_Sim 199 29 (ma_inv 152 4 4 12 32)) (mt_leaf (ms_ist (e := (.istore 5, 34, 0, 0, 0)) rfl (fun _ _ _ => rfl) : mo_Sim 199 32 (ma_stor 0 5 34)) (mt_leaf (ms_ald (e := (.aload_n 0, 35, 0, 0, 0)) rfl (fun _ _ _ => rfl) : mo_Sim 199 34 (ma_lda 0 35)) (mt_leaf (ms_ild (e := (.iload_n 3, 36, 0, 0, 0)) rfl (fun _ _ _ => rfl) : mo_Sim 199 35 (ma_load 0 3 36)) (mt_none))))
set_option maxRecDepth 100000 in
theorem smt199_10 (k : Nat) : ∀ f, mt199_10 k = some f → mo_Sim 199 k f := mt_node (smt199_11 k) (smt199_12 k)
set_option maxRecDepth 100000 in
theorem smt199_14 (k : Nat) : ∀ f, mt199_14 k = some f → mo_Sim 199 k f := mt_leaf (ms_pushi (e := (.iconst 3, 37, 0, 0, 0)) rfl (fun _ _ _ => rfl) (by decide) : mo_Sim 199 36 (ma_push (ma_ci (.ofNat 3)) 37)) (mt_leaf (ms_pushi (e := (.iconst 2, 38, 0, 0, 0)) rfl (fun _ _ _ => rfl) (by decide) : mo_Sim 199 37 (ma_push (ma_ci (.ofNat 2)) 38)) (mt_leaf (ms_invV (p := 3) (e := (.invokevirtual 137, 41, 152, 0, 1224)) rfl rfl (fun _ _ _ => rfl) rfl rfl rfl (by decide) : mo_Sim 199 38 (ma_inv 152 4 4 12 41)) (mt_leaf (ms_ist (e := (.istore 6, 43, 0, 0, 0)) rfl (fun _ _ _ => rfl) : mo_Sim 199 41 (ma_stor 0 6 43)) (mt_none))))
set_option maxRecDepth 100000 in
theorem smt199_15 (k : Nat) : ∀ f, mt199_15 k = some f → mo_Sim 199 k f := mt_leaf (ms_ild (e := (.iload 4, 45, 0, 0, 0)) rfl (fun _ _ _ => rfl) : mo_Sim 199 43 (ma_load 0 4 45)) (mt_leaf (ms_ild (e := (.iload 5, 47, 0, 0, 0)) rfl (fun _ _ _ => rfl) : mo_Sim 199 45 (ma_load 0 5 47)) (mt_leaf (ms_if2 (e := (.if_icmp .eq 10, 50, 57, 0, 0)) rfl (fun _ _ _ => rfl) : mo_Sim 199 47 (ma_if2 .eq 57 47 50)) (mt_leaf (ms_ild (e := (.iload 4, 52, 0, 0, 0)) rfl (fun _ _ _ => rfl) : mo_Sim 199 50 (ma_load 0 4 52)) (mt_none))))
set_option maxRecDepth 100000 in
theorem smt199_13 (k : Nat) : ∀ f, mt199_13 k = some f → mo_Sim 199 k f := mt_node (smt199_14 k) (smt199_15 k)
set_option maxRecDepth 100000 in
theorem smt199_9 (k : Nat) : ∀ f, mt199_9 k = some f → mo_Sim 199 k f := mt_node (smt199_10 k) (smt199_13 k)
set_option maxRecDepth 100000 in
theorem smt199_1 (k : Nat) : ∀ f, mt199_1 k = some f → mo_Sim 199 k f := mt_node (smt199_2 k) (smt199_9 k)
set_option maxRecDepth 100000 in
theorem smt199_19 (k : Nat) : ∀ f, mt199_19 k = some f → mo_Sim 199 k f := mt_leaf (ms_ild (e := (.iload 6, 54, 0, 0, 0)) rfl (fun _ _ _ => rfl) : mo_Sim 199 52 (ma_load 0 6 54)) (mt_leaf (ms_if2 (e := (.if_icmp .ne 14, 57, 68, 0, 0)) rfl (fun _ _ _ => rfl) : mo_Sim 199 54 (ma_if2 .ne 68 54 57)) (mt_leaf (ms_ald (e := (.aload_n 0, 58, 0, 0, 0)) rfl (fun _ _ _ => rfl) : mo_Sim 199 57 (ma_lda 0 58)) (mt_leaf (ms_getf (e := (.getfield 60, 61, 12, 19, 1071)) rfl (fun _ _ _ => rfl) : mo_Sim 199 58 (ma_getf 12 19 61)) (mt_none))))
set_option maxRecDepth 100000 in
theorem smt199_20 (k : Nat) : ∀ f, mt199_20 k = some f → mo_Sim 199 k f := mt_leaf (ms_ild (e := (.iload_n 3, 62, 0, 0, 0)) rfl (fun _ _ _ => rfl) : mo_Sim 199 61 (ma_load 0 3 62)) (mt_leaf (ms_ild (e := (.iload 4, 64, 0, 0, 0)) rfl (fun _ _ _ => rfl) : mo_Sim 199 62 (ma_load 0 4 64)) (mt_leaf (ms_iast (e := (.iastore, 65, 0, 0, 0)) rfl rfl (fun _ _ _ => rfl) : mo_Sim 199 64 (ma_ast 13 0 64 65)) (mt_leaf (ms_goto (e := (.goto 40, 68, 105, 0, 0)) rfl (fun _ _ _ => rfl) : mo_Sim 199 65 (ma_goto 105)) (mt_none))))
set_option maxRecDepth 100000 in
theorem smt199_18 (k : Nat) : ∀ f, mt199_18 k = some f → mo_Sim 199 k f := mt_node (smt199_19 k) (smt199_20 k)
set_option maxRecDepth 100000 in
theorem smt199_22 (k : Nat) : ∀ f, mt199_22 k = some f → mo_Sim 199 k f := mt_leaf (ms_ild (e := (.iload 5, 70, 0, 0, 0)) rfl (fun _ _ _ => rfl) : mo_Sim 199 68 (ma_load 0 5 70)) (mt_leaf (ms_ild (e := (.iload 6, 72, 0, 0, 0)) rfl (fun _ _ _ => rfl) : mo_Sim 199 70 (ma_load 0 6 72)) (mt_leaf (ms_if2 (e := (.if_icmp .ne 14, 75, 86, 0, 0)) rfl (fun _ _ _ => rfl) : mo_Sim 199 72 (ma_if2 .ne 86 72 75)) (mt_leaf (ms_ald (e := (.aload_n 0, 76, 0, 0, 0)) rfl (fun _ _ _ => rfl) : mo_Sim 199 75 (ma_lda 0 76)) (mt_none))))
set_option maxRecDepth 100000 in
theorem smt199_23 (k : Nat) : ∀ f, mt199_23 k = some f → mo_Sim 199 k f := mt_leaf (ms_getf (e := (.getfield 60, 79, 12, 19, 1071)) rfl (fun _ _ _ => rfl) : mo_Sim 199 76 (ma_getf 12 19 79)) (mt_leaf (ms_ild (e := (.iload_n 3, 80, 0, 0, 0)) rfl (fun _ _ _ => rfl) : mo_Sim 199 79 (ma_load 0 3 80)) (mt_leaf (ms_ild (e := (.iload 5, 82, 0, 0, 0)) rfl (fun _ _ _ => rfl) : mo_Sim 199 80 (ma_load 0 5 82)) (mt_leaf (ms_iast (e := (.iastore, 83, 0, 0, 0)) rfl rfl (fun _ _ _ => rfl) : mo_Sim 199 82 (ma_ast 13 0 82 83)) (mt_none))))
set_option maxRecDepth 100000 in
theorem smt199_21 (k : Nat) : ∀ f, mt199_21 k = some f → mo_Sim 199 k f := mt_node (smt199_22 k) (smt199_23 k)
set_option maxRecDepth 100000 in
theorem smt199_17 (k : Nat) : ∀ f, mt199_17 k = some f → mo_Sim 199 k f := mt_node (smt199_18 k) (smt199_21 k)
set_option maxRecDepth 100000 in
theorem smt199_26 (k : Nat) : ∀ f, mt199_26 k = some f → mo_Sim 199 k f := mt_leaf (ms_goto (e := (.goto 22, 86, 105, 0, 0)) rfl (fun _ _ _ => rfl) : mo_Sim 199 83 (ma_goto 105)) (mt_leaf (ms_ald (e := (.aload_n 0, 87, 0, 0, 0)) rfl (fun _ _ _ => rfl) : mo_Sim 199 86 (ma_lda 0 87)) (mt_leaf (ms_getf (e := (.getfield 60, 90, 12, 19, 1071)) rfl (fun _ _ _ => rfl) : mo_Sim 199 87 (ma_getf 12 19 90)) (mt_leaf (ms_ild (e := (.iload_n 3, 91, 0, 0, 0)) rfl (fun _ _ _ => rfl) : mo_Sim 199 90 (ma_load 0 3 91)) (mt_none))))
set_option maxRecDepth 100000 in
theorem smt199_27 (k : Nat) : ∀ f, mt199_27 k = some f → mo_Sim 199 k f := mt_leaf (ms_ild (e := (.iload_n 2, 92, 0, 0, 0)) rfl (fun _ _ _ => rfl) : mo_Sim 199 91 (ma_load 0 2 92)) (mt_leaf (ms_ald (e := (.aload_n 0, 93, 0, 0, 0)) rfl (fun _ _ _ => rfl) : mo_Sim 199 92 (ma_lda 0 93)) (mt_leaf (ms_getf (e := (.getfield 7, 96, 12, 0, 1052)) rfl (fun _ _ _ => rfl) : mo_Sim 199 93 (ma_getf 12 0 96)) (mt_leaf (ms_id (e := (.irem, 97, 0, 0, 0)) rfl (fun _ _ _ => rfl) hf_rem : mo_Sim 199 96 (ma_i2 ma_frem 96 97)) (mt_none))))
set_option maxRecDepth 100000 in
theorem smt199_25 (k : Nat) : ∀ f, mt199_25 k = some f → mo_Sim 199 k f := mt_node (smt199_26 k) (smt199_27 k)
set_option maxRecDepth 100000 in
theorem smt199_29 (k : Nat) : ∀ f, mt199_29 k = some f → mo_Sim 199 k f := mt_leaf (ms_iast (e := (.iastore, 98, 0, 0, 0)) rfl rfl (fun _ _ _ => rfl) : mo_Sim 199 97 (ma_ast 13 0 97 98)) (mt_leaf (ms_ild (e := (.iload_n 2, 99, 0, 0, 0)) rfl (fun _ _ _ => rfl) : mo_Sim 199 98 (ma_load 0 2 99)) (mt_leaf (ms_ald (e := (.aload_n 0, 100, 0, 0, 0)) rfl (fun _ _ _ => rfl) : mo_Sim 199 99 (ma_lda 0 100)) (mt_leaf (ms_getf (e := (.getfield 7, 103, 12, 0, 1052)) rfl (fun _ _ _ => rfl) : mo_Sim 199 100 (ma_getf 12 0 103)) (mt_none))))
set_option maxRecDepth 100000 in
theorem smt199_31 (k : Nat) : ∀ f, mt199_31 k = some f → mo_Sim 199 k f := mt_leaf (ms_id (e := (.idiv, 104, 0, 0, 0)) rfl (fun _ _ _ => rfl) hf_div : mo_Sim 199 103 (ma_i2 ma_fdiv 103 104)) (mt_leaf (ms_ist (e := (.istore_n 2, 105, 0, 0, 0)) rfl (fun _ _ _ => rfl) : mo_Sim 199 104 (ma_stor 0 2 105)) (mt_none))
set_option maxRecDepth 100000 in
theorem smt199_32 (k : Nat) : ∀ f, mt199_32 k = some f → mo_Sim 199 k f := mt_leaf (ms_iinc (e := (.iinc 3 1, 108, 0, 0, 0)) rfl (fun _ _ _ => rfl) (by decide) : mo_Sim 199 105 (ma_iinc 3 (.ofNat 1) 105 108)) (mt_leaf (ms_goto (e := (.goto (-104), 111, 4, 0, 0)) rfl (fun _ _ _ => rfl) : mo_Sim 199 108 (ma_goto 4)) (mt_leaf (ms_retv (e := (.return_, 112, 0, 0, 0)) rfl rfl (fun _ _ _ => rfl) : mo_Sim 199 111 (ma_retv)) (mt_none)))
set_option maxRecDepth 100000 in
theorem smt199_30 (k : Nat) : ∀ f, mt199_30 k = some f → mo_Sim 199 k f := mt_node (smt199_31 k) (smt199_32 k)
set_option maxRecDepth 100000 in
theorem smt199_28 (k : Nat) : ∀ f, mt199_28 k = some f → mo_Sim 199 k f := mt_node (smt199_29 k) (smt199_30 k)
set_option maxRecDepth 100000 in
theorem smt199_24 (k : Nat) : ∀ f, mt199_24 k = some f → mo_Sim 199 k f := mt_node (smt199_25 k) (smt199_28 k)
set_option maxRecDepth 100000 in
theorem smt199_16 (k : Nat) : ∀ f, mt199_16 k = some f → mo_Sim 199 k f := mt_node (smt199_17 k) (smt199_24 k)
set_option maxRecDepth 100000 in
theorem smt199_0 (k : Nat) : ∀ f, mt199_0 k = some f → mo_Sim 199 k f := mt_node (smt199_1 k) (smt199_16 k)
set_option maxRecDepth 100000 in
theorem smt200_5 (k : Nat) : ∀ f, mt200_5 k = some f → mo_Sim 200 k f := mt_leaf (ms_ald (e := (.aload_n 0, 1, 0, 0, 0)) rfl (fun _ _ _ => rfl) : mo_Sim 200 0 (ma_lda 0 1)) (mt_leaf (ms_invV (p := 0) (e := (.invokevirtual 203, 4, 196, 0, 1359)) rfl rfl (fun _ _ _ => rfl) rfl rfl rfl (by decide) : mo_Sim 200 1 (ma_inv 196 1 3 12 4)) (mt_leaf (ms_ist (e := (.istore_n 2, 5, 0, 0, 0)) rfl (fun _ _ _ => rfl) : mo_Sim 200 4 (ma_stor 0 2 5)) (mt_none)))
set_option maxRecDepth 100000 in
theorem smt200_6 (k : Nat) : ∀ f, mt200_6 k = some f → mo_Sim 200 k f := mt_leaf (ms_ild (e := (.iload_n 1, 6, 0, 0, 0)) rfl (fun _ _ _ => rfl) : mo_Sim 200 5 (ma_load 0 1 6)) (mt_leaf (ms_isw (nx := 32) (e := (.tableswitch 213 0 2 #[26, 84, 134], 32, 0, 0, 0)) rfl (fun _ _ _ => rfl) (by decide) (by decide) (by decide) : mo_Sim 200 6 (ma_sw [32, 90, 140] 219 6)) (mt_leaf (ms_pushi (e := (.iconst 0, 33, 0, 0, 0)) rfl (fun _ _ _ => rfl) (by decide) : mo_Sim 200 32 (ma_push (ma_ci (.ofNat 0)) 33)) (mt_leaf (ms_ist (e := (.istore_n 3, 34, 0, 0, 0)) rfl (fun _ _ _ => rfl) : mo_Sim 200 33 (ma_stor 0 3 34)) (mt_none))))
set_option maxRecDepth 100000 in
theorem smt200_4 (k : Nat) : ∀ f, mt200_4 k = some f → mo_Sim 200 k f := mt_node (smt200_5 k) (smt200_6 k)
set_option maxRecDepth 100000 in
theorem smt200_8 (k : Nat) : ∀ f, mt200_8 k = some f → mo_Sim 200 k f := mt_leaf (ms_ild (e := (.iload_n 3, 35, 0, 0, 0)) rfl (fun _ _ _ => rfl) : mo_Sim 200 34 (ma_load 0 3 35)) (mt_leaf (ms_ald (e := (.aload_n 0, 36, 0, 0, 0)) rfl (fun _ _ _ => rfl) : mo_Sim 200 35 (ma_lda 0 36)) (mt_leaf (ms_getf (e := (.getfield 7, 39, 12, 0, 1052)) rfl (fun _ _ _ => rfl) : mo_Sim 200 36 (ma_getf 12 0 39)) (mt_none)))
set_option maxRecDepth 100000 in
theorem smt200_9 (k : Nat) : ∀ f, mt200_9 k = some f → mo_Sim 200 k f := mt_leaf (ms_ald (e := (.aload_n 0, 40, 0, 0, 0)) rfl (fun _ _ _ => rfl) : mo_Sim 200 39 (ma_lda 0 40)) (mt_leaf (ms_pushi (e := (.iconst 2, 41, 0, 0, 0)) rfl (fun _ _ _ => rfl) (by decide) : mo_Sim 200 40 (ma_push (ma_ci (.ofNat 2)) 41)) (mt_leaf (ms_invV (p := 1) (e := (.invokevirtual 133, 44, 162, 0, 1220)) rfl rfl (fun _ _ _ => rfl) rfl rfl rfl (by decide) : mo_Sim 200 41 (ma_inv 162 2 2 12 44)) (mt_leaf (ms_invS (e := (.invokestatic 88, 47, 140, 1, 1155)) rfl rfl (fun _ _ _ => rfl) rfl rfl : mo_Sim 200 44 (ma_inv 140 2 4 20 47)) (mt_none))))
set_option maxRecDepth 100000 in
theorem smt200_7 (k : Nat) : ∀ f, mt200_7 k = some f → mo_Sim 200 k f := mt_node (smt200_8 k) (smt200_9 k)
set_option maxRecDepth 100000 in
theorem smt200_3 (k : Nat) : ∀ f, mt200_3 k = some f → mo_Sim 200 k f := mt_node (smt200_4 k) (smt200_7 k)
set_option maxRecDepth 100000 in
theorem smt200_12 (k : Nat) : ∀ f, mt200_12 k = some f → mo_Sim 200 k f := mt_leaf (ms_if2 (e := (.if_icmp .ge 39, 50, 86, 0, 0)) rfl (fun _ _ _ => rfl) : mo_Sim 200 47 (ma_if2 .ge 86 47 50)) (mt_leaf (ms_ald (e := (.aload_n 0, 51, 0, 0, 0)) rfl (fun _ _ _ => rfl) : mo_Sim 200 50 (ma_lda 0 51)) (mt_leaf (ms_ild (e := (.iload_n 3, 52, 0, 0, 0)) rfl (fun _ _ _ => rfl) : mo_Sim 200 51 (ma_load 0 3 52)) (mt_none)))
set_option maxRecDepth 100000 in
theorem smt200_13 (k : Nat) : ∀ f, mt200_13 k = some f → mo_Sim 200 k f := mt_leaf (ms_i2l (e := (.i2l, 53, 0, 0, 0)) rfl (fun _ _ _ => rfl) : mo_Sim 200 52 (ma_i2l 53)) (mt_leaf (ms_ald (e := (.aload_n 0, 54, 0, 0, 0)) rfl (fun _ _ _ => rfl) : mo_Sim 200 53 (ma_lda 0 54)) (mt_leaf (ms_pushi (e := (.iconst 2, 55, 0, 0, 0)) rfl (fun _ _ _ => rfl) (by decide) : mo_Sim 200 54 (ma_push (ma_ci (.ofNat 2)) 55)) (mt_leaf (ms_invV (p := 1) (e := (.invokevirtual 133, 58, 162, 0, 1220)) rfl rfl (fun _ _ _ => rfl) rfl rfl rfl (by decide) : mo_Sim 200 55 (ma_inv 162 2 2 12 58)) (mt_none))))
set_option maxRecDepth 100000 in
theorem smt200_11 (k : Nat) : ∀ f, mt200_11 k = some f → mo_Sim 200 k f := mt_node (smt200_12 k) (smt200_13 k)
set_option maxRecDepth 100000 in
theorem smt200_15 (k : Nat) : ∀ f, mt200_15 k = some f → mo_Sim 200 k f := mt_leaf (ms_invV (p := 2) (e := (.invokevirtual 162, 61, 171, 0, 1262)) rfl rfl (fun _ _ _ => rfl) rfl rfl rfl (by decide) : mo_Sim 200 58 (ma_inv 171 3 7 12 61)) (mt_leaf (ms_ald (e := (.aload_n 0, 62, 0, 0, 0)) rfl (fun _ _ _ => rfl) : mo_Sim 200 61 (ma_lda 0 62)) (mt_leaf (ms_invV (p := 0) (e := (.invokevirtual 207, 65, 197, 0, 1363)) rfl rfl (fun _ _ _ => rfl) rfl rfl rfl (by decide) : mo_Sim 200 62 (ma_inv 197 1 4 12 65)) (mt_none)))
set_option maxRecDepth 100000 in
theorem smt200_16 (k : Nat) : ∀ f, mt200_16 k = some f → mo_Sim 200 k f := mt_leaf (ms_if0 (e := (.ifCond .eq 15, 68, 80, 0, 0)) rfl (fun _ _ _ => rfl) : mo_Sim 200 65 (ma_if0 .eq 80 65 68)) (mt_leaf (ms_ald (e := (.aload_n 0, 69, 0, 0, 0)) rfl (fun _ _ _ => rfl) : mo_Sim 200 68 (ma_lda 0 69)) (mt_leaf (ms_pushi (e := (.iconst 2, 70, 0, 0, 0)) rfl (fun _ _ _ => rfl) (by decide) : mo_Sim 200 69 (ma_push (ma_ci (.ofNat 2)) 70)) (mt_leaf (ms_ild (e := (.iload_n 2, 71, 0, 0, 0)) rfl (fun _ _ _ => rfl) : mo_Sim 200 70 (ma_load 0 2 71)) (mt_none))))
set_option maxRecDepth 100000 in
theorem smt200_14 (k : Nat) : ∀ f, mt200_14 k = some f → mo_Sim 200 k f := mt_node (smt200_15 k) (smt200_16 k)
set_option maxRecDepth 100000 in
theorem smt200_10 (k : Nat) : ∀ f, mt200_10 k = some f → mo_Sim 200 k f := mt_node (smt200_11 k) (smt200_14 k)
set_option maxRecDepth 100000 in
theorem smt200_2 (k : Nat) : ∀ f, mt200_2 k = some f → mo_Sim 200 k f := mt_node (smt200_3 k) (smt200_10 k)
set_option maxRecDepth 100000 in
theorem smt200_20 (k : Nat) : ∀ f, mt200_20 k = some f → mo_Sim 200 k f := mt_leaf (ms_invV (p := 2) (e := (.invokevirtual 166, 74, 172, 0, 1266)) rfl rfl (fun _ _ _ => rfl) rfl rfl rfl (by decide) : mo_Sim 200 71 (ma_inv 172 3 4 12 74)) (mt_leaf (ms_if0 (e := (.ifCond .eq 6, 77, 80, 0, 0)) rfl (fun _ _ _ => rfl) : mo_Sim 200 74 (ma_if0 .eq 80 74 77)) (mt_leaf (ms_ild (e := (.iload_n 3, 78, 0, 0, 0)) rfl (fun _ _ _ => rfl) : mo_Sim 200 77 (ma_load 0 3 78)) (mt_none)))
set_option maxRecDepth 100000 in
theorem smt200_21 (k : Nat) : ∀ f, mt200_21 k = some f → mo_Sim 200 k f := mt_leaf (ms_i2l (e := (.i2l, 79, 0, 0, 0)) rfl (fun _ _ _ => rfl) : mo_Sim 200 78 (ma_i2l 79)) (mt_leaf (ms_ret (e := (.lreturn, 80, 0, 0, 0)) rfl (Or.inr (Or.inr (Or.inr ⟨rfl, rfl, (fun _ _ _ => rfl)⟩))) : mo_Sim 200 79 (ma_ret 3)) (mt_leaf (ms_iinc (e := (.iinc 3 1, 83, 0, 0, 0)) rfl (fun _ _ _ => rfl) (by decide) : mo_Sim 200 80 (ma_iinc 3 (.ofNat 1) 80 83)) (mt_leaf (ms_goto (e := (.goto (-49), 86, 34, 0, 0)) rfl (fun _ _ _ => rfl) : mo_Sim 200 83 (ma_goto 34)) (mt_none))))
set_option maxRecDepth 100000 in
theorem smt200_19 (k : Nat) : ∀ f, mt200_19 k = some f → mo_Sim 200 k f := mt_node (smt200_20 k) (smt200_21 k)
set_option maxRecDepth 100000 in
theorem smt200_23 (k : Nat) : ∀ f, mt200_23 k = some f → mo_Sim 200 k f := mt_leaf (ms_pushl (e := (.ldc2_w 211, 89, 18446744073709551609, 0, 1367)) rfl (fun _ _ _ => rfl) (by decide) : mo_Sim 200 86 (ma_push (ma_cl (.negSucc 6)) 89)) (mt_leaf (ms_ret (e := (.lreturn, 90, 0, 0, 0)) rfl (Or.inr (Or.inr (Or.inr ⟨rfl, rfl, (fun _ _ _ => rfl)⟩))) : mo_Sim 200 89 (ma_ret 3)) (mt_leaf (ms_pushi (e := (.iconst 0, 91, 0, 0, 0)) rfl (fun _ _ _ => rfl) (by decide) : mo_Sim 200 90 (ma_push (ma_ci (.ofNat 0)) 91)) (mt_none)))
set_option maxRecDepth 100000 in
theorem smt200_24 (k : Nat) : ∀ f, mt200_24 k = some f → mo_Sim 200 k f := mt_leaf (ms_ist (e := (.istore_n 3, 92, 0, 0, 0)) rfl (fun _ _ _ => rfl) : mo_Sim 200 91 (ma_stor 0 3 92)) (mt_leaf (ms_ild (e := (.iload_n 3, 93, 0, 0, 0)) rfl (fun _ _ _ => rfl) : mo_Sim 200 92 (ma_load 0 3 93)) (mt_leaf (ms_ald (e := (.aload_n 0, 94, 0, 0, 0)) rfl (fun _ _ _ => rfl) : mo_Sim 200 93 (ma_lda 0 94)) (mt_leaf (ms_getf (e := (.getfield 7, 97, 12, 0, 1052)) rfl (fun _ _ _ => rfl) : mo_Sim 200 94 (ma_getf 12 0 97)) (mt_none))))
set_option maxRecDepth 100000 in
theorem smt200_22 (k : Nat) : ∀ f, mt200_22 k = some f → mo_Sim 200 k f := mt_node (smt200_23 k) (smt200_24 k)
set_option maxRecDepth 100000 in
theorem smt200_18 (k : Nat) : ∀ f, mt200_18 k = some f → mo_Sim 200 k f := mt_node (smt200_19 k) (smt200_22 k)
set_option maxRecDepth 100000 in
theorem smt200_27 (k : Nat) : ∀ f, mt200_27 k = some f → mo_Sim 200 k f := mt_leaf (ms_pushi (e := (.iconst 2, 98, 0, 0, 0)) rfl (fun _ _ _ => rfl) (by decide) : mo_Sim 200 97 (ma_push (ma_ci (.ofNat 2)) 98)) (mt_leaf (ms_if2 (e := (.if_icmp .ne 7, 101, 105, 0, 0)) rfl (fun _ _ _ => rfl) : mo_Sim 200 98 (ma_if2 .ne 105 98 101)) (mt_leaf (ms_pushi (e := (.iconst 1, 102, 0, 0, 0)) rfl (fun _ _ _ => rfl) (by decide) : mo_Sim 200 101 (ma_push (ma_ci (.ofNat 1)) 102)) (mt_none)))
set_option maxRecDepth 100000 in
theorem smt200_28 (k : Nat) : ∀ f, mt200_28 k = some f → mo_Sim 200 k f := mt_leaf (ms_goto (e := (.goto 6, 105, 108, 0, 0)) rfl (fun _ _ _ => rfl) : mo_Sim 200 102 (ma_goto 108)) (mt_leaf (ms_pushi (e := (.sipush 729, 108, 0, 0, 0)) rfl (fun _ _ _ => rfl) (by decide) : mo_Sim 200 105 (ma_push (ma_ci (.ofNat 729)) 108)) (mt_leaf (ms_if2 (e := (.if_icmp .ge 28, 111, 136, 0, 0)) rfl (fun _ _ _ => rfl) : mo_Sim 200 108 (ma_if2 .ge 136 108 111)) (mt_leaf (ms_ald (e := (.aload_n 0, 112, 0, 0, 0)) rfl (fun _ _ _ => rfl) : mo_Sim 200 111 (ma_lda 0 112)) (mt_none))))
set_option maxRecDepth 100000 in
theorem smt200_26 (k : Nat) : ∀ f, mt200_26 k = some f → mo_Sim 200 k f := mt_node (smt200_27 k) (smt200_28 k)
set_option maxRecDepth 100000 in
theorem smt200_30 (k : Nat) : ∀ f, mt200_30 k = some f → mo_Sim 200 k f := mt_leaf (ms_ild (e := (.iload_n 3, 113, 0, 0, 0)) rfl (fun _ _ _ => rfl) : mo_Sim 200 112 (ma_load 0 3 113)) (mt_leaf (ms_invV (p := 1) (e := (.invokevirtual 213, 116, 199, 0, 1368)) rfl rfl (fun _ _ _ => rfl) rfl rfl rfl (by decide) : mo_Sim 200 113 (ma_inv 199 2 7 12 116)) (mt_leaf (ms_ald (e := (.aload_n 0, 117, 0, 0, 0)) rfl (fun _ _ _ => rfl) : mo_Sim 200 116 (ma_lda 0 117)) (mt_none)))
set_option maxRecDepth 100000 in
theorem smt200_31 (k : Nat) : ∀ f, mt200_31 k = some f → mo_Sim 200 k f := mt_leaf (ms_pushi (e := (.iconst 3, 118, 0, 0, 0)) rfl (fun _ _ _ => rfl) (by decide) : mo_Sim 200 117 (ma_push (ma_ci (.ofNat 3)) 118)) (mt_leaf (ms_ild (e := (.iload_n 2, 119, 0, 0, 0)) rfl (fun _ _ _ => rfl) : mo_Sim 200 118 (ma_load 0 2 119)) (mt_leaf (ms_invV (p := 2) (e := (.invokevirtual 166, 122, 172, 0, 1266)) rfl rfl (fun _ _ _ => rfl) rfl rfl rfl (by decide) : mo_Sim 200 119 (ma_inv 172 3 4 12 122)) (mt_leaf (ms_if0 (e := (.ifCond .eq 8, 125, 130, 0, 0)) rfl (fun _ _ _ => rfl) : mo_Sim 200 122 (ma_if0 .eq 130 122 125)) (mt_none))))
set_option maxRecDepth 100000 in
theorem smt200_29 (k : Nat) : ∀ f, mt200_29 k = some f → mo_Sim 200 k f := mt_node (smt200_30 k) (smt200_31 k)
set_option maxRecDepth 100000 in
theorem smt200_25 (k : Nat) : ∀ f, mt200_25 k = some f → mo_Sim 200 k f := mt_node (smt200_26 k) (smt200_29 k)
set_option maxRecDepth 100000 in
theorem smt200_17 (k : Nat) : ∀ f, mt200_17 k = some f → mo_Sim 200 k f := mt_node (smt200_18 k) (smt200_25 k)
set_option maxRecDepth 100000 in
theorem smt200_1 (k : Nat) : ∀ f, mt200_1 k = some f → mo_Sim 200 k f := mt_node (smt200_2 k) (smt200_17 k)
set_option maxRecDepth 100000 in
theorem smt200_36 (k : Nat) : ∀ f, mt200_36 k = some f → mo_Sim 200 k f := mt_leaf (ms_ald (e := (.aload_n 0, 126, 0, 0, 0)) rfl (fun _ _ _ => rfl) : mo_Sim 200 125 (ma_lda 0 126)) (mt_leaf (ms_invV (p := 0) (e := (.invokevirtual 216, 129, 198, 0, 1372)) rfl rfl (fun _ _ _ => rfl) rfl rfl rfl (by decide) : mo_Sim 200 126 (ma_inv 198 1 4 12 129)) (mt_leaf (ms_ret (e := (.lreturn, 130, 0, 0, 0)) rfl (Or.inr (Or.inr (Or.inr ⟨rfl, rfl, (fun _ _ _ => rfl)⟩))) : mo_Sim 200 129 (ma_ret 3)) (mt_none)))
set_option maxRecDepth 100000 in
theorem smt200_37 (k : Nat) : ∀ f, mt200_37 k = some f → mo_Sim 200 k f := mt_leaf (ms_iinc (e := (.iinc 3 1, 133, 0, 0, 0)) rfl (fun _ _ _ => rfl) (by decide) : mo_Sim 200 130 (ma_iinc 3 (.ofNat 1) 130 133)) (mt_leaf (ms_goto (e := (.goto (-41), 136, 92, 0, 0)) rfl (fun _ _ _ => rfl) : mo_Sim 200 133 (ma_goto 92)) (mt_leaf (ms_pushl (e := (.ldc2_w 211, 139, 18446744073709551609, 0, 1367)) rfl (fun _ _ _ => rfl) (by decide) : mo_Sim 200 136 (ma_push (ma_cl (.negSucc 6)) 139)) (mt_leaf (ms_ret (e := (.lreturn, 140, 0, 0, 0)) rfl (Or.inr (Or.inr (Or.inr ⟨rfl, rfl, (fun _ _ _ => rfl)⟩))) : mo_Sim 200 139 (ma_ret 3)) (mt_none))))
set_option maxRecDepth 100000 in
theorem smt200_35 (k : Nat) : ∀ f, mt200_35 k = some f → mo_Sim 200 k f := mt_node (smt200_36 k) (smt200_37 k)
set_option maxRecDepth 100000 in
theorem smt200_39 (k : Nat) : ∀ f, mt200_39 k = some f → mo_Sim 200 k f := mt_leaf (ms_pushi (e := (.iconst 0, 141, 0, 0, 0)) rfl (fun _ _ _ => rfl) (by decide) : mo_Sim 200 140 (ma_push (ma_ci (.ofNat 0)) 141)) (mt_leaf (ms_ist (e := (.istore_n 3, 142, 0, 0, 0)) rfl (fun _ _ _ => rfl) : mo_Sim 200 141 (ma_stor 0 3 142)) (mt_leaf (ms_ild (e := (.iload_n 3, 143, 0, 0, 0)) rfl (fun _ _ _ => rfl) : mo_Sim 200 142 (ma_load 0 3 143)) (mt_none)))
set_option maxRecDepth 100000 in
theorem smt200_40 (k : Nat) : ∀ f, mt200_40 k = some f → mo_Sim 200 k f := mt_leaf (ms_ald (e := (.aload_n 0, 144, 0, 0, 0)) rfl (fun _ _ _ => rfl) : mo_Sim 200 143 (ma_lda 0 144)) (mt_leaf (ms_getf (e := (.getfield 7, 147, 12, 0, 1052)) rfl (fun _ _ _ => rfl) : mo_Sim 200 144 (ma_getf 12 0 147)) (mt_leaf (ms_pushi (e := (.iconst 3, 148, 0, 0, 0)) rfl (fun _ _ _ => rfl) (by decide) : mo_Sim 200 147 (ma_push (ma_ci (.ofNat 3)) 148)) (mt_leaf (ms_invS (e := (.invokestatic 88, 151, 140, 1, 1155)) rfl rfl (fun _ _ _ => rfl) rfl rfl : mo_Sim 200 148 (ma_inv 140 2 4 20 151)) (mt_none))))
set_option maxRecDepth 100000 in
theorem smt200_38 (k : Nat) : ∀ f, mt200_38 k = some f → mo_Sim 200 k f := mt_node (smt200_39 k) (smt200_40 k)
set_option maxRecDepth 100000 in
theorem smt200_34 (k : Nat) : ∀ f, mt200_34 k = some f → mo_Sim 200 k f := mt_node (smt200_35 k) (smt200_38 k)
set_option maxRecDepth 100000 in
theorem smt200_43 (k : Nat) : ∀ f, mt200_43 k = some f → mo_Sim 200 k f := mt_leaf (ms_if2 (e := (.if_icmp .ge 48, 154, 199, 0, 0)) rfl (fun _ _ _ => rfl) : mo_Sim 200 151 (ma_if2 .ge 199 151 154)) (mt_leaf (ms_ald (e := (.aload_n 0, 155, 0, 0, 0)) rfl (fun _ _ _ => rfl) : mo_Sim 200 154 (ma_lda 0 155)) (mt_leaf (ms_getf (e := (.getfield 60, 158, 12, 19, 1071)) rfl (fun _ _ _ => rfl) : mo_Sim 200 155 (ma_getf 12 19 158)) (mt_none)))
set_option maxRecDepth 100000 in
theorem smt200_44 (k : Nat) : ∀ f, mt200_44 k = some f → mo_Sim 200 k f := mt_leaf (ms_ild (e := (.iload_n 3, 159, 0, 0, 0)) rfl (fun _ _ _ => rfl) : mo_Sim 200 158 (ma_load 0 3 159)) (mt_leaf (ms_ald (e := (.aload_n 0, 160, 0, 0, 0)) rfl (fun _ _ _ => rfl) : mo_Sim 200 159 (ma_lda 0 160)) (mt_leaf (ms_ild (e := (.iload_n 3, 161, 0, 0, 0)) rfl (fun _ _ _ => rfl) : mo_Sim 200 160 (ma_load 0 3 161)) (mt_leaf (ms_pushi (e := (.iconst 3, 162, 0, 0, 0)) rfl (fun _ _ _ => rfl) (by decide) : mo_Sim 200 161 (ma_push (ma_ci (.ofNat 3)) 162)) (mt_none))))
set_option maxRecDepth 100000 in
theorem smt200_42 (k : Nat) : ∀ f, mt200_42 k = some f → mo_Sim 200 k f := mt_node (smt200_43 k) (smt200_44 k)
set_option maxRecDepth 100000 in
theorem smt200_46 (k : Nat) : ∀ f, mt200_46 k = some f → mo_Sim 200 k f := mt_leaf (ms_pushi (e := (.iconst 0, 163, 0, 0, 0)) rfl (fun _ _ _ => rfl) (by decide) : mo_Sim 200 162 (ma_push (ma_ci (.ofNat 0)) 163)) (mt_leaf (ms_invV (p := 3) (e := (.invokevirtual 137, 166, 152, 0, 1224)) rfl rfl (fun _ _ _ => rfl) rfl rfl rfl (by decide) : mo_Sim 200 163 (ma_inv 152 4 4 12 166)) (mt_leaf (ms_ald (e := (.aload_n 0, 167, 0, 0, 0)) rfl (fun _ _ _ => rfl) : mo_Sim 200 166 (ma_lda 0 167)) (mt_none)))
set_option maxRecDepth 100000 in
theorem smt200_47 (k : Nat) : ∀ f, mt200_47 k = some f → mo_Sim 200 k f := mt_leaf (ms_getf (e := (.getfield 7, 170, 12, 0, 1052)) rfl (fun _ _ _ => rfl) : mo_Sim 200 167 (ma_getf 12 0 170)) (mt_leaf (ms_iadd (e := (.iadd, 171, 0, 0, 0)) rfl (fun _ _ _ => rfl) : mo_Sim 200 170 (ma_iadd 170 171)) (mt_leaf (ms_ald (e := (.aload_n 0, 172, 0, 0, 0)) rfl (fun _ _ _ => rfl) : mo_Sim 200 171 (ma_lda 0 172)) (mt_leaf (ms_ild (e := (.iload_n 3, 173, 0, 0, 0)) rfl (fun _ _ _ => rfl) : mo_Sim 200 172 (ma_load 0 3 173)) (mt_none))))
set_option maxRecDepth 100000 in
theorem smt200_45 (k : Nat) : ∀ f, mt200_45 k = some f → mo_Sim 200 k f := mt_node (smt200_46 k) (smt200_47 k)
set_option maxRecDepth 100000 in
theorem smt200_41 (k : Nat) : ∀ f, mt200_41 k = some f → mo_Sim 200 k f := mt_node (smt200_42 k) (smt200_45 k)
set_option maxRecDepth 100000 in
theorem smt200_33 (k : Nat) : ∀ f, mt200_33 k = some f → mo_Sim 200 k f := mt_node (smt200_34 k) (smt200_41 k)
set_option maxRecDepth 100000 in
theorem smt200_51 (k : Nat) : ∀ f, mt200_51 k = some f → mo_Sim 200 k f := mt_leaf (ms_pushi (e := (.iconst 3, 174, 0, 0, 0)) rfl (fun _ _ _ => rfl) (by decide) : mo_Sim 200 173 (ma_push (ma_ci (.ofNat 3)) 174)) (mt_leaf (ms_pushi (e := (.iconst 1, 175, 0, 0, 0)) rfl (fun _ _ _ => rfl) (by decide) : mo_Sim 200 174 (ma_push (ma_ci (.ofNat 1)) 175)) (mt_leaf (ms_invV (p := 3) (e := (.invokevirtual 137, 178, 152, 0, 1224)) rfl rfl (fun _ _ _ => rfl) rfl rfl rfl (by decide) : mo_Sim 200 175 (ma_inv 152 4 4 12 178)) (mt_none)))
set_option maxRecDepth 100000 in
theorem smt200_52 (k : Nat) : ∀ f, mt200_52 k = some f → mo_Sim 200 k f := mt_leaf (ms_isub (e := (.isub, 179, 0, 0, 0)) rfl (fun _ _ _ => rfl) : mo_Sim 200 178 (ma_isub 178 179)) (mt_leaf (ms_ald (e := (.aload_n 0, 180, 0, 0, 0)) rfl (fun _ _ _ => rfl) : mo_Sim 200 179 (ma_lda 0 180)) (mt_leaf (ms_ild (e := (.iload_n 3, 181, 0, 0, 0)) rfl (fun _ _ _ => rfl) : mo_Sim 200 180 (ma_load 0 3 181)) (mt_leaf (ms_pushi (e := (.iconst 3, 182, 0, 0, 0)) rfl (fun _ _ _ => rfl) (by decide) : mo_Sim 200 181 (ma_push (ma_ci (.ofNat 3)) 182)) (mt_none))))
set_option maxRecDepth 100000 in
theorem smt200_50 (k : Nat) : ∀ f, mt200_50 k = some f → mo_Sim 200 k f := mt_node (smt200_51 k) (smt200_52 k)
set_option maxRecDepth 100000 in
theorem smt200_54 (k : Nat) : ∀ f, mt200_54 k = some f → mo_Sim 200 k f := mt_leaf (ms_pushi (e := (.iconst 2, 183, 0, 0, 0)) rfl (fun _ _ _ => rfl) (by decide) : mo_Sim 200 182 (ma_push (ma_ci (.ofNat 2)) 183)) (mt_leaf (ms_invV (p := 3) (e := (.invokevirtual 137, 186, 152, 0, 1224)) rfl rfl (fun _ _ _ => rfl) rfl rfl rfl (by decide) : mo_Sim 200 183 (ma_inv 152 4 4 12 186)) (mt_leaf (ms_iadd (e := (.iadd, 187, 0, 0, 0)) rfl (fun _ _ _ => rfl) : mo_Sim 200 186 (ma_iadd 186 187)) (mt_none)))
set_option maxRecDepth 100000 in
theorem smt200_55 (k : Nat) : ∀ f, mt200_55 k = some f → mo_Sim 200 k f := mt_leaf (ms_ald (e := (.aload_n 0, 188, 0, 0, 0)) rfl (fun _ _ _ => rfl) : mo_Sim 200 187 (ma_lda 0 188)) (mt_leaf (ms_getf (e := (.getfield 7, 191, 12, 0, 1052)) rfl (fun _ _ _ => rfl) : mo_Sim 200 188 (ma_getf 12 0 191)) (mt_leaf (ms_id (e := (.irem, 192, 0, 0, 0)) rfl (fun _ _ _ => rfl) hf_rem : mo_Sim 200 191 (ma_i2 ma_frem 191 192)) (mt_leaf (ms_iast (e := (.iastore, 193, 0, 0, 0)) rfl rfl (fun _ _ _ => rfl) : mo_Sim 200 192 (ma_ast 13 0 192 193)) (mt_none))))
set_option maxRecDepth 100000 in
theorem smt200_53 (k : Nat) : ∀ f, mt200_53 k = some f → mo_Sim 200 k f := mt_node (smt200_54 k) (smt200_55 k)
set_option maxRecDepth 100000 in
theorem smt200_49 (k : Nat) : ∀ f, mt200_49 k = some f → mo_Sim 200 k f := mt_node (smt200_50 k) (smt200_53 k)
set_option maxRecDepth 100000 in
theorem smt200_58 (k : Nat) : ∀ f, mt200_58 k = some f → mo_Sim 200 k f := mt_leaf (ms_iinc (e := (.iinc 3 1, 196, 0, 0, 0)) rfl (fun _ _ _ => rfl) (by decide) : mo_Sim 200 193 (ma_iinc 3 (.ofNat 1) 193 196)) (mt_leaf (ms_goto (e := (.goto (-54), 199, 142, 0, 0)) rfl (fun _ _ _ => rfl) : mo_Sim 200 196 (ma_goto 142)) (mt_leaf (ms_ald (e := (.aload_n 0, 200, 0, 0, 0)) rfl (fun _ _ _ => rfl) : mo_Sim 200 199 (ma_lda 0 200)) (mt_none)))
set_option maxRecDepth 100000 in
theorem smt200_59 (k : Nat) : ∀ f, mt200_59 k = some f → mo_Sim 200 k f := mt_leaf (ms_pushi (e := (.iconst 3, 201, 0, 0, 0)) rfl (fun _ _ _ => rfl) (by decide) : mo_Sim 200 200 (ma_push (ma_ci (.ofNat 3)) 201)) (mt_leaf (ms_ild (e := (.iload_n 2, 202, 0, 0, 0)) rfl (fun _ _ _ => rfl) : mo_Sim 200 201 (ma_load 0 2 202)) (mt_leaf (ms_invV (p := 2) (e := (.invokevirtual 166, 205, 172, 0, 1266)) rfl rfl (fun _ _ _ => rfl) rfl rfl rfl (by decide) : mo_Sim 200 202 (ma_inv 172 3 4 12 205)) (mt_leaf (ms_if0 (e := (.ifCond .eq 10, 208, 215, 0, 0)) rfl (fun _ _ _ => rfl) : mo_Sim 200 205 (ma_if0 .eq 215 205 208)) (mt_none))))
set_option maxRecDepth 100000 in
theorem smt200_57 (k : Nat) : ∀ f, mt200_57 k = some f → mo_Sim 200 k f := mt_node (smt200_58 k) (smt200_59 k)
set_option maxRecDepth 100000 in
theorem smt200_61 (k : Nat) : ∀ f, mt200_61 k = some f → mo_Sim 200 k f := mt_leaf (ms_ald (e := (.aload_n 0, 209, 0, 0, 0)) rfl (fun _ _ _ => rfl) : mo_Sim 200 208 (ma_lda 0 209)) (mt_leaf (ms_invV (p := 0) (e := (.invokevirtual 216, 212, 198, 0, 1372)) rfl rfl (fun _ _ _ => rfl) rfl rfl rfl (by decide) : mo_Sim 200 209 (ma_inv 198 1 4 12 212)) (mt_leaf (ms_goto (e := (.goto 6, 215, 218, 0, 0)) rfl (fun _ _ _ => rfl) : mo_Sim 200 212 (ma_goto 218)) (mt_none)))
set_option maxRecDepth 100000 in
theorem smt200_62 (k : Nat) : ∀ f, mt200_62 k = some f → mo_Sim 200 k f := mt_leaf (ms_pushl (e := (.ldc2_w 211, 218, 18446744073709551609, 0, 1367)) rfl (fun _ _ _ => rfl) (by decide) : mo_Sim 200 215 (ma_push (ma_cl (.negSucc 6)) 218)) (mt_leaf (ms_ret (e := (.lreturn, 219, 0, 0, 0)) rfl (Or.inr (Or.inr (Or.inr ⟨rfl, rfl, (fun _ _ _ => rfl)⟩))) : mo_Sim 200 218 (ma_ret 3)) (mt_leaf (ms_pushl (e := (.ldc2_w 98, 222, 18446744073709551615, 0, 1175)) rfl (fun _ _ _ => rfl) (by decide) : mo_Sim 200 219 (ma_push (ma_cl (.negSucc 0)) 222)) (mt_leaf (ms_ret (e := (.lreturn, 223, 0, 0, 0)) rfl (Or.inr (Or.inr (Or.inr ⟨rfl, rfl, (fun _ _ _ => rfl)⟩))) : mo_Sim 200 222 (ma_ret 3)) (mt_none))))
set_option maxRecDepth 100000 in
theorem smt200_60 (k : Nat) : ∀ f, mt200_60 k = some f → mo_Sim 200 k f := mt_node (smt200_61 k) (smt200_62 k)
set_option maxRecDepth 100000 in
theorem smt200_56 (k : Nat) : ∀ f, mt200_56 k = some f → mo_Sim 200 k f := mt_node (smt200_57 k) (smt200_60 k)
set_option maxRecDepth 100000 in
theorem smt200_48 (k : Nat) : ∀ f, mt200_48 k = some f → mo_Sim 200 k f := mt_node (smt200_49 k) (smt200_56 k)
set_option maxRecDepth 100000 in
theorem smt200_32 (k : Nat) : ∀ f, mt200_32 k = some f → mo_Sim 200 k f := mt_node (smt200_33 k) (smt200_48 k)
set_option maxRecDepth 100000 in
theorem smt200_0 (k : Nat) : ∀ f, mt200_0 k = some f → mo_Sim 200 k f := mt_node (smt200_1 k) (smt200_32 k)
set_option maxRecDepth 100000 in
theorem smt201_4 (k : Nat) : ∀ f, mt201_4 k = some f → mo_Sim 201 k f := mt_leaf (ms_ild (e := (.iload_n 1, 1, 0, 0, 0)) rfl (fun _ _ _ => rfl) : mo_Sim 201 0 (ma_load 0 1 1)) (mt_leaf (ms_isw (nx := 40) (e := (.tableswitch 99 0 5 #[39, 44, 49, 54, 59, 64], 40, 0, 0, 0)) rfl (fun _ _ _ => rfl) (by decide) (by decide) (by decide) : mo_Sim 201 1 (ma_sw [40, 45, 50, 55, 60, 65] 100 1)) (mt_none))
set_option maxRecDepth 100000 in
theorem smt201_5 (k : Nat) : ∀ f, mt201_5 k = some f → mo_Sim 201 k f := mt_leaf (ms_ald (e := (.aload_n 0, 41, 0, 0, 0)) rfl (fun _ _ _ => rfl) : mo_Sim 201 40 (ma_lda 0 41)) (mt_leaf (ms_getf (e := (.getfield 7, 44, 12, 0, 1052)) rfl (fun _ _ _ => rfl) : mo_Sim 201 41 (ma_getf 12 0 44)) (mt_leaf (ms_ret (e := (.ireturn, 45, 0, 0, 0)) rfl (Or.inl ⟨rfl, rfl, (fun _ _ _ => rfl)⟩) : mo_Sim 201 44 (ma_ret 0)) (mt_none)))
set_option maxRecDepth 100000 in
theorem smt201_3 (k : Nat) : ∀ f, mt201_3 k = some f → mo_Sim 201 k f := mt_node (smt201_4 k) (smt201_5 k)
set_option maxRecDepth 100000 in
theorem smt201_7 (k : Nat) : ∀ f, mt201_7 k = some f → mo_Sim 201 k f := mt_leaf (ms_ald (e := (.aload_n 0, 46, 0, 0, 0)) rfl (fun _ _ _ => rfl) : mo_Sim 201 45 (ma_lda 0 46)) (mt_leaf (ms_getf (e := (.getfield 72, 49, 12, 4, 1056)) rfl (fun _ _ _ => rfl) : mo_Sim 201 46 (ma_getf 12 4 49)) (mt_none))
set_option maxRecDepth 100000 in
theorem smt201_8 (k : Nat) : ∀ f, mt201_8 k = some f → mo_Sim 201 k f := mt_leaf (ms_ret (e := (.ireturn, 50, 0, 0, 0)) rfl (Or.inl ⟨rfl, rfl, (fun _ _ _ => rfl)⟩) : mo_Sim 201 49 (ma_ret 0)) (mt_leaf (ms_ald (e := (.aload_n 0, 51, 0, 0, 0)) rfl (fun _ _ _ => rfl) : mo_Sim 201 50 (ma_lda 0 51)) (mt_leaf (ms_getf (e := (.getfield 75, 54, 12, 7, 1059)) rfl (fun _ _ _ => rfl) : mo_Sim 201 51 (ma_getf 12 7 54)) (mt_none)))
set_option maxRecDepth 100000 in
theorem smt201_6 (k : Nat) : ∀ f, mt201_6 k = some f → mo_Sim 201 k f := mt_node (smt201_7 k) (smt201_8 k)
set_option maxRecDepth 100000 in
theorem smt201_2 (k : Nat) : ∀ f, mt201_2 k = some f → mo_Sim 201 k f := mt_node (smt201_3 k) (smt201_6 k)
set_option maxRecDepth 100000 in
theorem smt201_11 (k : Nat) : ∀ f, mt201_11 k = some f → mo_Sim 201 k f := mt_leaf (ms_ret (e := (.ireturn, 55, 0, 0, 0)) rfl (Or.inl ⟨rfl, rfl, (fun _ _ _ => rfl)⟩) : mo_Sim 201 54 (ma_ret 0)) (mt_leaf (ms_ald (e := (.aload_n 0, 56, 0, 0, 0)) rfl (fun _ _ _ => rfl) : mo_Sim 201 55 (ma_lda 0 56)) (mt_none))
set_option maxRecDepth 100000 in
theorem smt201_12 (k : Nat) : ∀ f, mt201_12 k = some f → mo_Sim 201 k f := mt_leaf (ms_getf (e := (.getfield 36, 59, 12, 10, 1062)) rfl (fun _ _ _ => rfl) : mo_Sim 201 56 (ma_getf 12 10 59)) (mt_leaf (ms_ret (e := (.ireturn, 60, 0, 0, 0)) rfl (Or.inl ⟨rfl, rfl, (fun _ _ _ => rfl)⟩) : mo_Sim 201 59 (ma_ret 0)) (mt_leaf (ms_ald (e := (.aload_n 0, 61, 0, 0, 0)) rfl (fun _ _ _ => rfl) : mo_Sim 201 60 (ma_lda 0 61)) (mt_none)))
set_option maxRecDepth 100000 in
theorem smt201_10 (k : Nat) : ∀ f, mt201_10 k = some f → mo_Sim 201 k f := mt_node (smt201_11 k) (smt201_12 k)
set_option maxRecDepth 100000 in
theorem smt201_14 (k : Nat) : ∀ f, mt201_14 k = some f → mo_Sim 201 k f := mt_leaf (ms_getf (e := (.getfield 78, 64, 12, 11, 1063)) rfl (fun _ _ _ => rfl) : mo_Sim 201 61 (ma_getf 12 11 64)) (mt_leaf (ms_ret (e := (.ireturn, 65, 0, 0, 0)) rfl (Or.inl ⟨rfl, rfl, (fun _ _ _ => rfl)⟩) : mo_Sim 201 64 (ma_ret 0)) (mt_none))
set_option maxRecDepth 100000 in
theorem smt201_15 (k : Nat) : ∀ f, mt201_15 k = some f → mo_Sim 201 k f := mt_leaf (ms_pushi (e := (.iconst 0, 66, 0, 0, 0)) rfl (fun _ _ _ => rfl) (by decide) : mo_Sim 201 65 (ma_push (ma_ci (.ofNat 0)) 66)) (mt_leaf (ms_ist (e := (.istore_n 2, 67, 0, 0, 0)) rfl (fun _ _ _ => rfl) : mo_Sim 201 66 (ma_stor 0 2 67)) (mt_leaf (ms_pushi (e := (.iconst 0, 68, 0, 0, 0)) rfl (fun _ _ _ => rfl) (by decide) : mo_Sim 201 67 (ma_push (ma_ci (.ofNat 0)) 68)) (mt_none)))
set_option maxRecDepth 100000 in
theorem smt201_13 (k : Nat) : ∀ f, mt201_13 k = some f → mo_Sim 201 k f := mt_node (smt201_14 k) (smt201_15 k)
set_option maxRecDepth 100000 in
theorem smt201_9 (k : Nat) : ∀ f, mt201_9 k = some f → mo_Sim 201 k f := mt_node (smt201_10 k) (smt201_13 k)
set_option maxRecDepth 100000 in
theorem smt201_1 (k : Nat) : ∀ f, mt201_1 k = some f → mo_Sim 201 k f := mt_node (smt201_2 k) (smt201_9 k)
set_option maxRecDepth 100000 in
theorem smt201_19 (k : Nat) : ∀ f, mt201_19 k = some f → mo_Sim 201 k f := mt_leaf (ms_ist (e := (.istore_n 3, 69, 0, 0, 0)) rfl (fun _ _ _ => rfl) : mo_Sim 201 68 (ma_stor 0 3 69)) (mt_leaf (ms_ild (e := (.iload_n 3, 70, 0, 0, 0)) rfl (fun _ _ _ => rfl) : mo_Sim 201 69 (ma_load 0 3 70)) (mt_none))
set_option maxRecDepth 100000 in
theorem smt201_20 (k : Nat) : ∀ f, mt201_20 k = some f → mo_Sim 201 k f := mt_leaf (ms_pushi (e := (.bipush 8, 72, 0, 0, 0)) rfl (fun _ _ _ => rfl) (by decide) : mo_Sim 201 70 (ma_push (ma_ci (.ofNat 8)) 72)) (mt_leaf (ms_if2 (e := (.if_icmp .ge 26, 75, 98, 0, 0)) rfl (fun _ _ _ => rfl) : mo_Sim 201 72 (ma_if2 .ge 98 72 75)) (mt_leaf (ms_ild (e := (.iload_n 2, 76, 0, 0, 0)) rfl (fun _ _ _ => rfl) : mo_Sim 201 75 (ma_load 0 2 76)) (mt_none)))
set_option maxRecDepth 100000 in
theorem smt201_18 (k : Nat) : ∀ f, mt201_18 k = some f → mo_Sim 201 k f := mt_node (smt201_19 k) (smt201_20 k)
set_option maxRecDepth 100000 in
theorem smt201_22 (k : Nat) : ∀ f, mt201_22 k = some f → mo_Sim 201 k f := mt_leaf (ms_ald (e := (.aload_n 0, 77, 0, 0, 0)) rfl (fun _ _ _ => rfl) : mo_Sim 201 76 (ma_lda 0 77)) (mt_leaf (ms_getf (e := (.getfield 13, 80, 12, 1, 1053)) rfl (fun _ _ _ => rfl) : mo_Sim 201 77 (ma_getf 12 1 80)) (mt_none))
set_option maxRecDepth 100000 in
theorem smt201_23 (k : Nat) : ∀ f, mt201_23 k = some f → mo_Sim 201 k f := mt_leaf (ms_ild (e := (.iload_n 3, 81, 0, 0, 0)) rfl (fun _ _ _ => rfl) : mo_Sim 201 80 (ma_load 0 3 81)) (mt_leaf (ms_iald (e := (.iaload, 82, 0, 0, 0)) rfl (fun _ _ _ => rfl) : mo_Sim 201 81 (ma_iald 81 82)) (mt_leaf (ms_if0 (e := (.ifCond .ne 7, 85, 89, 0, 0)) rfl (fun _ _ _ => rfl) : mo_Sim 201 82 (ma_if0 .ne 89 82 85)) (mt_none)))
set_option maxRecDepth 100000 in
theorem smt201_21 (k : Nat) : ∀ f, mt201_21 k = some f → mo_Sim 201 k f := mt_node (smt201_22 k) (smt201_23 k)
set_option maxRecDepth 100000 in
theorem smt201_17 (k : Nat) : ∀ f, mt201_17 k = some f → mo_Sim 201 k f := mt_node (smt201_18 k) (smt201_21 k)
set_option maxRecDepth 100000 in
theorem smt201_26 (k : Nat) : ∀ f, mt201_26 k = some f → mo_Sim 201 k f := mt_leaf (ms_pushi (e := (.iconst 0, 86, 0, 0, 0)) rfl (fun _ _ _ => rfl) (by decide) : mo_Sim 201 85 (ma_push (ma_ci (.ofNat 0)) 86)) (mt_leaf (ms_goto (e := (.goto 4, 89, 90, 0, 0)) rfl (fun _ _ _ => rfl) : mo_Sim 201 86 (ma_goto 90)) (mt_none))
set_option maxRecDepth 100000 in
theorem smt201_27 (k : Nat) : ∀ f, mt201_27 k = some f → mo_Sim 201 k f := mt_leaf (ms_pushi (e := (.iconst 1, 90, 0, 0, 0)) rfl (fun _ _ _ => rfl) (by decide) : mo_Sim 201 89 (ma_push (ma_ci (.ofNat 1)) 90)) (mt_leaf (ms_iadd (e := (.iadd, 91, 0, 0, 0)) rfl (fun _ _ _ => rfl) : mo_Sim 201 90 (ma_iadd 90 91)) (mt_leaf (ms_ist (e := (.istore_n 2, 92, 0, 0, 0)) rfl (fun _ _ _ => rfl) : mo_Sim 201 91 (ma_stor 0 2 92)) (mt_none)))
set_option maxRecDepth 100000 in
theorem smt201_25 (k : Nat) : ∀ f, mt201_25 k = some f → mo_Sim 201 k f := mt_node (smt201_26 k) (smt201_27 k)
set_option maxRecDepth 100000 in
theorem smt201_29 (k : Nat) : ∀ f, mt201_29 k = some f → mo_Sim 201 k f := mt_leaf (ms_iinc (e := (.iinc 3 1, 95, 0, 0, 0)) rfl (fun _ _ _ => rfl) (by decide) : mo_Sim 201 92 (ma_iinc 3 (.ofNat 1) 92 95)) (mt_leaf (ms_goto (e := (.goto (-26), 98, 69, 0, 0)) rfl (fun _ _ _ => rfl) : mo_Sim 201 95 (ma_goto 69)) (mt_leaf (ms_ild (e := (.iload_n 2, 99, 0, 0, 0)) rfl (fun _ _ _ => rfl) : mo_Sim 201 98 (ma_load 0 2 99)) (mt_none)))
set_option maxRecDepth 100000 in
theorem smt201_30 (k : Nat) : ∀ f, mt201_30 k = some f → mo_Sim 201 k f := mt_leaf (ms_ret (e := (.ireturn, 100, 0, 0, 0)) rfl (Or.inl ⟨rfl, rfl, (fun _ _ _ => rfl)⟩) : mo_Sim 201 99 (ma_ret 0)) (mt_leaf (ms_pushi (e := (.iconst (-1), 101, 0, 0, 0)) rfl (fun _ _ _ => rfl) (by decide) : mo_Sim 201 100 (ma_push (ma_ci (.negSucc 0)) 101)) (mt_leaf (ms_ret (e := (.ireturn, 102, 0, 0, 0)) rfl (Or.inl ⟨rfl, rfl, (fun _ _ _ => rfl)⟩) : mo_Sim 201 101 (ma_ret 0)) (mt_none)))
set_option maxRecDepth 100000 in
theorem smt201_28 (k : Nat) : ∀ f, mt201_28 k = some f → mo_Sim 201 k f := mt_node (smt201_29 k) (smt201_30 k)
set_option maxRecDepth 100000 in
theorem smt201_24 (k : Nat) : ∀ f, mt201_24 k = some f → mo_Sim 201 k f := mt_node (smt201_25 k) (smt201_28 k)
set_option maxRecDepth 100000 in
theorem smt201_16 (k : Nat) : ∀ f, mt201_16 k = some f → mo_Sim 201 k f := mt_node (smt201_17 k) (smt201_24 k)
set_option maxRecDepth 100000 in
theorem smt201_0 (k : Nat) : ∀ f, mt201_0 k = some f → mo_Sim 201 k f := mt_node (smt201_1 k) (smt201_16 k)
set_option maxRecDepth 100000 in
theorem smt202_4 (k : Nat) : ∀ f, mt202_4 k = some f → mo_Sim 202 k f := mt_leaf (ms_ild (e := (.iload_n 0, 1, 0, 0, 0)) rfl (fun _ _ _ => rfl) : mo_Sim 202 0 (ma_load 0 0 1)) (mt_leaf (ms_ild (e := (.iload_n 0, 2, 0, 0, 0)) rfl (fun _ _ _ => rfl) : mo_Sim 202 1 (ma_load 0 0 2)) (mt_none))
set_option maxRecDepth 100000 in
theorem smt202_5 (k : Nat) : ∀ f, mt202_5 k = some f → mo_Sim 202 k f := mt_leaf (ms_pushi (e := (.iconst 1, 3, 0, 0, 0)) rfl (fun _ _ _ => rfl) (by decide) : mo_Sim 202 2 (ma_push (ma_ci (.ofNat 1)) 3)) (mt_leaf (ms_i2 (e := (.iushr, 4, 0, 0, 0)) rfl (fun _ _ _ => rfl) hf_ushr : mo_Sim 202 3 (ma_i2 ma_fushr 3 4)) (mt_leaf (ms_pushi (e := (.ldc_w 265, 7, 1431655765, 0, 701)) rfl (fun _ _ _ => rfl) (by decide) : mo_Sim 202 4 (ma_push (ma_ci (.ofNat 1431655765)) 7)) (mt_none)))
set_option maxRecDepth 100000 in
theorem smt202_3 (k : Nat) : ∀ f, mt202_3 k = some f → mo_Sim 202 k f := mt_node (smt202_4 k) (smt202_5 k)
set_option maxRecDepth 100000 in
theorem smt202_7 (k : Nat) : ∀ f, mt202_7 k = some f → mo_Sim 202 k f := mt_leaf (ms_iand (e := (.iand, 8, 0, 0, 0)) rfl (fun _ _ _ => rfl) : mo_Sim 202 7 (ma_iand 7 8)) (mt_leaf (ms_isub (e := (.isub, 9, 0, 0, 0)) rfl (fun _ _ _ => rfl) : mo_Sim 202 8 (ma_isub 8 9)) (mt_none))
set_option maxRecDepth 100000 in
theorem smt202_8 (k : Nat) : ∀ f, mt202_8 k = some f → mo_Sim 202 k f := mt_leaf (ms_ist (e := (.istore_n 0, 10, 0, 0, 0)) rfl (fun _ _ _ => rfl) : mo_Sim 202 9 (ma_stor 0 0 10)) (mt_leaf (ms_ild (e := (.iload_n 0, 11, 0, 0, 0)) rfl (fun _ _ _ => rfl) : mo_Sim 202 10 (ma_load 0 0 11)) (mt_leaf (ms_pushi (e := (.ldc_w 266, 14, 858993459, 0, 702)) rfl (fun _ _ _ => rfl) (by decide) : mo_Sim 202 11 (ma_push (ma_ci (.ofNat 858993459)) 14)) (mt_none)))
set_option maxRecDepth 100000 in
theorem smt202_6 (k : Nat) : ∀ f, mt202_6 k = some f → mo_Sim 202 k f := mt_node (smt202_7 k) (smt202_8 k)
set_option maxRecDepth 100000 in
theorem smt202_2 (k : Nat) : ∀ f, mt202_2 k = some f → mo_Sim 202 k f := mt_node (smt202_3 k) (smt202_6 k)
set_option maxRecDepth 100000 in
theorem smt202_11 (k : Nat) : ∀ f, mt202_11 k = some f → mo_Sim 202 k f := mt_leaf (ms_iand (e := (.iand, 15, 0, 0, 0)) rfl (fun _ _ _ => rfl) : mo_Sim 202 14 (ma_iand 14 15)) (mt_leaf (ms_ild (e := (.iload_n 0, 16, 0, 0, 0)) rfl (fun _ _ _ => rfl) : mo_Sim 202 15 (ma_load 0 0 16)) (mt_none))
set_option maxRecDepth 100000 in
theorem smt202_12 (k : Nat) : ∀ f, mt202_12 k = some f → mo_Sim 202 k f := mt_leaf (ms_pushi (e := (.iconst 2, 17, 0, 0, 0)) rfl (fun _ _ _ => rfl) (by decide) : mo_Sim 202 16 (ma_push (ma_ci (.ofNat 2)) 17)) (mt_leaf (ms_i2 (e := (.iushr, 18, 0, 0, 0)) rfl (fun _ _ _ => rfl) hf_ushr : mo_Sim 202 17 (ma_i2 ma_fushr 17 18)) (mt_leaf (ms_pushi (e := (.ldc_w 266, 21, 858993459, 0, 702)) rfl (fun _ _ _ => rfl) (by decide) : mo_Sim 202 18 (ma_push (ma_ci (.ofNat 858993459)) 21)) (mt_none)))
set_option maxRecDepth 100000 in
theorem smt202_10 (k : Nat) : ∀ f, mt202_10 k = some f → mo_Sim 202 k f := mt_node (smt202_11 k) (smt202_12 k)
set_option maxRecDepth 100000 in
theorem smt202_14 (k : Nat) : ∀ f, mt202_14 k = some f → mo_Sim 202 k f := mt_leaf (ms_iand (e := (.iand, 22, 0, 0, 0)) rfl (fun _ _ _ => rfl) : mo_Sim 202 21 (ma_iand 21 22)) (mt_leaf (ms_iadd (e := (.iadd, 23, 0, 0, 0)) rfl (fun _ _ _ => rfl) : mo_Sim 202 22 (ma_iadd 22 23)) (mt_leaf (ms_ist (e := (.istore_n 0, 24, 0, 0, 0)) rfl (fun _ _ _ => rfl) : mo_Sim 202 23 (ma_stor 0 0 24)) (mt_none)))
set_option maxRecDepth 100000 in
theorem smt202_15 (k : Nat) : ∀ f, mt202_15 k = some f → mo_Sim 202 k f := mt_leaf (ms_ild (e := (.iload_n 0, 25, 0, 0, 0)) rfl (fun _ _ _ => rfl) : mo_Sim 202 24 (ma_load 0 0 25)) (mt_leaf (ms_ild (e := (.iload_n 0, 26, 0, 0, 0)) rfl (fun _ _ _ => rfl) : mo_Sim 202 25 (ma_load 0 0 26)) (mt_leaf (ms_pushi (e := (.iconst 4, 27, 0, 0, 0)) rfl (fun _ _ _ => rfl) (by decide) : mo_Sim 202 26 (ma_push (ma_ci (.ofNat 4)) 27)) (mt_none)))
set_option maxRecDepth 100000 in
theorem smt202_13 (k : Nat) : ∀ f, mt202_13 k = some f → mo_Sim 202 k f := mt_node (smt202_14 k) (smt202_15 k)
set_option maxRecDepth 100000 in
theorem smt202_9 (k : Nat) : ∀ f, mt202_9 k = some f → mo_Sim 202 k f := mt_node (smt202_10 k) (smt202_13 k)
set_option maxRecDepth 100000 in
theorem smt202_1 (k : Nat) : ∀ f, mt202_1 k = some f → mo_Sim 202 k f := mt_node (smt202_2 k) (smt202_9 k)
set_option maxRecDepth 100000 in
theorem smt202_19 (k : Nat) : ∀ f, mt202_19 k = some f → mo_Sim 202 k f := mt_leaf (ms_i2 (e := (.iushr, 28, 0, 0, 0)) rfl (fun _ _ _ => rfl) hf_ushr : mo_Sim 202 27 (ma_i2 ma_fushr 27 28)) (mt_leaf (ms_iadd (e := (.iadd, 29, 0, 0, 0)) rfl (fun _ _ _ => rfl) : mo_Sim 202 28 (ma_iadd 28 29)) (mt_none))
set_option maxRecDepth 100000 in
theorem smt202_20 (k : Nat) : ∀ f, mt202_20 k = some f → mo_Sim 202 k f := mt_leaf (ms_pushi (e := (.ldc_w 267, 32, 252645135, 0, 703)) rfl (fun _ _ _ => rfl) (by decide) : mo_Sim 202 29 (ma_push (ma_ci (.ofNat 252645135)) 32)) (mt_leaf (ms_iand (e := (.iand, 33, 0, 0, 0)) rfl (fun _ _ _ => rfl) : mo_Sim 202 32 (ma_iand 32 33)) (mt_leaf (ms_ist (e := (.istore_n 0, 34, 0, 0, 0)) rfl (fun _ _ _ => rfl) : mo_Sim 202 33 (ma_stor 0 0 34)) (mt_none)))
set_option maxRecDepth 100000 in
theorem smt202_18 (k : Nat) : ∀ f, mt202_18 k = some f → mo_Sim 202 k f := mt_node (smt202_19 k) (smt202_20 k)
set_option maxRecDepth 100000 in
theorem smt202_22 (k : Nat) : ∀ f, mt202_22 k = some f → mo_Sim 202 k f := mt_leaf (ms_ild (e := (.iload_n 0, 35, 0, 0, 0)) rfl (fun _ _ _ => rfl) : mo_Sim 202 34 (ma_load 0 0 35)) (mt_leaf (ms_ild (e := (.iload_n 0, 36, 0, 0, 0)) rfl (fun _ _ _ => rfl) : mo_Sim 202 35 (ma_load 0 0 36)) (mt_none))
set_option maxRecDepth 100000 in
theorem smt202_23 (k : Nat) : ∀ f, mt202_23 k = some f → mo_Sim 202 k f := mt_leaf (ms_pushi (e := (.bipush 8, 38, 0, 0, 0)) rfl (fun _ _ _ => rfl) (by decide) : mo_Sim 202 36 (ma_push (ma_ci (.ofNat 8)) 38)) (mt_leaf (ms_i2 (e := (.iushr, 39, 0, 0, 0)) rfl (fun _ _ _ => rfl) hf_ushr : mo_Sim 202 38 (ma_i2 ma_fushr 38 39)) (mt_leaf (ms_iadd (e := (.iadd, 40, 0, 0, 0)) rfl (fun _ _ _ => rfl) : mo_Sim 202 39 (ma_iadd 39 40)) (mt_none)))
set_option maxRecDepth 100000 in
theorem smt202_21 (k : Nat) : ∀ f, mt202_21 k = some f → mo_Sim 202 k f := mt_node (smt202_22 k) (smt202_23 k)
set_option maxRecDepth 100000 in
theorem smt202_17 (k : Nat) : ∀ f, mt202_17 k = some f → mo_Sim 202 k f := mt_node (smt202_18 k) (smt202_21 k)
set_option maxRecDepth 100000 in
theorem smt202_26 (k : Nat) : ∀ f, mt202_26 k = some f → mo_Sim 202 k f := mt_leaf (ms_ist (e := (.istore_n 0, 41, 0, 0, 0)) rfl (fun _ _ _ => rfl) : mo_Sim 202 40 (ma_stor 0 0 41)) (mt_leaf (ms_ild (e := (.iload_n 0, 42, 0, 0, 0)) rfl (fun _ _ _ => rfl) : mo_Sim 202 41 (ma_load 0 0 42)) (mt_none))
set_option maxRecDepth 100000 in
theorem smt202_27 (k : Nat) : ∀ f, mt202_27 k = some f → mo_Sim 202 k f := mt_leaf (ms_ild (e := (.iload_n 0, 43, 0, 0, 0)) rfl (fun _ _ _ => rfl) : mo_Sim 202 42 (ma_load 0 0 43)) (mt_leaf (ms_pushi (e := (.bipush 16, 45, 0, 0, 0)) rfl (fun _ _ _ => rfl) (by decide) : mo_Sim 202 43 (ma_push (ma_ci (.ofNat 16)) 45)) (mt_leaf (ms_i2 (e := (.iushr, 46, 0, 0, 0)) rfl (fun _ _ _ => rfl) hf_ushr : mo_Sim 202 45 (ma_i2 ma_fushr 45 46)) (mt_none)))
set_option maxRecDepth 100000 in
theorem smt202_25 (k : Nat) : ∀ f, mt202_25 k = some f → mo_Sim 202 k f := mt_node (smt202_26 k) (smt202_27 k)
set_option maxRecDepth 100000 in
theorem smt202_29 (k : Nat) : ∀ f, mt202_29 k = some f → mo_Sim 202 k f := mt_leaf (ms_iadd (e := (.iadd, 47, 0, 0, 0)) rfl (fun _ _ _ => rfl) : mo_Sim 202 46 (ma_iadd 46 47)) (mt_leaf (ms_ist (e := (.istore_n 0, 48, 0, 0, 0)) rfl (fun _ _ _ => rfl) : mo_Sim 202 47 (ma_stor 0 0 48)) (mt_leaf (ms_ild (e := (.iload_n 0, 49, 0, 0, 0)) rfl (fun _ _ _ => rfl) : mo_Sim 202 48 (ma_load 0 0 49)) (mt_none)))
set_option maxRecDepth 100000 in
theorem smt202_30 (k : Nat) : ∀ f, mt202_30 k = some f → mo_Sim 202 k f := mt_leaf (ms_pushi (e := (.bipush 63, 51, 0, 0, 0)) rfl (fun _ _ _ => rfl) (by decide) : mo_Sim 202 49 (ma_push (ma_ci (.ofNat 63)) 51)) (mt_leaf (ms_iand (e := (.iand, 52, 0, 0, 0)) rfl (fun _ _ _ => rfl) : mo_Sim 202 51 (ma_iand 51 52)) (mt_leaf (ms_ret (e := (.ireturn, 53, 0, 0, 0)) rfl (Or.inl ⟨rfl, rfl, (fun _ _ _ => rfl)⟩) : mo_Sim 202 52 (ma_ret 0)) (mt_none)))
set_option maxRecDepth 100000 in
theorem smt202_28 (k : Nat) : ∀ f, mt202_28 k = some f → mo_Sim 202 k f := mt_node (smt202_29 k) (smt202_30 k)
set_option maxRecDepth 100000 in
theorem smt202_24 (k : Nat) : ∀ f, mt202_24 k = some f → mo_Sim 202 k f := mt_node (smt202_25 k) (smt202_28 k)
set_option maxRecDepth 100000 in
theorem smt202_16 (k : Nat) : ∀ f, mt202_16 k = some f → mo_Sim 202 k f := mt_node (smt202_17 k) (smt202_24 k)
set_option maxRecDepth 100000 in
theorem smt202_0 (k : Nat) : ∀ f, mt202_0 k = some f → mo_Sim 202 k f := mt_node (smt202_1 k) (smt202_16 k)
set_option maxRecDepth 100000 in
theorem smt203_4 (k : Nat) : ∀ f, mt203_4 k = some f → mo_Sim 203 k f := mt_leaf (ms_lld (e := (.lload_n 0, 1, 0, 0, 0)) rfl (fun _ _ _ => rfl) : mo_Sim 203 0 (ma_load 2 0 1)) (mt_leaf (ms_lld (e := (.lload_n 0, 2, 0, 0, 0)) rfl (fun _ _ _ => rfl) : mo_Sim 203 1 (ma_load 2 0 2)) (mt_leaf (ms_pushi (e := (.iconst 1, 3, 0, 0, 0)) rfl (fun _ _ _ => rfl) (by decide) : mo_Sim 203 2 (ma_push (ma_ci (.ofNat 1)) 3)) (mt_none)))
set_option maxRecDepth 100000 in
theorem smt203_5 (k : Nat) : ∀ f, mt203_5 k = some f → mo_Sim 203 k f := mt_leaf (ms_ls (e := (.lushr, 4, 0, 0, 0)) rfl (fun _ _ _ => rfl) hg_ushr : mo_Sim 203 3 (ma_ls ma_gushr 3 4)) (mt_leaf (ms_pushl (e := (.ldc2_w 314, 7, 6148914691236517205, 0, 874)) rfl (fun _ _ _ => rfl) (by decide) : mo_Sim 203 4 (ma_push (ma_cl (.ofNat 6148914691236517205)) 7)) (mt_leaf (ms_l2 (e := (.land, 8, 0, 0, 0)) rfl (fun _ _ _ => rfl) hg_and : mo_Sim 203 7 (ma_l2 ma_gand 8)) (mt_none)))
set_option maxRecDepth 100000 in
theorem smt203_3 (k : Nat) : ∀ f, mt203_3 k = some f → mo_Sim 203 k f := mt_node (smt203_4 k) (smt203_5 k)
set_option maxRecDepth 100000 in
theorem smt203_7 (k : Nat) : ∀ f, mt203_7 k = some f → mo_Sim 203 k f := mt_leaf (ms_l2 (e := (.lsub, 9, 0, 0, 0)) rfl (fun _ _ _ => rfl) hg_sub : mo_Sim 203 8 (ma_l2 ma_gsub 9)) (mt_leaf (ms_lst (e := (.lstore_n 0, 10, 0, 0, 0)) rfl (fun _ _ _ => rfl) : mo_Sim 203 9 (ma_stol 0 10)) (mt_leaf (ms_lld (e := (.lload_n 0, 11, 0, 0, 0)) rfl (fun _ _ _ => rfl) : mo_Sim 203 10 (ma_load 2 0 11)) (mt_none)))
set_option maxRecDepth 100000 in
theorem smt203_8 (k : Nat) : ∀ f, mt203_8 k = some f → mo_Sim 203 k f := mt_leaf (ms_pushl (e := (.ldc2_w 316, 14, 3689348814741910323, 0, 875)) rfl (fun _ _ _ => rfl) (by decide) : mo_Sim 203 11 (ma_push (ma_cl (.ofNat 3689348814741910323)) 14)) (mt_leaf (ms_l2 (e := (.land, 15, 0, 0, 0)) rfl (fun _ _ _ => rfl) hg_and : mo_Sim 203 14 (ma_l2 ma_gand 15)) (mt_leaf (ms_lld (e := (.lload_n 0, 16, 0, 0, 0)) rfl (fun _ _ _ => rfl) : mo_Sim 203 15 (ma_load 2 0 16)) (mt_none)))
set_option maxRecDepth 100000 in
theorem smt203_6 (k : Nat) : ∀ f, mt203_6 k = some f → mo_Sim 203 k f := mt_node (smt203_7 k) (smt203_8 k)
set_option maxRecDepth 100000 in
theorem smt203_2 (k : Nat) : ∀ f, mt203_2 k = some f → mo_Sim 203 k f := mt_node (smt203_3 k) (smt203_6 k)
set_option maxRecDepth 100000 in
theorem smt203_11 (k : Nat) : ∀ f, mt203_11 k = some f → mo_Sim 203 k f := mt_leaf (ms_pushi (e := (.iconst 2, 17, 0, 0, 0)) rfl (fun _ _ _ => rfl) (by decide) : mo_Sim 203 16 (ma_push (ma_ci (.ofNat 2)) 17)) (mt_leaf (ms_ls (e := (.lushr, 18, 0, 0, 0)) rfl (fun _ _ _ => rfl) hg_ushr : mo_Sim 203 17 (ma_ls ma_gushr 17 18)) (mt_leaf (ms_pushl (e := (.ldc2_w 316, 21, 3689348814741910323, 0, 875)) rfl (fun _ _ _ => rfl) (by decide) : mo_Sim 203 18 (ma_push (ma_cl (.ofNat 3689348814741910323)) 21)) (mt_none)))
set_option maxRecDepth 100000 in
theorem smt203_12 (k : Nat) : ∀ f, mt203_12 k = some f → mo_Sim 203 k f := mt_leaf (ms_l2 (e := (.land, 22, 0, 0, 0)) rfl (fun _ _ _ => rfl) hg_and : mo_Sim 203 21 (ma_l2 ma_gand 22)) (mt_leaf (ms_l2 (e := (.ladd, 23, 0, 0, 0)) rfl (fun _ _ _ => rfl) hg_add : mo_Sim 203 22 (ma_l2 ma_gadd 23)) (mt_leaf (ms_lst (e := (.lstore_n 0, 24, 0, 0, 0)) rfl (fun _ _ _ => rfl) : mo_Sim 203 23 (ma_stol 0 24)) (mt_none)))
set_option maxRecDepth 100000 in
theorem smt203_10 (k : Nat) : ∀ f, mt203_10 k = some f → mo_Sim 203 k f := mt_node (smt203_11 k) (smt203_12 k)
set_option maxRecDepth 100000 in
theorem smt203_14 (k : Nat) : ∀ f, mt203_14 k = some f → mo_Sim 203 k f := mt_leaf (ms_lld (e := (.lload_n 0, 25, 0, 0, 0)) rfl (fun _ _ _ => rfl) : mo_Sim 203 24 (ma_load 2 0 25)) (mt_leaf (ms_lld (e := (.lload_n 0, 26, 0, 0, 0)) rfl (fun _ _ _ => rfl) : mo_Sim 203 25 (ma_load 2 0 26)) (mt_leaf (ms_pushi (e := (.iconst 4, 27, 0, 0, 0)) rfl (fun _ _ _ => rfl) (by decide) : mo_Sim 203 26 (ma_push (ma_ci (.ofNat 4)) 27)) (mt_none)))
set_option maxRecDepth 100000 in
theorem smt203_15 (k : Nat) : ∀ f, mt203_15 k = some f → mo_Sim 203 k f := mt_leaf (ms_ls (e := (.lushr, 28, 0, 0, 0)) rfl (fun _ _ _ => rfl) hg_ushr : mo_Sim 203 27 (ma_ls ma_gushr 27 28)) (mt_leaf (ms_l2 (e := (.ladd, 29, 0, 0, 0)) rfl (fun _ _ _ => rfl) hg_add : mo_Sim 203 28 (ma_l2 ma_gadd 29)) (mt_leaf (ms_pushl (e := (.ldc2_w 318, 32, 1085102592571150095, 0, 876)) rfl (fun _ _ _ => rfl) (by decide) : mo_Sim 203 29 (ma_push (ma_cl (.ofNat 1085102592571150095)) 32)) (mt_none)))
set_option maxRecDepth 100000 in
theorem smt203_13 (k : Nat) : ∀ f, mt203_13 k = some f → mo_Sim 203 k f := mt_node (smt203_14 k) (smt203_15 k)
set_option maxRecDepth 100000 in
theorem smt203_9 (k : Nat) : ∀ f, mt203_9 k = some f → mo_Sim 203 k f := mt_node (smt203_10 k) (smt203_13 k)
set_option maxRecDepth 100000 in
theorem smt203_1 (k : Nat) : ∀ f, mt203_1 k = some f → mo_Sim 203 k f := mt_node (smt203_2 k) (smt203_9 k)
set_option maxRecDepth 100000 in
theorem smt203_19 (k : Nat) : ∀ f, mt203_19 k = some f → mo_Sim 203 k f := mt_leaf (ms_l2 (e := (.land, 33, 0, 0, 0)) rfl (fun _ _ _ => rfl) hg_and : mo_Sim 203 32 (ma_l2 ma_gand 33)) (mt_leaf (ms_lst (e := (.lstore_n 0, 34, 0, 0, 0)) rfl (fun _ _ _ => rfl) : mo_Sim 203 33 (ma_stol 0 34)) (mt_leaf (ms_lld (e := (.lload_n 0, 35, 0, 0, 0)) rfl (fun _ _ _ => rfl) : mo_Sim 203 34 (ma_load 2 0 35)) (mt_none)))
set_option maxRecDepth 100000 in
theorem smt203_20 (k : Nat) : ∀ f, mt203_20 k = some f → mo_Sim 203 k f := mt_leaf (ms_lld (e := (.lload_n 0, 36, 0, 0, 0)) rfl (fun _ _ _ => rfl) : mo_Sim 203 35 (ma_load 2 0 36)) (mt_leaf (ms_pushi (e := (.bipush 8, 38, 0, 0, 0)) rfl (fun _ _ _ => rfl) (by decide) : mo_Sim 203 36 (ma_push (ma_ci (.ofNat 8)) 38)) (mt_leaf (ms_ls (e := (.lushr, 39, 0, 0, 0)) rfl (fun _ _ _ => rfl) hg_ushr : mo_Sim 203 38 (ma_ls ma_gushr 38 39)) (mt_none)))
set_option maxRecDepth 100000 in
theorem smt203_18 (k : Nat) : ∀ f, mt203_18 k = some f → mo_Sim 203 k f := mt_node (smt203_19 k) (smt203_20 k)
set_option maxRecDepth 100000 in
theorem smt203_22 (k : Nat) : ∀ f, mt203_22 k = some f → mo_Sim 203 k f := mt_leaf (ms_l2 (e := (.ladd, 40, 0, 0, 0)) rfl (fun _ _ _ => rfl) hg_add : mo_Sim 203 39 (ma_l2 ma_gadd 40)) (mt_leaf (ms_lst (e := (.lstore_n 0, 41, 0, 0, 0)) rfl (fun _ _ _ => rfl) : mo_Sim 203 40 (ma_stol 0 41)) (mt_leaf (ms_lld (e := (.lload_n 0, 42, 0, 0, 0)) rfl (fun _ _ _ => rfl) : mo_Sim 203 41 (ma_load 2 0 42)) (mt_none)))
set_option maxRecDepth 100000 in
theorem smt203_23 (k : Nat) : ∀ f, mt203_23 k = some f → mo_Sim 203 k f := mt_leaf (ms_lld (e := (.lload_n 0, 43, 0, 0, 0)) rfl (fun _ _ _ => rfl) : mo_Sim 203 42 (ma_load 2 0 43)) (mt_leaf (ms_pushi (e := (.bipush 16, 45, 0, 0, 0)) rfl (fun _ _ _ => rfl) (by decide) : mo_Sim 203 43 (ma_push (ma_ci (.ofNat 16)) 45)) (mt_leaf (ms_ls (e := (.lushr, 46, 0, 0, 0)) rfl (fun _ _ _ => rfl) hg_ushr : mo_Sim 203 45 (ma_ls ma_gushr 45 46)) (mt_none)))
set_option maxRecDepth 100000 in
theorem smt203_21 (k : Nat) : ∀ f, mt203_21 k = some f → mo_Sim 203 k f := mt_node (smt203_22 k) (smt203_23 k)
set_option maxRecDepth 100000 in
theorem smt203_17 (k : Nat) : ∀ f, mt203_17 k = some f → mo_Sim 203 k f := mt_node (smt203_18 k) (smt203_21 k)
set_option maxRecDepth 100000 in
theorem smt203_26 (k : Nat) : ∀ f, mt203_26 k = some f → mo_Sim 203 k f := mt_leaf (ms_l2 (e := (.ladd, 47, 0, 0, 0)) rfl (fun _ _ _ => rfl) hg_add : mo_Sim 203 46 (ma_l2 ma_gadd 47)) (mt_leaf (ms_lst (e := (.lstore_n 0, 48, 0, 0, 0)) rfl (fun _ _ _ => rfl) : mo_Sim 203 47 (ma_stol 0 48)) (mt_leaf (ms_lld (e := (.lload_n 0, 49, 0, 0, 0)) rfl (fun _ _ _ => rfl) : mo_Sim 203 48 (ma_load 2 0 49)) (mt_none)))
set_option maxRecDepth 100000 in
theorem smt203_27 (k : Nat) : ∀ f, mt203_27 k = some f → mo_Sim 203 k f := mt_leaf (ms_lld (e := (.lload_n 0, 50, 0, 0, 0)) rfl (fun _ _ _ => rfl) : mo_Sim 203 49 (ma_load 2 0 50)) (mt_leaf (ms_pushi (e := (.bipush 32, 52, 0, 0, 0)) rfl (fun _ _ _ => rfl) (by decide) : mo_Sim 203 50 (ma_push (ma_ci (.ofNat 32)) 52)) (mt_leaf (ms_ls (e := (.lushr, 53, 0, 0, 0)) rfl (fun _ _ _ => rfl) hg_ushr : mo_Sim 203 52 (ma_ls ma_gushr 52 53)) (mt_none)))
set_option maxRecDepth 100000 in
theorem smt203_25 (k : Nat) : ∀ f, mt203_25 k = some f → mo_Sim 203 k f := mt_node (smt203_26 k) (smt203_27 k)
set_option maxRecDepth 100000 in
theorem smt203_29 (k : Nat) : ∀ f, mt203_29 k = some f → mo_Sim 203 k f := mt_leaf (ms_l2 (e := (.ladd, 54, 0, 0, 0)) rfl (fun _ _ _ => rfl) hg_add : mo_Sim 203 53 (ma_l2 ma_gadd 54)) (mt_leaf (ms_lst (e := (.lstore_n 0, 55, 0, 0, 0)) rfl (fun _ _ _ => rfl) : mo_Sim 203 54 (ma_stol 0 55)) (mt_leaf (ms_lld (e := (.lload_n 0, 56, 0, 0, 0)) rfl (fun _ _ _ => rfl) : mo_Sim 203 55 (ma_load 2 0 56)) (mt_none)))
set_option maxRecDepth 100000 in
theorem smt203_30 (k : Nat) : ∀ f, mt203_30 k = some f → mo_Sim 203 k f := mt_leaf (ms_l2i (e := (.l2i, 57, 0, 0, 0)) rfl (fun _ _ _ => rfl) : mo_Sim 203 56 (ma_l2i 57)) (mt_leaf (ms_pushi (e := (.bipush 127, 59, 0, 0, 0)) rfl (fun _ _ _ => rfl) (by decide) : mo_Sim 203 57 (ma_push (ma_ci (.ofNat 127)) 59)) (mt_leaf (ms_iand (e := (.iand, 60, 0, 0, 0)) rfl (fun _ _ _ => rfl) : mo_Sim 203 59 (ma_iand 59 60)) (mt_leaf (ms_ret (e := (.ireturn, 61, 0, 0, 0)) rfl (Or.inl ⟨rfl, rfl, (fun _ _ _ => rfl)⟩) : mo_Sim 203 60 (ma_ret 0)) (mt_none))))
set_option maxRecDepth 100000 in
theorem smt203_28 (k : Nat) : ∀ f, mt203_28 k = some f → mo_Sim 203 k f := mt_node (smt203_29 k) (smt203_30 k)
set_option maxRecDepth 100000 in
theorem smt203_24 (k : Nat) : ∀ f, mt203_24 k = some f → mo_Sim 203 k f := mt_node (smt203_25 k) (smt203_28 k)
set_option maxRecDepth 100000 in
theorem smt203_16 (k : Nat) : ∀ f, mt203_16 k = some f → mo_Sim 203 k f := mt_node (smt203_17 k) (smt203_24 k)
set_option maxRecDepth 100000 in
theorem smt203_0 (k : Nat) : ∀ f, mt203_0 k = some f → mo_Sim 203 k f := mt_node (smt203_1 k) (smt203_16 k)
set_option maxRecDepth 100000 in
theorem smt204_2 (k : Nat) : ∀ f, mt204_2 k = some f → mo_Sim 204 k f := mt_leaf (ms_ild (e := (.iload_n 0, 1, 0, 0, 0)) rfl (fun _ _ _ => rfl) : mo_Sim 204 0 (ma_load 0 0 1)) (mt_leaf (ms_ild (e := (.iload_n 1, 2, 0, 0, 0)) rfl (fun _ _ _ => rfl) : mo_Sim 204 1 (ma_load 0 1 2)) (mt_leaf (ms_id (e := (.irem, 3, 0, 0, 0)) rfl (fun _ _ _ => rfl) hf_rem : mo_Sim 204 2 (ma_i2 ma_frem 2 3)) (mt_leaf (ms_ist (e := (.istore_n 2, 4, 0, 0, 0)) rfl (fun _ _ _ => rfl) : mo_Sim 204 3 (ma_stor 0 2 4)) (mt_none))))
set_option maxRecDepth 100000 in
theorem smt204_3 (k : Nat) : ∀ f, mt204_3 k = some f → mo_Sim 204 k f := mt_leaf (ms_ild (e := (.iload_n 0, 5, 0, 0, 0)) rfl (fun _ _ _ => rfl) : mo_Sim 204 4 (ma_load 0 0 5)) (mt_leaf (ms_ild (e := (.iload_n 1, 6, 0, 0, 0)) rfl (fun _ _ _ => rfl) : mo_Sim 204 5 (ma_load 0 1 6)) (mt_leaf (ms_i2 (e := (.ixor, 7, 0, 0, 0)) rfl (fun _ _ _ => rfl) hf_xor : mo_Sim 204 6 (ma_i2 ma_fxor 6 7)) (mt_leaf (ms_if0 (e := (.ifCond .ge 11, 10, 18, 0, 0)) rfl (fun _ _ _ => rfl) : mo_Sim 204 7 (ma_if0 .ge 18 7 10)) (mt_none))))
set_option maxRecDepth 100000 in
theorem smt204_1 (k : Nat) : ∀ f, mt204_1 k = some f → mo_Sim 204 k f := mt_node (smt204_2 k) (smt204_3 k)
set_option maxRecDepth 100000 in
theorem smt204_5 (k : Nat) : ∀ f, mt204_5 k = some f → mo_Sim 204 k f := mt_leaf (ms_ild (e := (.iload_n 2, 11, 0, 0, 0)) rfl (fun _ _ _ => rfl) : mo_Sim 204 10 (ma_load 0 2 11)) (mt_leaf (ms_if0 (e := (.ifCond .eq 7, 14, 18, 0, 0)) rfl (fun _ _ _ => rfl) : mo_Sim 204 11 (ma_if0 .eq 18 11 14)) (mt_leaf (ms_ild (e := (.iload_n 2, 15, 0, 0, 0)) rfl (fun _ _ _ => rfl) : mo_Sim 204 14 (ma_load 0 2 15)) (mt_leaf (ms_ild (e := (.iload_n 1, 16, 0, 0, 0)) rfl (fun _ _ _ => rfl) : mo_Sim 204 15 (ma_load 0 1 16)) (mt_none))))
set_option maxRecDepth 100000 in
theorem smt204_6 (k : Nat) : ∀ f, mt204_6 k = some f → mo_Sim 204 k f := mt_leaf (ms_iadd (e := (.iadd, 17, 0, 0, 0)) rfl (fun _ _ _ => rfl) : mo_Sim 204 16 (ma_iadd 16 17)) (mt_leaf (ms_ret (e := (.ireturn, 18, 0, 0, 0)) rfl (Or.inl ⟨rfl, rfl, (fun _ _ _ => rfl)⟩) : mo_Sim 204 17 (ma_ret 0)) (mt_leaf (ms_ild (e := (.iload_n 2, 19, 0, 0, 0)) rfl (fun _ _ _ => rfl) : mo_Sim 204 18 (ma_load 0 2 19)) (mt_leaf (ms_ret (e := (.ireturn, 20, 0, 0, 0)) rfl (Or.inl ⟨rfl, rfl, (fun _ _ _ => rfl)⟩) : mo_Sim 204 19 (ma_ret 0)) (mt_none))))
set_option maxRecDepth 100000 in
theorem smt204_4 (k : Nat) : ∀ f, mt204_4 k = some f → mo_Sim 204 k f := mt_node (smt204_5 k) (smt204_6 k)
set_option maxRecDepth 100000 in
theorem smt204_0 (k : Nat) : ∀ f, mt204_0 k = some f → mo_Sim 204 k f := mt_node (smt204_1 k) (smt204_4 k)
set_option maxRecDepth 100000 in
theorem smt205_1 (k : Nat) : ∀ f, mt205_1 k = some f → mo_Sim 205 k f := mt_leaf (ms_ild (e := (.iload_n 0, 1, 0, 0, 0)) rfl (fun _ _ _ => rfl) : mo_Sim 205 0 (ma_load 0 0 1)) (mt_leaf (ms_ild (e := (.iload_n 1, 2, 0, 0, 0)) rfl (fun _ _ _ => rfl) : mo_Sim 205 1 (ma_load 0 1 2)) (mt_leaf (ms_if2 (e := (.if_icmp .lt 7, 5, 9, 0, 0)) rfl (fun _ _ _ => rfl) : mo_Sim 205 2 (ma_if2 .lt 9 2 5)) (mt_none)))
set_option maxRecDepth 100000 in
theorem smt205_2 (k : Nat) : ∀ f, mt205_2 k = some f → mo_Sim 205 k f := mt_leaf (ms_ild (e := (.iload_n 0, 6, 0, 0, 0)) rfl (fun _ _ _ => rfl) : mo_Sim 205 5 (ma_load 0 0 6)) (mt_leaf (ms_goto (e := (.goto 4, 9, 10, 0, 0)) rfl (fun _ _ _ => rfl) : mo_Sim 205 6 (ma_goto 10)) (mt_leaf (ms_ild (e := (.iload_n 1, 10, 0, 0, 0)) rfl (fun _ _ _ => rfl) : mo_Sim 205 9 (ma_load 0 1 10)) (mt_leaf (ms_ret (e := (.ireturn, 11, 0, 0, 0)) rfl (Or.inl ⟨rfl, rfl, (fun _ _ _ => rfl)⟩) : mo_Sim 205 10 (ma_ret 0)) (mt_none))))
set_option maxRecDepth 100000 in
theorem smt205_0 (k : Nat) : ∀ f, mt205_0 k = some f → mo_Sim 205 k f := mt_node (smt205_1 k) (smt205_2 k)
set_option maxRecDepth 100000 in
theorem smt206_1 (k : Nat) : ∀ f, mt206_1 k = some f → mo_Sim 206 k f := mt_leaf (ms_ild (e := (.iload_n 0, 1, 0, 0, 0)) rfl (fun _ _ _ => rfl) : mo_Sim 206 0 (ma_load 0 0 1)) (mt_leaf (ms_ild (e := (.iload_n 1, 2, 0, 0, 0)) rfl (fun _ _ _ => rfl) : mo_Sim 206 1 (ma_load 0 1 2)) (mt_leaf (ms_if2 (e := (.if_icmp .gt 7, 5, 9, 0, 0)) rfl (fun _ _ _ => rfl) : mo_Sim 206 2 (ma_if2 .gt 9 2 5)) (mt_none)))
set_option maxRecDepth 100000 in
theorem smt206_2 (k : Nat) : ∀ f, mt206_2 k = some f → mo_Sim 206 k f := mt_leaf (ms_ild (e := (.iload_n 0, 6, 0, 0, 0)) rfl (fun _ _ _ => rfl) : mo_Sim 206 5 (ma_load 0 0 6)) (mt_leaf (ms_goto (e := (.goto 4, 9, 10, 0, 0)) rfl (fun _ _ _ => rfl) : mo_Sim 206 6 (ma_goto 10)) (mt_leaf (ms_ild (e := (.iload_n 1, 10, 0, 0, 0)) rfl (fun _ _ _ => rfl) : mo_Sim 206 9 (ma_load 0 1 10)) (mt_leaf (ms_ret (e := (.ireturn, 11, 0, 0, 0)) rfl (Or.inl ⟨rfl, rfl, (fun _ _ _ => rfl)⟩) : mo_Sim 206 10 (ma_ret 0)) (mt_none))))
set_option maxRecDepth 100000 in
theorem smt206_0 (k : Nat) : ∀ f, mt206_0 k = some f → mo_Sim 206 k f := mt_node (smt206_1 k) (smt206_2 k)
set_option maxRecDepth 100000 in
theorem smt207_2 (k : Nat) : ∀ f, mt207_2 k = some f → mo_Sim 207 k f := mt_leaf (ms_pushi (e := (.iconst 0, 1, 0, 0, 0)) rfl (fun _ _ _ => rfl) (by decide) : mo_Sim 207 0 (ma_push (ma_ci (.ofNat 0)) 1)) (mt_leaf (ms_ist (e := (.istore_n 3, 2, 0, 0, 0)) rfl (fun _ _ _ => rfl) : mo_Sim 207 1 (ma_stor 0 3 2)) (mt_leaf (ms_ald (e := (.aload_n 0, 3, 0, 0, 0)) rfl (fun _ _ _ => rfl) : mo_Sim 207 2 (ma_lda 0 3)) (mt_none)))
set_option maxRecDepth 100000 in
theorem smt207_3 (k : Nat) : ∀ f, mt207_3 k = some f → mo_Sim 207 k f := mt_leaf (ms_alen (e := (.arraylength, 4, 0, 0, 0)) rfl (fun _ _ _ => rfl) : mo_Sim 207 3 (ma_alen 4)) (mt_leaf (ms_ist (e := (.istore 4, 6, 0, 0, 0)) rfl (fun _ _ _ => rfl) : mo_Sim 207 4 (ma_stor 0 4 6)) (mt_leaf (ms_ild (e := (.iload_n 3, 7, 0, 0, 0)) rfl (fun _ _ _ => rfl) : mo_Sim 207 6 (ma_load 0 3 7)) (mt_leaf (ms_ild (e := (.iload 4, 9, 0, 0, 0)) rfl (fun _ _ _ => rfl) : mo_Sim 207 7 (ma_load 0 4 9)) (mt_none))))
set_option maxRecDepth 100000 in
theorem smt207_1 (k : Nat) : ∀ f, mt207_1 k = some f → mo_Sim 207 k f := mt_node (smt207_2 k) (smt207_3 k)
set_option maxRecDepth 100000 in
theorem smt207_5 (k : Nat) : ∀ f, mt207_5 k = some f → mo_Sim 207 k f := mt_leaf (ms_if2 (e := (.if_icmp .ge 13, 12, 22, 0, 0)) rfl (fun _ _ _ => rfl) : mo_Sim 207 9 (ma_if2 .ge 22 9 12)) (mt_leaf (ms_ald (e := (.aload_n 0, 13, 0, 0, 0)) rfl (fun _ _ _ => rfl) : mo_Sim 207 12 (ma_lda 0 13)) (mt_leaf (ms_ild (e := (.iload_n 3, 14, 0, 0, 0)) rfl (fun _ _ _ => rfl) : mo_Sim 207 13 (ma_load 0 3 14)) (mt_leaf (ms_lld (e := (.lload_n 1, 15, 0, 0, 0)) rfl (fun _ _ _ => rfl) : mo_Sim 207 14 (ma_load 2 1 15)) (mt_none))))
set_option maxRecDepth 100000 in
theorem smt207_6 (k : Nat) : ∀ f, mt207_6 k = some f → mo_Sim 207 k f := mt_leaf (ms_last (e := (.lastore, 16, 0, 0, 0)) rfl rfl (fun _ _ _ => rfl) : mo_Sim 207 15 (ma_ast 14 2 15 16)) (mt_leaf (ms_iinc (e := (.iinc 3 1, 19, 0, 0, 0)) rfl (fun _ _ _ => rfl) (by decide) : mo_Sim 207 16 (ma_iinc 3 (.ofNat 1) 16 19)) (mt_leaf (ms_goto (e := (.goto (-13), 22, 6, 0, 0)) rfl (fun _ _ _ => rfl) : mo_Sim 207 19 (ma_goto 6)) (mt_leaf (ms_retv (e := (.return_, 23, 0, 0, 0)) rfl rfl (fun _ _ _ => rfl) : mo_Sim 207 22 (ma_retv)) (mt_none))))
set_option maxRecDepth 100000 in
theorem smt207_4 (k : Nat) : ∀ f, mt207_4 k = some f → mo_Sim 207 k f := mt_node (smt207_5 k) (smt207_6 k)
set_option maxRecDepth 100000 in
theorem smt207_0 (k : Nat) : ∀ f, mt207_0 k = some f → mo_Sim 207 k f := mt_node (smt207_1 k) (smt207_4 k)
set_option maxRecDepth 100000 in
theorem smt208_2 (k : Nat) : ∀ f, mt208_2 k = some f → mo_Sim 208 k f := mt_leaf (ms_pushi (e := (.iconst 0, 1, 0, 0, 0)) rfl (fun _ _ _ => rfl) (by decide) : mo_Sim 208 0 (ma_push (ma_ci (.ofNat 0)) 1)) (mt_leaf (ms_ist (e := (.istore_n 2, 2, 0, 0, 0)) rfl (fun _ _ _ => rfl) : mo_Sim 208 1 (ma_stor 0 2 2)) (mt_leaf (ms_ald (e := (.aload_n 0, 3, 0, 0, 0)) rfl (fun _ _ _ => rfl) : mo_Sim 208 2 (ma_lda 0 3)) (mt_none)))
set_option maxRecDepth 100000 in
theorem smt208_3 (k : Nat) : ∀ f, mt208_3 k = some f → mo_Sim 208 k f := mt_leaf (ms_alen (e := (.arraylength, 4, 0, 0, 0)) rfl (fun _ _ _ => rfl) : mo_Sim 208 3 (ma_alen 4)) (mt_leaf (ms_ist (e := (.istore_n 3, 5, 0, 0, 0)) rfl (fun _ _ _ => rfl) : mo_Sim 208 4 (ma_stor 0 3 5)) (mt_leaf (ms_ild (e := (.iload_n 2, 6, 0, 0, 0)) rfl (fun _ _ _ => rfl) : mo_Sim 208 5 (ma_load 0 2 6)) (mt_leaf (ms_ild (e := (.iload_n 3, 7, 0, 0, 0)) rfl (fun _ _ _ => rfl) : mo_Sim 208 6 (ma_load 0 3 7)) (mt_none))))
set_option maxRecDepth 100000 in
theorem smt208_1 (k : Nat) : ∀ f, mt208_1 k = some f → mo_Sim 208 k f := mt_node (smt208_2 k) (smt208_3 k)
set_option maxRecDepth 100000 in
theorem smt208_5 (k : Nat) : ∀ f, mt208_5 k = some f → mo_Sim 208 k f := mt_leaf (ms_if2 (e := (.if_icmp .ge 13, 10, 20, 0, 0)) rfl (fun _ _ _ => rfl) : mo_Sim 208 7 (ma_if2 .ge 20 7 10)) (mt_leaf (ms_ald (e := (.aload_n 0, 11, 0, 0, 0)) rfl (fun _ _ _ => rfl) : mo_Sim 208 10 (ma_lda 0 11)) (mt_leaf (ms_ild (e := (.iload_n 2, 12, 0, 0, 0)) rfl (fun _ _ _ => rfl) : mo_Sim 208 11 (ma_load 0 2 12)) (mt_leaf (ms_ild (e := (.iload_n 1, 13, 0, 0, 0)) rfl (fun _ _ _ => rfl) : mo_Sim 208 12 (ma_load 0 1 13)) (mt_none))))
set_option maxRecDepth 100000 in
theorem smt208_6 (k : Nat) : ∀ f, mt208_6 k = some f → mo_Sim 208 k f := mt_leaf (ms_iast (e := (.iastore, 14, 0, 0, 0)) rfl rfl (fun _ _ _ => rfl) : mo_Sim 208 13 (ma_ast 13 0 13 14)) (mt_leaf (ms_iinc (e := (.iinc 2 1, 17, 0, 0, 0)) rfl (fun _ _ _ => rfl) (by decide) : mo_Sim 208 14 (ma_iinc 2 (.ofNat 1) 14 17)) (mt_leaf (ms_goto (e := (.goto (-12), 20, 5, 0, 0)) rfl (fun _ _ _ => rfl) : mo_Sim 208 17 (ma_goto 5)) (mt_leaf (ms_retv (e := (.return_, 21, 0, 0, 0)) rfl rfl (fun _ _ _ => rfl) : mo_Sim 208 20 (ma_retv)) (mt_none))))
set_option maxRecDepth 100000 in
theorem smt208_4 (k : Nat) : ∀ f, mt208_4 k = some f → mo_Sim 208 k f := mt_node (smt208_5 k) (smt208_6 k)
set_option maxRecDepth 100000 in
theorem smt208_0 (k : Nat) : ∀ f, mt208_0 k = some f → mo_Sim 208 k f := mt_node (smt208_1 k) (smt208_4 k)
set_option maxRecDepth 100000 in
theorem smtj_7 (j k : Nat) : ∀ f, mtj_7 j k = some f → mo_Sim j k f := mt_jleaf (fun _ => smt0_0 k) (mt_none)
set_option maxRecDepth 100000 in
theorem smtj_8 (j k : Nat) : ∀ f, mtj_8 j k = some f → mo_Sim j k f := mt_jleaf (fun _ => smt1_0 k) (mt_jleaf (fun _ => smt2_0 k) (mt_none))
set_option maxRecDepth 100000 in
theorem smtj_6 (j k : Nat) : ∀ f, mtj_6 j k = some f → mo_Sim j k f := mt_jnode (smtj_7 j k) (smtj_8 j k)
set_option maxRecDepth 100000 in
theorem smtj_10 (j k : Nat) : ∀ f, mtj_10 j k = some f → mo_Sim j k f := mt_jleaf (fun _ => smt3_0 k) (mt_none)
set_option maxRecDepth 100000 in
theorem smtj_11 (j k : Nat) : ∀ f, mtj_11 j k = some f → mo_Sim j k f := mt_jleaf (fun _ => smt4_0 k) (mt_jleaf (fun _ => smt5_0 k) (mt_none))
set_option maxRecDepth 100000 in
theorem smtj_9 (j k : Nat) : ∀ f, mtj_9 j k = some f → mo_Sim j k f := mt_jnode (smtj_10 j k) (smtj_11 j k)
set_option maxRecDepth 100000 in
theorem smtj_5 (j k : Nat) : ∀ f, mtj_5 j k = some f → mo_Sim j k f := mt_jnode (smtj_6 j k) (smtj_9 j k)
set_option maxRecDepth 100000 in
theorem smtj_14 (j k : Nat) : ∀ f, mtj_14 j k = some f → mo_Sim j k f := mt_jleaf (fun _ => smt6_0 k) (mt_none)
set_option maxRecDepth 100000 in
theorem smtj_15 (j k : Nat) : ∀ f, mtj_15 j k = some f → mo_Sim j k f := mt_jleaf (fun _ => smt7_0 k) (mt_jleaf (fun _ => smt8_0 k) (mt_none))
set_option maxRecDepth 100000 in
theorem smtj_13 (j k : Nat) : ∀ f, mtj_13 j k = some f → mo_Sim j k f := mt_jnode (smtj_14 j k) (smtj_15 j k)
set_option maxRecDepth 100000 in
theorem smtj_17 (j k : Nat) : ∀ f, mtj_17 j k = some f → mo_Sim j k f := mt_jleaf (fun _ => smt9_0 k) (mt_jleaf (fun _ => smt10_0 k) (mt_none))
set_option maxRecDepth 100000 in
theorem smtj_18 (j k : Nat) : ∀ f, mtj_18 j k = some f → mo_Sim j k f := mt_jleaf (fun _ => smt11_0 k) (mt_jleaf (fun _ => smt12_0 k) (mt_none))
set_option maxRecDepth 100000 in
theorem smtj_16 (j k : Nat) : ∀ f, mtj_16 j k = some f → mo_Sim j k f := mt_jnode (smtj_17 j k) (smtj_18 j k)
set_option maxRecDepth 100000 in
theorem smtj_12 (j k : Nat) : ∀ f, mtj_12 j k = some f → mo_Sim j k f := mt_jnode (smtj_13 j k) (smtj_16 j k)
set_option maxRecDepth 100000 in
theorem smtj_4 (j k : Nat) : ∀ f, mtj_4 j k = some f → mo_Sim j k f := mt_jnode (smtj_5 j k) (smtj_12 j k)
set_option maxRecDepth 100000 in
theorem smtj_22 (j k : Nat) : ∀ f, mtj_22 j k = some f → mo_Sim j k f := mt_jleaf (fun _ => smt13_0 k) (mt_none)
set_option maxRecDepth 100000 in
theorem smtj_23 (j k : Nat) : ∀ f, mtj_23 j k = some f → mo_Sim j k f := mt_jleaf (fun _ => smt14_0 k) (mt_jleaf (fun _ => smt15_0 k) (mt_none))
set_option maxRecDepth 100000 in
theorem smtj_21 (j k : Nat) : ∀ f, mtj_21 j k = some f → mo_Sim j k f := mt_jnode (smtj_22 j k) (smtj_23 j k)
set_option maxRecDepth 100000 in
theorem smtj_25 (j k : Nat) : ∀ f, mtj_25 j k = some f → mo_Sim j k f := mt_jleaf (fun _ => smt16_0 k) (mt_none)
set_option maxRecDepth 100000 in
theorem smtj_26 (j k : Nat) : ∀ f, mtj_26 j k = some f → mo_Sim j k f := mt_jleaf (fun _ => smt17_0 k) (mt_jleaf (fun _ => smt18_0 k) (mt_none))
set_option maxRecDepth 100000 in
theorem smtj_24 (j k : Nat) : ∀ f, mtj_24 j k = some f → mo_Sim j k f := mt_jnode (smtj_25 j k) (smtj_26 j k)
set_option maxRecDepth 100000 in
theorem smtj_20 (j k : Nat) : ∀ f, mtj_20 j k = some f → mo_Sim j k f := mt_jnode (smtj_21 j k) (smtj_24 j k)
set_option maxRecDepth 100000 in
theorem smtj_29 (j k : Nat) : ∀ f, mtj_29 j k = some f → mo_Sim j k f := mt_jleaf (fun _ => smt19_0 k) (mt_none)
set_option maxRecDepth 100000 in
theorem smtj_30 (j k : Nat) : ∀ f, mtj_30 j k = some f → mo_Sim j k f := mt_jleaf (fun _ => smt20_0 k) (mt_jleaf (fun _ => smt21_0 k) (mt_none))
set_option maxRecDepth 100000 in
theorem smtj_28 (j k : Nat) : ∀ f, mtj_28 j k = some f → mo_Sim j k f := mt_jnode (smtj_29 j k) (smtj_30 j k)
set_option maxRecDepth 100000 in
theorem smtj_32 (j k : Nat) : ∀ f, mtj_32 j k = some f → mo_Sim j k f := mt_jleaf (fun _ => smt22_0 k) (mt_jleaf (fun _ => smt23_0 k) (mt_none))
set_option maxRecDepth 100000 in
theorem smtj_33 (j k : Nat) : ∀ f, mtj_33 j k = some f → mo_Sim j k f := mt_jleaf (fun _ => smt24_0 k) (mt_jleaf (fun _ => smt25_0 k) (mt_none))
set_option maxRecDepth 100000 in
theorem smtj_31 (j k : Nat) : ∀ f, mtj_31 j k = some f → mo_Sim j k f := mt_jnode (smtj_32 j k) (smtj_33 j k)
set_option maxRecDepth 100000 in
theorem smtj_27 (j k : Nat) : ∀ f, mtj_27 j k = some f → mo_Sim j k f := mt_jnode (smtj_28 j k) (smtj_31 j k)
set_option maxRecDepth 100000 in
theorem smtj_19 (j k : Nat) : ∀ f, mtj_19 j k = some f → mo_Sim j k f := mt_jnode (smtj_20 j k) (smtj_27 j k)
set_option maxRecDepth 100000 in
theorem smtj_3 (j k : Nat) : ∀ f, mtj_3 j k = some f → mo_Sim j k f := mt_jnode (smtj_4 j k) (smtj_19 j k)
set_option maxRecDepth 100000 in
theorem smtj_38 (j k : Nat) : ∀ f, mtj_38 j k = some f → mo_Sim j k f := mt_jleaf (fun _ => smt26_0 k) (mt_none)
set_option maxRecDepth 100000 in
theorem smtj_39 (j k : Nat) : ∀ f, mtj_39 j k = some f → mo_Sim j k f := mt_jleaf (fun _ => smt27_0 k) (mt_jleaf (fun _ => smt28_0 k) (mt_none))
set_option maxRecDepth 100000 in
theorem smtj_37 (j k : Nat) : ∀ f, mtj_37 j k = some f → mo_Sim j k f := mt_jnode (smtj_38 j k) (smtj_39 j k)
set_option maxRecDepth 100000 in
theorem smtj_41 (j k : Nat) : ∀ f, mtj_41 j k = some f → mo_Sim j k f := mt_jleaf (fun _ => smt29_0 k) (mt_none)
set_option maxRecDepth 100000 in
theorem smtj_42 (j k : Nat) : ∀ f, mtj_42 j k = some f → mo_Sim j k f := mt_jleaf (fun _ => smt30_0 k) (mt_jleaf (fun _ => smt31_0 k) (mt_none))
set_option maxRecDepth 100000 in
theorem smtj_40 (j k : Nat) : ∀ f, mtj_40 j k = some f → mo_Sim j k f := mt_jnode (smtj_41 j k) (smtj_42 j k)
set_option maxRecDepth 100000 in
theorem smtj_36 (j k : Nat) : ∀ f, mtj_36 j k = some f → mo_Sim j k f := mt_jnode (smtj_37 j k) (smtj_40 j k)
set_option maxRecDepth 100000 in
theorem smtj_45 (j k : Nat) : ∀ f, mtj_45 j k = some f → mo_Sim j k f := mt_jleaf (fun _ => smt32_0 k) (mt_none)
set_option maxRecDepth 100000 in
theorem smtj_46 (j k : Nat) : ∀ f, mtj_46 j k = some f → mo_Sim j k f := mt_jleaf (fun _ => smt33_0 k) (mt_jleaf (fun _ => smt34_0 k) (mt_none))
set_option maxRecDepth 100000 in
theorem smtj_44 (j k : Nat) : ∀ f, mtj_44 j k = some f → mo_Sim j k f := mt_jnode (smtj_45 j k) (smtj_46 j k)
set_option maxRecDepth 100000 in
theorem smtj_48 (j k : Nat) : ∀ f, mtj_48 j k = some f → mo_Sim j k f := mt_jleaf (fun _ => smt35_0 k) (mt_jleaf (fun _ => smt36_0 k) (mt_none))
set_option maxRecDepth 100000 in
theorem smtj_49 (j k : Nat) : ∀ f, mtj_49 j k = some f → mo_Sim j k f := mt_jleaf (fun _ => smt37_0 k) (mt_jleaf (fun _ => smt38_0 k) (mt_none))
set_option maxRecDepth 100000 in
theorem smtj_47 (j k : Nat) : ∀ f, mtj_47 j k = some f → mo_Sim j k f := mt_jnode (smtj_48 j k) (smtj_49 j k)
set_option maxRecDepth 100000 in
theorem smtj_43 (j k : Nat) : ∀ f, mtj_43 j k = some f → mo_Sim j k f := mt_jnode (smtj_44 j k) (smtj_47 j k)
set_option maxRecDepth 100000 in
theorem smtj_35 (j k : Nat) : ∀ f, mtj_35 j k = some f → mo_Sim j k f := mt_jnode (smtj_36 j k) (smtj_43 j k)
set_option maxRecDepth 100000 in
theorem smtj_53 (j k : Nat) : ∀ f, mtj_53 j k = some f → mo_Sim j k f := mt_jleaf (fun _ => smt39_0 k) (mt_none)
set_option maxRecDepth 100000 in
theorem smtj_54 (j k : Nat) : ∀ f, mtj_54 j k = some f → mo_Sim j k f := mt_jleaf (fun _ => smt40_0 k) (mt_jleaf (fun _ => smt41_0 k) (mt_none))
set_option maxRecDepth 100000 in
theorem smtj_52 (j k : Nat) : ∀ f, mtj_52 j k = some f → mo_Sim j k f := mt_jnode (smtj_53 j k) (smtj_54 j k)
set_option maxRecDepth 100000 in
theorem smtj_56 (j k : Nat) : ∀ f, mtj_56 j k = some f → mo_Sim j k f := mt_jleaf (fun _ => smt42_0 k) (mt_none)
set_option maxRecDepth 100000 in
theorem smtj_57 (j k : Nat) : ∀ f, mtj_57 j k = some f → mo_Sim j k f := mt_jleaf (fun _ => smt43_0 k) (mt_jleaf (fun _ => smt44_0 k) (mt_none))
set_option maxRecDepth 100000 in
theorem smtj_55 (j k : Nat) : ∀ f, mtj_55 j k = some f → mo_Sim j k f := mt_jnode (smtj_56 j k) (smtj_57 j k)
set_option maxRecDepth 100000 in
theorem smtj_51 (j k : Nat) : ∀ f, mtj_51 j k = some f → mo_Sim j k f := mt_jnode (smtj_52 j k) (smtj_55 j k)
set_option maxRecDepth 100000 in
theorem smtj_60 (j k : Nat) : ∀ f, mtj_60 j k = some f → mo_Sim j k f := mt_jleaf (fun _ => smt45_0 k) (mt_none)
set_option maxRecDepth 100000 in
theorem smtj_61 (j k : Nat) : ∀ f, mtj_61 j k = some f → mo_Sim j k f := mt_jleaf (fun _ => smt46_0 k) (mt_jleaf (fun _ => smt47_0 k) (mt_none))
set_option maxRecDepth 100000 in
theorem smtj_59 (j k : Nat) : ∀ f, mtj_59 j k = some f → mo_Sim j k f := mt_jnode (smtj_60 j k) (smtj_61 j k)
set_option maxRecDepth 100000 in
theorem smtj_63 (j k : Nat) : ∀ f, mtj_63 j k = some f → mo_Sim j k f := mt_jleaf (fun _ => smt48_0 k) (mt_jleaf (fun _ => smt49_0 k) (mt_none))
set_option maxRecDepth 100000 in
theorem smtj_64 (j k : Nat) : ∀ f, mtj_64 j k = some f → mo_Sim j k f := mt_jleaf (fun _ => smt50_0 k) (mt_jleaf (fun _ => smt51_0 k) (mt_none))
set_option maxRecDepth 100000 in
theorem smtj_62 (j k : Nat) : ∀ f, mtj_62 j k = some f → mo_Sim j k f := mt_jnode (smtj_63 j k) (smtj_64 j k)
set_option maxRecDepth 100000 in
theorem smtj_58 (j k : Nat) : ∀ f, mtj_58 j k = some f → mo_Sim j k f := mt_jnode (smtj_59 j k) (smtj_62 j k)
set_option maxRecDepth 100000 in
theorem smtj_50 (j k : Nat) : ∀ f, mtj_50 j k = some f → mo_Sim j k f := mt_jnode (smtj_51 j k) (smtj_58 j k)
set_option maxRecDepth 100000 in
theorem smtj_34 (j k : Nat) : ∀ f, mtj_34 j k = some f → mo_Sim j k f := mt_jnode (smtj_35 j k) (smtj_50 j k)
set_option maxRecDepth 100000 in
theorem smtj_2 (j k : Nat) : ∀ f, mtj_2 j k = some f → mo_Sim j k f := mt_jnode (smtj_3 j k) (smtj_34 j k)
set_option maxRecDepth 100000 in
theorem smtj_70 (j k : Nat) : ∀ f, mtj_70 j k = some f → mo_Sim j k f := mt_jleaf (fun _ => smt52_0 k) (mt_none)
set_option maxRecDepth 100000 in
theorem smtj_71 (j k : Nat) : ∀ f, mtj_71 j k = some f → mo_Sim j k f := mt_jleaf (fun _ => smt53_0 k) (mt_jleaf (fun _ => smt54_0 k) (mt_none))
set_option maxRecDepth 100000 in
theorem smtj_69 (j k : Nat) : ∀ f, mtj_69 j k = some f → mo_Sim j k f := mt_jnode (smtj_70 j k) (smtj_71 j k)
set_option maxRecDepth 100000 in
theorem smtj_73 (j k : Nat) : ∀ f, mtj_73 j k = some f → mo_Sim j k f := mt_jleaf (fun _ => smt55_0 k) (mt_none)
set_option maxRecDepth 100000 in
theorem smtj_74 (j k : Nat) : ∀ f, mtj_74 j k = some f → mo_Sim j k f := mt_jleaf (fun _ => smt56_0 k) (mt_jleaf (fun _ => smt57_0 k) (mt_none))
set_option maxRecDepth 100000 in
theorem smtj_72 (j k : Nat) : ∀ f, mtj_72 j k = some f → mo_Sim j k f := mt_jnode (smtj_73 j k) (smtj_74 j k)
set_option maxRecDepth 100000 in
theorem smtj_68 (j k : Nat) : ∀ f, mtj_68 j k = some f → mo_Sim j k f := mt_jnode (smtj_69 j k) (smtj_72 j k)
set_option maxRecDepth 100000 in
theorem smtj_77 (j k : Nat) : ∀ f, mtj_77 j k = some f → mo_Sim j k f := mt_jleaf (fun _ => smt58_0 k) (mt_none)
set_option maxRecDepth 100000 in
theorem smtj_78 (j k : Nat) : ∀ f, mtj_78 j k = some f → mo_Sim j k f := mt_jleaf (fun _ => smt59_0 k) (mt_jleaf (fun _ => smt60_0 k) (mt_none))
set_option maxRecDepth 100000 in
theorem smtj_76 (j k : Nat) : ∀ f, mtj_76 j k = some f → mo_Sim j k f := mt_jnode (smtj_77 j k) (smtj_78 j k)
set_option maxRecDepth 100000 in
theorem smtj_80 (j k : Nat) : ∀ f, mtj_80 j k = some f → mo_Sim j k f := mt_jleaf (fun _ => smt61_0 k) (mt_jleaf (fun _ => smt62_0 k) (mt_none))
set_option maxRecDepth 100000 in
theorem smtj_81 (j k : Nat) : ∀ f, mtj_81 j k = some f → mo_Sim j k f := mt_jleaf (fun _ => smt63_0 k) (mt_jleaf (fun _ => smt64_0 k) (mt_none))
set_option maxRecDepth 100000 in
theorem smtj_79 (j k : Nat) : ∀ f, mtj_79 j k = some f → mo_Sim j k f := mt_jnode (smtj_80 j k) (smtj_81 j k)
set_option maxRecDepth 100000 in
theorem smtj_75 (j k : Nat) : ∀ f, mtj_75 j k = some f → mo_Sim j k f := mt_jnode (smtj_76 j k) (smtj_79 j k)
set_option maxRecDepth 100000 in
theorem smtj_67 (j k : Nat) : ∀ f, mtj_67 j k = some f → mo_Sim j k f := mt_jnode (smtj_68 j k) (smtj_75 j k)
set_option maxRecDepth 100000 in
theorem smtj_85 (j k : Nat) : ∀ f, mtj_85 j k = some f → mo_Sim j k f := mt_jleaf (fun _ => smt65_0 k) (mt_none)
set_option maxRecDepth 100000 in
theorem smtj_86 (j k : Nat) : ∀ f, mtj_86 j k = some f → mo_Sim j k f := mt_jleaf (fun _ => smt66_0 k) (mt_jleaf (fun _ => smt67_0 k) (mt_none))
set_option maxRecDepth 100000 in
theorem smtj_84 (j k : Nat) : ∀ f, mtj_84 j k = some f → mo_Sim j k f := mt_jnode (smtj_85 j k) (smtj_86 j k)
set_option maxRecDepth 100000 in
theorem smtj_88 (j k : Nat) : ∀ f, mtj_88 j k = some f → mo_Sim j k f := mt_jleaf (fun _ => smt68_0 k) (mt_none)
set_option maxRecDepth 100000 in
theorem smtj_89 (j k : Nat) : ∀ f, mtj_89 j k = some f → mo_Sim j k f := mt_jleaf (fun _ => smt69_0 k) (mt_jleaf (fun _ => smt70_0 k) (mt_none))
set_option maxRecDepth 100000 in
theorem smtj_87 (j k : Nat) : ∀ f, mtj_87 j k = some f → mo_Sim j k f := mt_jnode (smtj_88 j k) (smtj_89 j k)
set_option maxRecDepth 100000 in
theorem smtj_83 (j k : Nat) : ∀ f, mtj_83 j k = some f → mo_Sim j k f := mt_jnode (smtj_84 j k) (smtj_87 j k)
set_option maxRecDepth 100000 in
theorem smtj_92 (j k : Nat) : ∀ f, mtj_92 j k = some f → mo_Sim j k f := mt_jleaf (fun _ => smt71_0 k) (mt_none)
set_option maxRecDepth 100000 in
theorem smtj_93 (j k : Nat) : ∀ f, mtj_93 j k = some f → mo_Sim j k f := mt_jleaf (fun _ => smt72_0 k) (mt_jleaf (fun _ => smt73_0 k) (mt_none))
set_option maxRecDepth 100000 in
theorem smtj_91 (j k : Nat) : ∀ f, mtj_91 j k = some f → mo_Sim j k f := mt_jnode (smtj_92 j k) (smtj_93 j k)
set_option maxRecDepth 100000 in
theorem smtj_95 (j k : Nat) : ∀ f, mtj_95 j k = some f → mo_Sim j k f := mt_jleaf (fun _ => smt74_0 k) (mt_jleaf (fun _ => smt75_0 k) (mt_none))
set_option maxRecDepth 100000 in
theorem smtj_96 (j k : Nat) : ∀ f, mtj_96 j k = some f → mo_Sim j k f := mt_jleaf (fun _ => smt76_0 k) (mt_jleaf (fun _ => smt77_0 k) (mt_none))
set_option maxRecDepth 100000 in
theorem smtj_94 (j k : Nat) : ∀ f, mtj_94 j k = some f → mo_Sim j k f := mt_jnode (smtj_95 j k) (smtj_96 j k)
set_option maxRecDepth 100000 in
theorem smtj_90 (j k : Nat) : ∀ f, mtj_90 j k = some f → mo_Sim j k f := mt_jnode (smtj_91 j k) (smtj_94 j k)
set_option maxRecDepth 100000 in
theorem smtj_82 (j k : Nat) : ∀ f, mtj_82 j k = some f → mo_Sim j k f := mt_jnode (smtj_83 j k) (smtj_90 j k)
set_option maxRecDepth 100000 in
theorem smtj_66 (j k : Nat) : ∀ f, mtj_66 j k = some f → mo_Sim j k f := mt_jnode (smtj_67 j k) (smtj_82 j k)
set_option maxRecDepth 100000 in
theorem smtj_101 (j k : Nat) : ∀ f, mtj_101 j k = some f → mo_Sim j k f := mt_jleaf (fun _ => smt78_0 k) (mt_none)
set_option maxRecDepth 100000 in
theorem smtj_102 (j k : Nat) : ∀ f, mtj_102 j k = some f → mo_Sim j k f := mt_jleaf (fun _ => smt79_0 k) (mt_jleaf (fun _ => smt80_0 k) (mt_none))
set_option maxRecDepth 100000 in
theorem smtj_100 (j k : Nat) : ∀ f, mtj_100 j k = some f → mo_Sim j k f := mt_jnode (smtj_101 j k) (smtj_102 j k)
set_option maxRecDepth 100000 in
theorem smtj_104 (j k : Nat) : ∀ f, mtj_104 j k = some f → mo_Sim j k f := mt_jleaf (fun _ => smt81_0 k) (mt_none)
set_option maxRecDepth 100000 in
theorem smtj_105 (j k : Nat) : ∀ f, mtj_105 j k = some f → mo_Sim j k f := mt_jleaf (fun _ => smt82_0 k) (mt_jleaf (fun _ => smt83_0 k) (mt_none))
set_option maxRecDepth 100000 in
theorem smtj_103 (j k : Nat) : ∀ f, mtj_103 j k = some f → mo_Sim j k f := mt_jnode (smtj_104 j k) (smtj_105 j k)
set_option maxRecDepth 100000 in
theorem smtj_99 (j k : Nat) : ∀ f, mtj_99 j k = some f → mo_Sim j k f := mt_jnode (smtj_100 j k) (smtj_103 j k)
set_option maxRecDepth 100000 in
theorem smtj_108 (j k : Nat) : ∀ f, mtj_108 j k = some f → mo_Sim j k f := mt_jleaf (fun _ => smt84_0 k) (mt_none)
set_option maxRecDepth 100000 in
theorem smtj_109 (j k : Nat) : ∀ f, mtj_109 j k = some f → mo_Sim j k f := mt_jleaf (fun _ => smt85_0 k) (mt_jleaf (fun _ => smt86_0 k) (mt_none))
set_option maxRecDepth 100000 in
theorem smtj_107 (j k : Nat) : ∀ f, mtj_107 j k = some f → mo_Sim j k f := mt_jnode (smtj_108 j k) (smtj_109 j k)
set_option maxRecDepth 100000 in
theorem smtj_111 (j k : Nat) : ∀ f, mtj_111 j k = some f → mo_Sim j k f := mt_jleaf (fun _ => smt87_0 k) (mt_jleaf (fun _ => smt88_0 k) (mt_none))
set_option maxRecDepth 100000 in
theorem smtj_112 (j k : Nat) : ∀ f, mtj_112 j k = some f → mo_Sim j k f := mt_jleaf (fun _ => smt89_0 k) (mt_jleaf (fun _ => smt90_0 k) (mt_none))
set_option maxRecDepth 100000 in
theorem smtj_110 (j k : Nat) : ∀ f, mtj_110 j k = some f → mo_Sim j k f := mt_jnode (smtj_111 j k) (smtj_112 j k)
set_option maxRecDepth 100000 in
theorem smtj_106 (j k : Nat) : ∀ f, mtj_106 j k = some f → mo_Sim j k f := mt_jnode (smtj_107 j k) (smtj_110 j k)
set_option maxRecDepth 100000 in
theorem smtj_98 (j k : Nat) : ∀ f, mtj_98 j k = some f → mo_Sim j k f := mt_jnode (smtj_99 j k) (smtj_106 j k)
set_option maxRecDepth 100000 in
theorem smtj_116 (j k : Nat) : ∀ f, mtj_116 j k = some f → mo_Sim j k f := mt_jleaf (fun _ => smt91_0 k) (mt_none)
set_option maxRecDepth 100000 in
theorem smtj_117 (j k : Nat) : ∀ f, mtj_117 j k = some f → mo_Sim j k f := mt_jleaf (fun _ => smt92_0 k) (mt_jleaf (fun _ => smt93_0 k) (mt_none))
set_option maxRecDepth 100000 in
theorem smtj_115 (j k : Nat) : ∀ f, mtj_115 j k = some f → mo_Sim j k f := mt_jnode (smtj_116 j k) (smtj_117 j k)
set_option maxRecDepth 100000 in
theorem smtj_119 (j k : Nat) : ∀ f, mtj_119 j k = some f → mo_Sim j k f := mt_jleaf (fun _ => smt94_0 k) (mt_none)
set_option maxRecDepth 100000 in
theorem smtj_120 (j k : Nat) : ∀ f, mtj_120 j k = some f → mo_Sim j k f := mt_jleaf (fun _ => smt95_0 k) (mt_jleaf (fun _ => smt96_0 k) (mt_none))
set_option maxRecDepth 100000 in
theorem smtj_118 (j k : Nat) : ∀ f, mtj_118 j k = some f → mo_Sim j k f := mt_jnode (smtj_119 j k) (smtj_120 j k)
set_option maxRecDepth 100000 in
theorem smtj_114 (j k : Nat) : ∀ f, mtj_114 j k = some f → mo_Sim j k f := mt_jnode (smtj_115 j k) (smtj_118 j k)
set_option maxRecDepth 100000 in
theorem smtj_123 (j k : Nat) : ∀ f, mtj_123 j k = some f → mo_Sim j k f := mt_jleaf (fun _ => smt97_0 k) (mt_none)
set_option maxRecDepth 100000 in
theorem smtj_124 (j k : Nat) : ∀ f, mtj_124 j k = some f → mo_Sim j k f := mt_jleaf (fun _ => smt98_0 k) (mt_jleaf (fun _ => smt99_0 k) (mt_none))
set_option maxRecDepth 100000 in
theorem smtj_122 (j k : Nat) : ∀ f, mtj_122 j k = some f → mo_Sim j k f := mt_jnode (smtj_123 j k) (smtj_124 j k)
set_option maxRecDepth 100000 in
theorem smtj_126 (j k : Nat) : ∀ f, mtj_126 j k = some f → mo_Sim j k f := mt_jleaf (fun _ => smt100_0 k) (mt_jleaf (fun _ => smt101_0 k) (mt_none))
set_option maxRecDepth 100000 in
theorem smtj_127 (j k : Nat) : ∀ f, mtj_127 j k = some f → mo_Sim j k f := mt_jleaf (fun _ => smt102_0 k) (mt_jleaf (fun _ => smt103_0 k) (mt_none))
set_option maxRecDepth 100000 in
theorem smtj_125 (j k : Nat) : ∀ f, mtj_125 j k = some f → mo_Sim j k f := mt_jnode (smtj_126 j k) (smtj_127 j k)
set_option maxRecDepth 100000 in
theorem smtj_121 (j k : Nat) : ∀ f, mtj_121 j k = some f → mo_Sim j k f := mt_jnode (smtj_122 j k) (smtj_125 j k)
set_option maxRecDepth 100000 in
theorem smtj_113 (j k : Nat) : ∀ f, mtj_113 j k = some f → mo_Sim j k f := mt_jnode (smtj_114 j k) (smtj_121 j k)
set_option maxRecDepth 100000 in
theorem smtj_97 (j k : Nat) : ∀ f, mtj_97 j k = some f → mo_Sim j k f := mt_jnode (smtj_98 j k) (smtj_113 j k)
set_option maxRecDepth 100000 in
theorem smtj_65 (j k : Nat) : ∀ f, mtj_65 j k = some f → mo_Sim j k f := mt_jnode (smtj_66 j k) (smtj_97 j k)
set_option maxRecDepth 100000 in
theorem smtj_1 (j k : Nat) : ∀ f, mtj_1 j k = some f → mo_Sim j k f := mt_jnode (smtj_2 j k) (smtj_65 j k)
set_option maxRecDepth 100000 in
theorem smtj_134 (j k : Nat) : ∀ f, mtj_134 j k = some f → mo_Sim j k f := mt_jleaf (fun _ => smt104_0 k) (mt_none)
set_option maxRecDepth 100000 in
theorem smtj_135 (j k : Nat) : ∀ f, mtj_135 j k = some f → mo_Sim j k f := mt_jleaf (fun _ => smt105_0 k) (mt_jleaf (fun _ => smt106_0 k) (mt_none))
set_option maxRecDepth 100000 in
theorem smtj_133 (j k : Nat) : ∀ f, mtj_133 j k = some f → mo_Sim j k f := mt_jnode (smtj_134 j k) (smtj_135 j k)
set_option maxRecDepth 100000 in
theorem smtj_137 (j k : Nat) : ∀ f, mtj_137 j k = some f → mo_Sim j k f := mt_jleaf (fun _ => smt107_0 k) (mt_none)
set_option maxRecDepth 100000 in
theorem smtj_138 (j k : Nat) : ∀ f, mtj_138 j k = some f → mo_Sim j k f := mt_jleaf (fun _ => smt108_0 k) (mt_jleaf (fun _ => smt109_0 k) (mt_none))
set_option maxRecDepth 100000 in
theorem smtj_136 (j k : Nat) : ∀ f, mtj_136 j k = some f → mo_Sim j k f := mt_jnode (smtj_137 j k) (smtj_138 j k)
set_option maxRecDepth 100000 in
theorem smtj_132 (j k : Nat) : ∀ f, mtj_132 j k = some f → mo_Sim j k f := mt_jnode (smtj_133 j k) (smtj_136 j k)
set_option maxRecDepth 100000 in
theorem smtj_141 (j k : Nat) : ∀ f, mtj_141 j k = some f → mo_Sim j k f := mt_jleaf (fun _ => smt110_0 k) (mt_none)
set_option maxRecDepth 100000 in
theorem smtj_142 (j k : Nat) : ∀ f, mtj_142 j k = some f → mo_Sim j k f := mt_jleaf (fun _ => smt111_0 k) (mt_jleaf (fun _ => smt112_0 k) (mt_none))
set_option maxRecDepth 100000 in
theorem smtj_140 (j k : Nat) : ∀ f, mtj_140 j k = some f → mo_Sim j k f := mt_jnode (smtj_141 j k) (smtj_142 j k)
set_option maxRecDepth 100000 in
theorem smtj_144 (j k : Nat) : ∀ f, mtj_144 j k = some f → mo_Sim j k f := mt_jleaf (fun _ => smt113_0 k) (mt_jleaf (fun _ => smt114_0 k) (mt_none))
set_option maxRecDepth 100000 in
theorem smtj_145 (j k : Nat) : ∀ f, mtj_145 j k = some f → mo_Sim j k f := mt_jleaf (fun _ => smt115_0 k) (mt_jleaf (fun _ => smt116_0 k) (mt_none))
set_option maxRecDepth 100000 in
theorem smtj_143 (j k : Nat) : ∀ f, mtj_143 j k = some f → mo_Sim j k f := mt_jnode (smtj_144 j k) (smtj_145 j k)
set_option maxRecDepth 100000 in
theorem smtj_139 (j k : Nat) : ∀ f, mtj_139 j k = some f → mo_Sim j k f := mt_jnode (smtj_140 j k) (smtj_143 j k)
set_option maxRecDepth 100000 in
theorem smtj_131 (j k : Nat) : ∀ f, mtj_131 j k = some f → mo_Sim j k f := mt_jnode (smtj_132 j k) (smtj_139 j k)
set_option maxRecDepth 100000 in
theorem smtj_149 (j k : Nat) : ∀ f, mtj_149 j k = some f → mo_Sim j k f := mt_jleaf (fun _ => smt117_0 k) (mt_none)
set_option maxRecDepth 100000 in
theorem smtj_150 (j k : Nat) : ∀ f, mtj_150 j k = some f → mo_Sim j k f := mt_jleaf (fun _ => smt118_0 k) (mt_jleaf (fun _ => smt119_0 k) (mt_none))
set_option maxRecDepth 100000 in
theorem smtj_148 (j k : Nat) : ∀ f, mtj_148 j k = some f → mo_Sim j k f := mt_jnode (smtj_149 j k) (smtj_150 j k)
set_option maxRecDepth 100000 in
theorem smtj_152 (j k : Nat) : ∀ f, mtj_152 j k = some f → mo_Sim j k f := mt_jleaf (fun _ => smt120_0 k) (mt_none)
set_option maxRecDepth 100000 in
theorem smtj_153 (j k : Nat) : ∀ f, mtj_153 j k = some f → mo_Sim j k f := mt_jleaf (fun _ => smt121_0 k) (mt_jleaf (fun _ => smt122_0 k) (mt_none))
set_option maxRecDepth 100000 in
theorem smtj_151 (j k : Nat) : ∀ f, mtj_151 j k = some f → mo_Sim j k f := mt_jnode (smtj_152 j k) (smtj_153 j k)
set_option maxRecDepth 100000 in
theorem smtj_147 (j k : Nat) : ∀ f, mtj_147 j k = some f → mo_Sim j k f := mt_jnode (smtj_148 j k) (smtj_151 j k)
set_option maxRecDepth 100000 in
theorem smtj_156 (j k : Nat) : ∀ f, mtj_156 j k = some f → mo_Sim j k f := mt_jleaf (fun _ => smt123_0 k) (mt_none)
set_option maxRecDepth 100000 in
theorem smtj_157 (j k : Nat) : ∀ f, mtj_157 j k = some f → mo_Sim j k f := mt_jleaf (fun _ => smt124_0 k) (mt_jleaf (fun _ => smt125_0 k) (mt_none))
set_option maxRecDepth 100000 in
theorem smtj_155 (j k : Nat) : ∀ f, mtj_155 j k = some f → mo_Sim j k f := mt_jnode (smtj_156 j k) (smtj_157 j k)
set_option maxRecDepth 100000 in
theorem smtj_159 (j k : Nat) : ∀ f, mtj_159 j k = some f → mo_Sim j k f := mt_jleaf (fun _ => smt126_0 k) (mt_jleaf (fun _ => smt127_0 k) (mt_none))
set_option maxRecDepth 100000 in
theorem smtj_160 (j k : Nat) : ∀ f, mtj_160 j k = some f → mo_Sim j k f := mt_jleaf (fun _ => smt128_0 k) (mt_jleaf (fun _ => smt129_0 k) (mt_none))
set_option maxRecDepth 100000 in
theorem smtj_158 (j k : Nat) : ∀ f, mtj_158 j k = some f → mo_Sim j k f := mt_jnode (smtj_159 j k) (smtj_160 j k)
set_option maxRecDepth 100000 in
theorem smtj_154 (j k : Nat) : ∀ f, mtj_154 j k = some f → mo_Sim j k f := mt_jnode (smtj_155 j k) (smtj_158 j k)
set_option maxRecDepth 100000 in
theorem smtj_146 (j k : Nat) : ∀ f, mtj_146 j k = some f → mo_Sim j k f := mt_jnode (smtj_147 j k) (smtj_154 j k)
set_option maxRecDepth 100000 in
theorem smtj_130 (j k : Nat) : ∀ f, mtj_130 j k = some f → mo_Sim j k f := mt_jnode (smtj_131 j k) (smtj_146 j k)
set_option maxRecDepth 100000 in
theorem smtj_165 (j k : Nat) : ∀ f, mtj_165 j k = some f → mo_Sim j k f := mt_jleaf (fun _ => smt130_0 k) (mt_none)
set_option maxRecDepth 100000 in
theorem smtj_166 (j k : Nat) : ∀ f, mtj_166 j k = some f → mo_Sim j k f := mt_jleaf (fun _ => smt131_0 k) (mt_jleaf (fun _ => smt132_0 k) (mt_none))
set_option maxRecDepth 100000 in
theorem smtj_164 (j k : Nat) : ∀ f, mtj_164 j k = some f → mo_Sim j k f := mt_jnode (smtj_165 j k) (smtj_166 j k)
set_option maxRecDepth 100000 in
theorem smtj_168 (j k : Nat) : ∀ f, mtj_168 j k = some f → mo_Sim j k f := mt_jleaf (fun _ => smt133_0 k) (mt_none)
set_option maxRecDepth 100000 in
theorem smtj_169 (j k : Nat) : ∀ f, mtj_169 j k = some f → mo_Sim j k f := mt_jleaf (fun _ => smt134_0 k) (mt_jleaf (fun _ => smt135_0 k) (mt_none))
set_option maxRecDepth 100000 in
theorem smtj_167 (j k : Nat) : ∀ f, mtj_167 j k = some f → mo_Sim j k f := mt_jnode (smtj_168 j k) (smtj_169 j k)
set_option maxRecDepth 100000 in
theorem smtj_163 (j k : Nat) : ∀ f, mtj_163 j k = some f → mo_Sim j k f := mt_jnode (smtj_164 j k) (smtj_167 j k)
set_option maxRecDepth 100000 in
theorem smtj_172 (j k : Nat) : ∀ f, mtj_172 j k = some f → mo_Sim j k f := mt_jleaf (fun _ => smt136_0 k) (mt_none)
set_option maxRecDepth 100000 in
theorem smtj_173 (j k : Nat) : ∀ f, mtj_173 j k = some f → mo_Sim j k f := mt_jleaf (fun _ => smt137_0 k) (mt_jleaf (fun _ => smt138_0 k) (mt_none))
set_option maxRecDepth 100000 in
theorem smtj_171 (j k : Nat) : ∀ f, mtj_171 j k = some f → mo_Sim j k f := mt_jnode (smtj_172 j k) (smtj_173 j k)
set_option maxRecDepth 100000 in
theorem smtj_175 (j k : Nat) : ∀ f, mtj_175 j k = some f → mo_Sim j k f := mt_jleaf (fun _ => smt139_0 k) (mt_jleaf (fun _ => smt140_0 k) (mt_none))
set_option maxRecDepth 100000 in
theorem smtj_176 (j k : Nat) : ∀ f, mtj_176 j k = some f → mo_Sim j k f := mt_jleaf (fun _ => smt141_0 k) (mt_jleaf (fun _ => smt142_0 k) (mt_none))
set_option maxRecDepth 100000 in
theorem smtj_174 (j k : Nat) : ∀ f, mtj_174 j k = some f → mo_Sim j k f := mt_jnode (smtj_175 j k) (smtj_176 j k)
set_option maxRecDepth 100000 in
theorem smtj_170 (j k : Nat) : ∀ f, mtj_170 j k = some f → mo_Sim j k f := mt_jnode (smtj_171 j k) (smtj_174 j k)
set_option maxRecDepth 100000 in
theorem smtj_162 (j k : Nat) : ∀ f, mtj_162 j k = some f → mo_Sim j k f := mt_jnode (smtj_163 j k) (smtj_170 j k)
set_option maxRecDepth 100000 in
theorem smtj_180 (j k : Nat) : ∀ f, mtj_180 j k = some f → mo_Sim j k f := mt_jleaf (fun _ => smt143_0 k) (mt_none)
set_option maxRecDepth 100000 in
theorem smtj_181 (j k : Nat) : ∀ f, mtj_181 j k = some f → mo_Sim j k f := mt_jleaf (fun _ => smt144_0 k) (mt_jleaf (fun _ => smt145_0 k) (mt_none))
set_option maxRecDepth 100000 in
theorem smtj_179 (j k : Nat) : ∀ f, mtj_179 j k = some f → mo_Sim j k f := mt_jnode (smtj_180 j k) (smtj_181 j k)
set_option maxRecDepth 100000 in
theorem smtj_183 (j k : Nat) : ∀ f, mtj_183 j k = some f → mo_Sim j k f := mt_jleaf (fun _ => smt146_0 k) (mt_none)
set_option maxRecDepth 100000 in
theorem smtj_184 (j k : Nat) : ∀ f, mtj_184 j k = some f → mo_Sim j k f := mt_jleaf (fun _ => smt147_0 k) (mt_jleaf (fun _ => smt148_0 k) (mt_none))
set_option maxRecDepth 100000 in
theorem smtj_182 (j k : Nat) : ∀ f, mtj_182 j k = some f → mo_Sim j k f := mt_jnode (smtj_183 j k) (smtj_184 j k)
set_option maxRecDepth 100000 in
theorem smtj_178 (j k : Nat) : ∀ f, mtj_178 j k = some f → mo_Sim j k f := mt_jnode (smtj_179 j k) (smtj_182 j k)
set_option maxRecDepth 100000 in
theorem smtj_187 (j k : Nat) : ∀ f, mtj_187 j k = some f → mo_Sim j k f := mt_jleaf (fun _ => smt149_0 k) (mt_none)
set_option maxRecDepth 100000 in
theorem smtj_188 (j k : Nat) : ∀ f, mtj_188 j k = some f → mo_Sim j k f := mt_jleaf (fun _ => smt150_0 k) (mt_jleaf (fun _ => smt151_0 k) (mt_none))
set_option maxRecDepth 100000 in
theorem smtj_186 (j k : Nat) : ∀ f, mtj_186 j k = some f → mo_Sim j k f := mt_jnode (smtj_187 j k) (smtj_188 j k)
set_option maxRecDepth 100000 in
theorem smtj_190 (j k : Nat) : ∀ f, mtj_190 j k = some f → mo_Sim j k f := mt_jleaf (fun _ => smt152_0 k) (mt_jleaf (fun _ => smt153_0 k) (mt_none))
set_option maxRecDepth 100000 in
theorem smtj_191 (j k : Nat) : ∀ f, mtj_191 j k = some f → mo_Sim j k f := mt_jleaf (fun _ => smt154_0 k) (mt_jleaf (fun _ => smt155_0 k) (mt_none))
set_option maxRecDepth 100000 in
theorem smtj_189 (j k : Nat) : ∀ f, mtj_189 j k = some f → mo_Sim j k f := mt_jnode (smtj_190 j k) (smtj_191 j k)
set_option maxRecDepth 100000 in
theorem smtj_185 (j k : Nat) : ∀ f, mtj_185 j k = some f → mo_Sim j k f := mt_jnode (smtj_186 j k) (smtj_189 j k)
set_option maxRecDepth 100000 in
theorem smtj_177 (j k : Nat) : ∀ f, mtj_177 j k = some f → mo_Sim j k f := mt_jnode (smtj_178 j k) (smtj_185 j k)
set_option maxRecDepth 100000 in
theorem smtj_161 (j k : Nat) : ∀ f, mtj_161 j k = some f → mo_Sim j k f := mt_jnode (smtj_162 j k) (smtj_177 j k)
set_option maxRecDepth 100000 in
theorem smtj_129 (j k : Nat) : ∀ f, mtj_129 j k = some f → mo_Sim j k f := mt_jnode (smtj_130 j k) (smtj_161 j k)
set_option maxRecDepth 100000 in
theorem smtj_197 (j k : Nat) : ∀ f, mtj_197 j k = some f → mo_Sim j k f := mt_jleaf (fun _ => smt156_0 k) (mt_none)
set_option maxRecDepth 100000 in
theorem smtj_198 (j k : Nat) : ∀ f, mtj_198 j k = some f → mo_Sim j k f := mt_jleaf (fun _ => smt157_0 k) (mt_jleaf (fun _ => smt158_0 k) (mt_none))
set_option maxRecDepth 100000 in
theorem smtj_196 (j k : Nat) : ∀ f, mtj_196 j k = some f → mo_Sim j k f := mt_jnode (smtj_197 j k) (smtj_198 j k)
set_option maxRecDepth 100000 in
theorem smtj_200 (j k : Nat) : ∀ f, mtj_200 j k = some f → mo_Sim j k f := mt_jleaf (fun _ => smt159_0 k) (mt_none)
set_option maxRecDepth 100000 in
theorem smtj_201 (j k : Nat) : ∀ f, mtj_201 j k = some f → mo_Sim j k f := mt_jleaf (fun _ => smt160_0 k) (mt_jleaf (fun _ => smt161_0 k) (mt_none))
set_option maxRecDepth 100000 in
theorem smtj_199 (j k : Nat) : ∀ f, mtj_199 j k = some f → mo_Sim j k f := mt_jnode (smtj_200 j k) (smtj_201 j k)
set_option maxRecDepth 100000 in
theorem smtj_195 (j k : Nat) : ∀ f, mtj_195 j k = some f → mo_Sim j k f := mt_jnode (smtj_196 j k) (smtj_199 j k)
set_option maxRecDepth 100000 in
theorem smtj_204 (j k : Nat) : ∀ f, mtj_204 j k = some f → mo_Sim j k f := mt_jleaf (fun _ => smt162_0 k) (mt_none)
set_option maxRecDepth 100000 in
theorem smtj_205 (j k : Nat) : ∀ f, mtj_205 j k = some f → mo_Sim j k f := mt_jleaf (fun _ => smt163_0 k) (mt_jleaf (fun _ => smt164_0 k) (mt_none))
set_option maxRecDepth 100000 in
theorem smtj_203 (j k : Nat) : ∀ f, mtj_203 j k = some f → mo_Sim j k f := mt_jnode (smtj_204 j k) (smtj_205 j k)
set_option maxRecDepth 100000 in
theorem smtj_207 (j k : Nat) : ∀ f, mtj_207 j k = some f → mo_Sim j k f := mt_jleaf (fun _ => smt165_0 k) (mt_jleaf (fun _ => smt166_0 k) (mt_none))
set_option maxRecDepth 100000 in
theorem smtj_208 (j k : Nat) : ∀ f, mtj_208 j k = some f → mo_Sim j k f := mt_jleaf (fun _ => smt167_0 k) (mt_jleaf (fun _ => smt168_0 k) (mt_none))
set_option maxRecDepth 100000 in
theorem smtj_206 (j k : Nat) : ∀ f, mtj_206 j k = some f → mo_Sim j k f := mt_jnode (smtj_207 j k) (smtj_208 j k)
set_option maxRecDepth 100000 in
theorem smtj_202 (j k : Nat) : ∀ f, mtj_202 j k = some f → mo_Sim j k f := mt_jnode (smtj_203 j k) (smtj_206 j k)
set_option maxRecDepth 100000 in
theorem smtj_194 (j k : Nat) : ∀ f, mtj_194 j k = some f → mo_Sim j k f := mt_jnode (smtj_195 j k) (smtj_202 j k)
set_option maxRecDepth 100000 in
theorem smtj_212 (j k : Nat) : ∀ f, mtj_212 j k = some f → mo_Sim j k f := mt_jleaf (fun _ => smt169_0 k) (mt_none)
set_option maxRecDepth 100000 in
theorem smtj_213 (j k : Nat) : ∀ f, mtj_213 j k = some f → mo_Sim j k f := mt_jleaf (fun _ => smt170_0 k) (mt_jleaf (fun _ => smt171_0 k) (mt_none))
set_option maxRecDepth 100000 in
theorem smtj_211 (j k : Nat) : ∀ f, mtj_211 j k = some f → mo_Sim j k f := mt_jnode (smtj_212 j k) (smtj_213 j k)
set_option maxRecDepth 100000 in
theorem smtj_215 (j k : Nat) : ∀ f, mtj_215 j k = some f → mo_Sim j k f := mt_jleaf (fun _ => smt172_0 k) (mt_none)
set_option maxRecDepth 100000 in
theorem smtj_216 (j k : Nat) : ∀ f, mtj_216 j k = some f → mo_Sim j k f := mt_jleaf (fun _ => smt173_0 k) (mt_jleaf (fun _ => smt174_0 k) (mt_none))
set_option maxRecDepth 100000 in
theorem smtj_214 (j k : Nat) : ∀ f, mtj_214 j k = some f → mo_Sim j k f := mt_jnode (smtj_215 j k) (smtj_216 j k)
set_option maxRecDepth 100000 in
theorem smtj_210 (j k : Nat) : ∀ f, mtj_210 j k = some f → mo_Sim j k f := mt_jnode (smtj_211 j k) (smtj_214 j k)
set_option maxRecDepth 100000 in
theorem smtj_219 (j k : Nat) : ∀ f, mtj_219 j k = some f → mo_Sim j k f := mt_jleaf (fun _ => smt175_0 k) (mt_none)
set_option maxRecDepth 100000 in
theorem smtj_220 (j k : Nat) : ∀ f, mtj_220 j k = some f → mo_Sim j k f := mt_jleaf (fun _ => smt176_0 k) (mt_jleaf (fun _ => smt177_0 k) (mt_none))
set_option maxRecDepth 100000 in
theorem smtj_218 (j k : Nat) : ∀ f, mtj_218 j k = some f → mo_Sim j k f := mt_jnode (smtj_219 j k) (smtj_220 j k)
set_option maxRecDepth 100000 in
theorem smtj_222 (j k : Nat) : ∀ f, mtj_222 j k = some f → mo_Sim j k f := mt_jleaf (fun _ => smt178_0 k) (mt_jleaf (fun _ => smt179_0 k) (mt_none))
set_option maxRecDepth 100000 in
theorem smtj_223 (j k : Nat) : ∀ f, mtj_223 j k = some f → mo_Sim j k f := mt_jleaf (fun _ => smt180_0 k) (mt_jleaf (fun _ => smt181_0 k) (mt_none))
set_option maxRecDepth 100000 in
theorem smtj_221 (j k : Nat) : ∀ f, mtj_221 j k = some f → mo_Sim j k f := mt_jnode (smtj_222 j k) (smtj_223 j k)
set_option maxRecDepth 100000 in
theorem smtj_217 (j k : Nat) : ∀ f, mtj_217 j k = some f → mo_Sim j k f := mt_jnode (smtj_218 j k) (smtj_221 j k)
set_option maxRecDepth 100000 in
theorem smtj_209 (j k : Nat) : ∀ f, mtj_209 j k = some f → mo_Sim j k f := mt_jnode (smtj_210 j k) (smtj_217 j k)
set_option maxRecDepth 100000 in
theorem smtj_193 (j k : Nat) : ∀ f, mtj_193 j k = some f → mo_Sim j k f := mt_jnode (smtj_194 j k) (smtj_209 j k)
set_option maxRecDepth 100000 in
theorem smtj_228 (j k : Nat) : ∀ f, mtj_228 j k = some f → mo_Sim j k f := mt_jleaf (fun _ => smt182_0 k) (mt_none)
set_option maxRecDepth 100000 in
theorem smtj_229 (j k : Nat) : ∀ f, mtj_229 j k = some f → mo_Sim j k f := mt_jleaf (fun _ => smt183_0 k) (mt_jleaf (fun _ => smt184_0 k) (mt_none))
set_option maxRecDepth 100000 in
theorem smtj_227 (j k : Nat) : ∀ f, mtj_227 j k = some f → mo_Sim j k f := mt_jnode (smtj_228 j k) (smtj_229 j k)
set_option maxRecDepth 100000 in
theorem smtj_231 (j k : Nat) : ∀ f, mtj_231 j k = some f → mo_Sim j k f := mt_jleaf (fun _ => smt185_0 k) (mt_none)
set_option maxRecDepth 100000 in
theorem smtj_232 (j k : Nat) : ∀ f, mtj_232 j k = some f → mo_Sim j k f := mt_jleaf (fun _ => smt186_0 k) (mt_jleaf (fun _ => smt187_0 k) (mt_none))
set_option maxRecDepth 100000 in
theorem smtj_230 (j k : Nat) : ∀ f, mtj_230 j k = some f → mo_Sim j k f := mt_jnode (smtj_231 j k) (smtj_232 j k)
set_option maxRecDepth 100000 in
theorem smtj_226 (j k : Nat) : ∀ f, mtj_226 j k = some f → mo_Sim j k f := mt_jnode (smtj_227 j k) (smtj_230 j k)
set_option maxRecDepth 100000 in
theorem smtj_235 (j k : Nat) : ∀ f, mtj_235 j k = some f → mo_Sim j k f := mt_jleaf (fun _ => smt188_0 k) (mt_none)
set_option maxRecDepth 100000 in
theorem smtj_236 (j k : Nat) : ∀ f, mtj_236 j k = some f → mo_Sim j k f := mt_jleaf (fun _ => smt189_0 k) (mt_jleaf (fun _ => smt190_0 k) (mt_none))
set_option maxRecDepth 100000 in
theorem smtj_234 (j k : Nat) : ∀ f, mtj_234 j k = some f → mo_Sim j k f := mt_jnode (smtj_235 j k) (smtj_236 j k)
set_option maxRecDepth 100000 in
theorem smtj_238 (j k : Nat) : ∀ f, mtj_238 j k = some f → mo_Sim j k f := mt_jleaf (fun _ => smt191_0 k) (mt_jleaf (fun _ => smt192_0 k) (mt_none))
set_option maxRecDepth 100000 in
theorem smtj_239 (j k : Nat) : ∀ f, mtj_239 j k = some f → mo_Sim j k f := mt_jleaf (fun _ => smt193_0 k) (mt_jleaf (fun _ => smt194_0 k) (mt_none))
set_option maxRecDepth 100000 in
theorem smtj_237 (j k : Nat) : ∀ f, mtj_237 j k = some f → mo_Sim j k f := mt_jnode (smtj_238 j k) (smtj_239 j k)
set_option maxRecDepth 100000 in
theorem smtj_233 (j k : Nat) : ∀ f, mtj_233 j k = some f → mo_Sim j k f := mt_jnode (smtj_234 j k) (smtj_237 j k)
set_option maxRecDepth 100000 in
theorem smtj_225 (j k : Nat) : ∀ f, mtj_225 j k = some f → mo_Sim j k f := mt_jnode (smtj_226 j k) (smtj_233 j k)
set_option maxRecDepth 100000 in
theorem smtj_243 (j k : Nat) : ∀ f, mtj_243 j k = some f → mo_Sim j k f := mt_jleaf (fun _ => smt195_0 k) (mt_none)
set_option maxRecDepth 100000 in
theorem smtj_244 (j k : Nat) : ∀ f, mtj_244 j k = some f → mo_Sim j k f := mt_jleaf (fun _ => smt196_0 k) (mt_jleaf (fun _ => smt197_0 k) (mt_none))
set_option maxRecDepth 100000 in
theorem smtj_242 (j k : Nat) : ∀ f, mtj_242 j k = some f → mo_Sim j k f := mt_jnode (smtj_243 j k) (smtj_244 j k)
set_option maxRecDepth 100000 in
theorem smtj_246 (j k : Nat) : ∀ f, mtj_246 j k = some f → mo_Sim j k f := mt_jleaf (fun _ => smt198_0 k) (mt_jleaf (fun _ => smt199_0 k) (mt_none))
set_option maxRecDepth 100000 in
theorem smtj_247 (j k : Nat) : ∀ f, mtj_247 j k = some f → mo_Sim j k f := mt_jleaf (fun _ => smt200_0 k) (mt_jleaf (fun _ => smt201_0 k) (mt_none))
set_option maxRecDepth 100000 in
theorem smtj_245 (j k : Nat) : ∀ f, mtj_245 j k = some f → mo_Sim j k f := mt_jnode (smtj_246 j k) (smtj_247 j k)
set_option maxRecDepth 100000 in
theorem smtj_241 (j k : Nat) : ∀ f, mtj_241 j k = some f → mo_Sim j k f := mt_jnode (smtj_242 j k) (smtj_245 j k)
set_option maxRecDepth 100000 in
theorem smtj_250 (j k : Nat) : ∀ f, mtj_250 j k = some f → mo_Sim j k f := mt_jleaf (fun _ => smt202_0 k) (mt_none)
set_option maxRecDepth 100000 in
theorem smtj_251 (j k : Nat) : ∀ f, mtj_251 j k = some f → mo_Sim j k f := mt_jleaf (fun _ => smt203_0 k) (mt_jleaf (fun _ => smt204_0 k) (mt_none))
set_option maxRecDepth 100000 in
theorem smtj_249 (j k : Nat) : ∀ f, mtj_249 j k = some f → mo_Sim j k f := mt_jnode (smtj_250 j k) (smtj_251 j k)
set_option maxRecDepth 100000 in
theorem smtj_253 (j k : Nat) : ∀ f, mtj_253 j k = some f → mo_Sim j k f := mt_jleaf (fun _ => smt205_0 k) (mt_jleaf (fun _ => smt206_0 k) (mt_none))
set_option maxRecDepth 100000 in
theorem smtj_254 (j k : Nat) : ∀ f, mtj_254 j k = some f → mo_Sim j k f := mt_jleaf (fun _ => smt207_0 k) (mt_jleaf (fun _ => smt208_0 k) (mt_none))
set_option maxRecDepth 100000 in
theorem smtj_252 (j k : Nat) : ∀ f, mtj_252 j k = some f → mo_Sim j k f := mt_jnode (smtj_253 j k) (smtj_254 j k)
set_option maxRecDepth 100000 in
theorem smtj_248 (j k : Nat) : ∀ f, mtj_248 j k = some f → mo_Sim j k f := mt_jnode (smtj_249 j k) (smtj_252 j k)
set_option maxRecDepth 100000 in
theorem smtj_240 (j k : Nat) : ∀ f, mtj_240 j k = some f → mo_Sim j k f := mt_jnode (smtj_241 j k) (smtj_248 j k)
set_option maxRecDepth 100000 in
theorem smtj_224 (j k : Nat) : ∀ f, mtj_224 j k = some f → mo_Sim j k f := mt_jnode (smtj_225 j k) (smtj_240 j k)
set_option maxRecDepth 100000 in
theorem smtj_192 (j k : Nat) : ∀ f, mtj_192 j k = some f → mo_Sim j k f := mt_jnode (smtj_193 j k) (smtj_224 j k)
set_option maxRecDepth 100000 in
theorem smtj_128 (j k : Nat) : ∀ f, mtj_128 j k = some f → mo_Sim j k f := mt_jnode (smtj_129 j k) (smtj_192 j k)
set_option maxRecDepth 100000 in
theorem smtj_0 (j k : Nat) : ∀ f, mtj_0 j k = some f → mo_Sim j k f := mt_jnode (smtj_1 j k) (smtj_128 j k)
set_option maxRecDepth 100000 in
theorem ma_mt_ok (j k : Nat) : ∀ f, ma_mt j k = some f → mo_Sim j k f := smtj_0 j k
