set_option maxRecDepth 100000 in
theorem mo_bl_0 (rs : List Int) : mo_c rs (.inl [ma_ci (.ofNat 0), ma_ci (.ofNat 0), ma_null, ma_null]) (mj_blank 0).2 := by
  show mo_vs rs [ma_ci (.ofNat 0), ma_ci (.ofNat 0), ma_null, ma_null] [.int 0, .int 0, .null, .null]
  exact ⟨⟨0, rfl, rfl⟩, ⟨0, rfl, rfl⟩, rfl, rfl, trivial⟩
set_option maxRecDepth 100000 in
theorem mo_bl_1 (rs : List Int) : mo_c rs (.inl [ma_ci (.ofNat 0), ma_ci (.ofNat 0), ma_null, ma_null, ma_null]) (mj_blank 1).2 := by
  show mo_vs rs [ma_ci (.ofNat 0), ma_ci (.ofNat 0), ma_null, ma_null, ma_null] [.int 0, .int 0, .null, .null, .null]
  exact ⟨⟨0, rfl, rfl⟩, ⟨0, rfl, rfl⟩, rfl, rfl, rfl, trivial⟩
set_option maxRecDepth 100000 in
theorem mo_bl_2 (rs : List Int) : mo_c rs (.inl [ma_ci (.ofNat 0), ma_ci (.ofNat 0), ma_ci (.ofNat 0), ma_ci (.ofNat 0), ma_null, ma_ci (.ofNat 0)]) (mj_blank 2).2 := by
  show mo_vs rs [ma_ci (.ofNat 0), ma_ci (.ofNat 0), ma_ci (.ofNat 0), ma_ci (.ofNat 0), ma_null, ma_ci (.ofNat 0)] [.int 0, .int 0, .int 0, .int 0, .null, .int 0]
  exact ⟨⟨0, rfl, rfl⟩, ⟨0, rfl, rfl⟩, ⟨0, rfl, rfl⟩, ⟨0, rfl, rfl⟩, rfl, ⟨0, rfl, rfl⟩, trivial⟩
set_option maxRecDepth 100000 in
theorem mo_bl_3 (rs : List Int) : mo_c rs (.inl [ma_null, ma_ci (.ofNat 0)]) (mj_blank 3).2 := by
  show mo_vs rs [ma_null, ma_ci (.ofNat 0)] [.null, .int 0]
  exact ⟨rfl, ⟨0, rfl, rfl⟩, trivial⟩
set_option maxRecDepth 100000 in
theorem mo_bl_4 (rs : List Int) : mo_c rs (.inl [ma_ci (.ofNat 0), ma_ci (.ofNat 0), ma_ci (.ofNat 0), ma_ci (.ofNat 0), ma_null]) (mj_blank 4).2 := by
  show mo_vs rs [ma_ci (.ofNat 0), ma_ci (.ofNat 0), ma_ci (.ofNat 0), ma_ci (.ofNat 0), ma_null] [.int 0, .int 0, .int 0, .int 0, .null]
  exact ⟨⟨0, rfl, rfl⟩, ⟨0, rfl, rfl⟩, ⟨0, rfl, rfl⟩, ⟨0, rfl, rfl⟩, rfl, trivial⟩
set_option maxRecDepth 100000 in
theorem mo_bl_5 (rs : List Int) : mo_c rs (.inl [ma_null, ma_ci (.ofNat 0), ma_ci (.ofNat 0), ma_ci (.ofNat 0)]) (mj_blank 5).2 := by
  show mo_vs rs [ma_null, ma_ci (.ofNat 0), ma_ci (.ofNat 0), ma_ci (.ofNat 0)] [.null, .int 0, .int 0, .int 0]
  exact ⟨rfl, ⟨0, rfl, rfl⟩, ⟨0, rfl, rfl⟩, ⟨0, rfl, rfl⟩, trivial⟩
set_option maxRecDepth 100000 in
theorem mo_bl_6 (rs : List Int) : mo_c rs (.inl [ma_ci (.ofNat 0), ma_ci (.ofNat 0), ma_ci (.ofNat 0), ma_null, ma_null]) (mj_blank 6).2 := by
  show mo_vs rs [ma_ci (.ofNat 0), ma_ci (.ofNat 0), ma_ci (.ofNat 0), ma_null, ma_null] [.int 0, .int 0, .int 0, .null, .null]
  exact ⟨⟨0, rfl, rfl⟩, ⟨0, rfl, rfl⟩, ⟨0, rfl, rfl⟩, rfl, rfl, trivial⟩
set_option maxRecDepth 100000 in
theorem mo_bl_7 (rs : List Int) : mo_c rs (.inl [ma_null, ma_null, ma_null, ma_null, ma_null, ma_null, ma_null, ma_null, ma_null, ma_null, ma_ci (.ofNat 0), ma_ci (.ofNat 0)]) (mj_blank 7).2 := by
  show mo_vs rs [ma_null, ma_null, ma_null, ma_null, ma_null, ma_null, ma_null, ma_null, ma_null, ma_null, ma_ci (.ofNat 0), ma_ci (.ofNat 0)] [.null, .null, .null, .null, .null, .null, .null, .null, .null, .null, .int 0, .int 0]
  exact ⟨rfl, rfl, rfl, rfl, rfl, rfl, rfl, rfl, rfl, rfl, ⟨0, rfl, rfl⟩, ⟨0, rfl, rfl⟩, trivial⟩
set_option maxRecDepth 100000 in
theorem mo_bl_8 (rs : List Int) : mo_c rs (.inl [ma_null, ma_null, ma_null, ma_null, ma_null, ma_ci (.ofNat 0), ma_ci (.ofNat 0), ma_ci (.ofNat 0)]) (mj_blank 8).2 := by
  show mo_vs rs [ma_null, ma_null, ma_null, ma_null, ma_null, ma_ci (.ofNat 0), ma_ci (.ofNat 0), ma_ci (.ofNat 0)] [.null, .null, .null, .null, .null, .int 0, .int 0, .int 0]
  exact ⟨rfl, rfl, rfl, rfl, rfl, ⟨0, rfl, rfl⟩, ⟨0, rfl, rfl⟩, ⟨0, rfl, rfl⟩, trivial⟩
set_option maxRecDepth 100000 in
theorem mo_bl_9 (rs : List Int) : mo_c rs (.inl [ma_ci (.ofNat 0), ma_ci (.ofNat 0), ma_null, ma_null, ma_null, ma_null, ma_null]) (mj_blank 9).2 := by
  show mo_vs rs [ma_ci (.ofNat 0), ma_ci (.ofNat 0), ma_null, ma_null, ma_null, ma_null, ma_null] [.int 0, .int 0, .null, .null, .null, .null, .null]
  exact ⟨⟨0, rfl, rfl⟩, ⟨0, rfl, rfl⟩, rfl, rfl, rfl, rfl, rfl, trivial⟩
set_option maxRecDepth 100000 in
theorem mo_bl_10 (rs : List Int) : mo_c rs (.inl [ma_null, ma_null, ma_null]) (mj_blank 10).2 := by
  show mo_vs rs [ma_null, ma_null, ma_null] [.null, .null, .null]
  exact ⟨rfl, rfl, rfl, trivial⟩
set_option maxRecDepth 100000 in
theorem mo_bl_11 (rs : List Int) : mo_c rs (.inl [ma_null, ma_null, ma_null, ma_null, ma_null, ma_null, ma_null, ma_null, ma_null, ma_null, ma_null, ma_null, ma_null, ma_null, ma_ci (.ofNat 0), ma_ci (.ofNat 0), ma_ci (.ofNat 0), ma_ci (.ofNat 0), ma_ci (.ofNat 0)]) (mj_blank 11).2 := by
  show mo_vs rs [ma_null, ma_null, ma_null, ma_null, ma_null, ma_null, ma_null, ma_null, ma_null, ma_null, ma_null, ma_null, ma_null, ma_null, ma_ci (.ofNat 0), ma_ci (.ofNat 0), ma_ci (.ofNat 0), ma_ci (.ofNat 0), ma_ci (.ofNat 0)] [.null, .null, .null, .null, .null, .null, .null, .null, .null, .null, .null, .null, .null, .null, .int 0, .int 0, .int 0, .int 0, .int 0]
  exact ⟨rfl, rfl, rfl, rfl, rfl, rfl, rfl, rfl, rfl, rfl, rfl, rfl, rfl, rfl, ⟨0, rfl, rfl⟩, ⟨0, rfl, rfl⟩, ⟨0, rfl, rfl⟩, ⟨0, rfl, rfl⟩, ⟨0, rfl, rfl⟩, trivial⟩
set_option maxRecDepth 100000 in
theorem mo_bl_12 (rs : List Int) : mo_c rs (.inl [ma_ci (.ofNat 0), ma_null, ma_null, ma_null, ma_ci (.ofNat 0), ma_null, ma_null, ma_ci (.ofNat 0), ma_null, ma_null, ma_ci (.ofNat 0), ma_ci (.ofNat 0), ma_null, ma_null, ma_null, ma_null, ma_null, ma_null, ma_null, ma_null, ma_ci (.ofNat 0), ma_ci (.ofNat 0), ma_ci (.ofNat 0), ma_null, ma_null]) (mj_blank 12).2 := by
  show mo_vs rs [ma_ci (.ofNat 0), ma_null, ma_null, ma_null, ma_ci (.ofNat 0), ma_null, ma_null, ma_ci (.ofNat 0), ma_null, ma_null, ma_ci (.ofNat 0), ma_ci (.ofNat 0), ma_null, ma_null, ma_null, ma_null, ma_null, ma_null, ma_null, ma_null, ma_ci (.ofNat 0), ma_ci (.ofNat 0), ma_ci (.ofNat 0), ma_null, ma_null] [.int 0, .null, .null, .null, .int 0, .null, .null, .int 0, .null, .null, .int 0, .int 0, .null, .null, .null, .null, .null, .null, .null, .null, .int 0, .int 0, .int 0, .null, .null]
  exact ⟨⟨0, rfl, rfl⟩, rfl, rfl, rfl, ⟨0, rfl, rfl⟩, rfl, rfl, ⟨0, rfl, rfl⟩, rfl, rfl, ⟨0, rfl, rfl⟩, ⟨0, rfl, rfl⟩, rfl, rfl, rfl, rfl, rfl, rfl, rfl, rfl, ⟨0, rfl, rfl⟩, ⟨0, rfl, rfl⟩, ⟨0, rfl, rfl⟩, rfl, rfl, trivial⟩
set_option maxRecDepth 100000 in
theorem smt0_8 (k : Nat) : ∀ f, mt0_8 k = some f → mo_Sim 0 k f := mt_leaf (ms_newo (e := (.new 7, 3, 11, 0, 93)) rfl rfl (fun _ _ _ => rfl) rfl mo_bl_11 : mo_Sim 0 0 (ma_new (11, .inl [ma_null, ma_null, ma_null, ma_null, ma_null, ma_null, ma_null, ma_null, ma_null, ma_null, ma_null, ma_null, ma_null, ma_null, ma_ci (.ofNat 0), ma_ci (.ofNat 0), ma_ci (.ofNat 0), ma_ci (.ofNat 0), ma_ci (.ofNat 0)]) 3)) (mt_leaf (ms_dup (e := (.dup, 4, 0, 0, 0)) rfl (fun _ _ _ => rfl) : mo_Sim 0 3 (ma_dup 4)) (mt_none))
set_option maxRecDepth 100000 in
theorem smt0_9 (k : Nat) : ∀ f, mt0_9 k = some f → mo_Sim 0 k f := mt_leaf (ms_invI (p := 0) (e := (.invokespecial 9, 7, 92, 2, 95)) rfl rfl (fun _ _ _ => rfl) rfl rfl : mo_Sim 0 4 (ma_inv 92 1 2 21 7)) (mt_leaf (ms_ast0 (e := (.astore_n 1, 8, 0, 0, 0)) rfl (fun _ _ _ => rfl) : mo_Sim 0 7 (ma_sta 1 8)) (mt_leaf (ms_newo (e := (.new 10, 11, 12, 0, 1046)) rfl rfl (fun _ _ _ => rfl) rfl mo_bl_12 : mo_Sim 0 8 (ma_new (12, .inl [ma_ci (.ofNat 0), ma_null, ma_null, ma_null, ma_ci (.ofNat 0), ma_null, ma_null, ma_ci (.ofNat 0), ma_null, ma_null, ma_ci (.ofNat 0), ma_ci (.ofNat 0), ma_null, ma_null, ma_null, ma_null, ma_null, ma_null, ma_null, ma_null, ma_ci (.ofNat 0), ma_ci (.ofNat 0), ma_ci (.ofNat 0), ma_null, ma_null]) 11)) (mt_none)))
set_option maxRecDepth 100000 in
theorem smt0_7 (k : Nat) : ∀ f, mt0_7 k = some f → mo_Sim 0 k f := mt_node (smt0_8 k) (smt0_9 k)
set_option maxRecDepth 100000 in
theorem smt0_11 (k : Nat) : ∀ f, mt0_11 k = some f → mo_Sim 0 k f := mt_leaf (ms_dup (e := (.dup, 12, 0, 0, 0)) rfl (fun _ _ _ => rfl) : mo_Sim 0 11 (ma_dup 12)) (mt_leaf (ms_invI (p := 0) (e := (.invokespecial 12, 15, 139, 2, 1048)) rfl rfl (fun _ _ _ => rfl) rfl rfl : mo_Sim 0 12 (ma_inv 139 1 1 21 15)) (mt_none))
set_option maxRecDepth 100000 in
theorem smt0_12 (k : Nat) : ∀ f, mt0_12 k = some f → mo_Sim 0 k f := mt_leaf (ms_ast0 (e := (.astore_n 2, 16, 0, 0, 0)) rfl (fun _ _ _ => rfl) : mo_Sim 0 15 (ma_sta 2 16)) (mt_leaf (ms_pushi (e := (.iconst 0, 17, 0, 0, 0)) rfl (fun _ _ _ => rfl) (by decide) : mo_Sim 0 16 (ma_push (ma_ci (.ofNat 0)) 17)) (mt_leaf (ms_ist (e := (.istore_n 3, 18, 0, 0, 0)) rfl (fun _ _ _ => rfl) : mo_Sim 0 17 (ma_stor 0 3 18)) (mt_none)))
set_option maxRecDepth 100000 in
theorem smt0_10 (k : Nat) : ∀ f, mt0_10 k = some f → mo_Sim 0 k f := mt_node (smt0_11 k) (smt0_12 k)
set_option maxRecDepth 100000 in
theorem smt0_6 (k : Nat) : ∀ f, mt0_6 k = some f → mo_Sim 0 k f := mt_node (smt0_7 k) (smt0_10 k)
set_option maxRecDepth 100000 in
theorem smt0_15 (k : Nat) : ∀ f, mt0_15 k = some f → mo_Sim 0 k f := mt_leaf (ms_ild (e := (.iload_n 3, 19, 0, 0, 0)) rfl (fun _ _ _ => rfl) : mo_Sim 0 18 (ma_load 0 3 19)) (mt_leaf (ms_ald (e := (.aload_n 0, 20, 0, 0, 0)) rfl (fun _ _ _ => rfl) : mo_Sim 0 19 (ma_lda 0 20)) (mt_none))
set_option maxRecDepth 100000 in
theorem smt0_16 (k : Nat) : ∀ f, mt0_16 k = some f → mo_Sim 0 k f := mt_leaf (ms_alen (e := (.arraylength, 21, 0, 0, 0)) rfl (fun _ _ _ => rfl) : mo_Sim 0 20 (ma_alen 21)) (mt_leaf (ms_pushi (e := (.iconst 5, 22, 0, 0, 0)) rfl (fun _ _ _ => rfl) (by decide) : mo_Sim 0 21 (ma_push (ma_ci (.ofNat 5)) 22)) (mt_leaf (ms_isub (e := (.isub, 23, 0, 0, 0)) rfl (fun _ _ _ => rfl) : mo_Sim 0 22 (ma_isub 22 23)) (mt_none)))
set_option maxRecDepth 100000 in
theorem smt0_14 (k : Nat) : ∀ f, mt0_14 k = some f → mo_Sim 0 k f := mt_node (smt0_15 k) (smt0_16 k)
set_option maxRecDepth 100000 in
theorem smt0_18 (k : Nat) : ∀ f, mt0_18 k = some f → mo_Sim 0 k f := mt_leaf (ms_if2 (e := (.if_icmp .gt 977, 26, 1000, 0, 0)) rfl (fun _ _ _ => rfl) : mo_Sim 0 23 (ma_if2 .gt 1000 23 26)) (mt_leaf (ms_ald (e := (.aload_n 0, 27, 0, 0, 0)) rfl (fun _ _ _ => rfl) : mo_Sim 0 26 (ma_lda 0 27)) (mt_leaf (ms_ild (e := (.iload_n 3, 28, 0, 0, 0)) rfl (fun _ _ _ => rfl) : mo_Sim 0 27 (ma_load 0 3 28)) (mt_none)))
set_option maxRecDepth 100000 in
theorem smt0_19 (k : Nat) : ∀ f, mt0_19 k = some f → mo_Sim 0 k f := mt_leaf (ms_iald (e := (.iaload, 29, 0, 0, 0)) rfl (fun _ _ _ => rfl) : mo_Sim 0 28 (ma_iald 28 29)) (mt_leaf (ms_pushi (e := (.bipush 31, 31, 0, 0, 0)) rfl (fun _ _ _ => rfl) (by decide) : mo_Sim 0 29 (ma_push (ma_ci (.ofNat 31)) 31)) (mt_leaf (ms_iand (e := (.iand, 32, 0, 0, 0)) rfl (fun _ _ _ => rfl) : mo_Sim 0 31 (ma_iand 31 32)) (mt_none)))
set_option maxRecDepth 100000 in
theorem smt0_17 (k : Nat) : ∀ f, mt0_17 k = some f → mo_Sim 0 k f := mt_node (smt0_18 k) (smt0_19 k)
set_option maxRecDepth 100000 in
theorem smt0_13 (k : Nat) : ∀ f, mt0_13 k = some f → mo_Sim 0 k f := mt_node (smt0_14 k) (smt0_17 k)
set_option maxRecDepth 100000 in
theorem smt0_5 (k : Nat) : ∀ f, mt0_5 k = some f → mo_Sim 0 k f := mt_node (smt0_6 k) (smt0_13 k)
set_option maxRecDepth 100000 in
theorem smt0_23 (k : Nat) : ∀ f, mt0_23 k = some f → mo_Sim 0 k f := mt_leaf (ms_isw (nx := 164) (e := (.tableswitch 962 0 28 #[132, 155, 198, 221, 294, 327, 360, 393, 417, 450, 474, 497, 520, 563, 596, 629, 672, 685, 708, 721, 744, 767, 780, 803, 856, 879, 892, 915, 939], 164, 0, 0, 0)) rfl (fun _ _ _ => rfl) (by decide) (by decide) (by decide) : mo_Sim 0 32 (ma_sw [164, 187, 230, 253, 326, 359, 392, 425, 449, 482, 506, 529, 552, 595, 628, 661, 704, 717, 740, 753, 776, 799, 812, 835, 888, 911, 924, 947, 971] 994 32)) (mt_leaf (ms_ald (e := (.aload_n 1, 165, 0, 0, 0)) rfl (fun _ _ _ => rfl) : mo_Sim 0 164 (ma_lda 1 165)) (mt_none))
set_option maxRecDepth 100000 in
theorem smt0_24 (k : Nat) : ∀ f, mt0_24 k = some f → mo_Sim 0 k f := mt_leaf (ms_ald (e := (.aload_n 0, 166, 0, 0, 0)) rfl (fun _ _ _ => rfl) : mo_Sim 0 165 (ma_lda 0 166)) (mt_leaf (ms_ild (e := (.iload_n 3, 167, 0, 0, 0)) rfl (fun _ _ _ => rfl) : mo_Sim 0 166 (ma_load 0 3 167)) (mt_leaf (ms_pushi (e := (.iconst 1, 168, 0, 0, 0)) rfl (fun _ _ _ => rfl) (by decide) : mo_Sim 0 167 (ma_push (ma_ci (.ofNat 1)) 168)) (mt_none)))
set_option maxRecDepth 100000 in
theorem smt0_22 (k : Nat) : ∀ f, mt0_22 k = some f → mo_Sim 0 k f := mt_node (smt0_23 k) (smt0_24 k)
set_option maxRecDepth 100000 in
theorem smt0_26 (k : Nat) : ∀ f, mt0_26 k = some f → mo_Sim 0 k f := mt_leaf (ms_iadd (e := (.iadd, 169, 0, 0, 0)) rfl (fun _ _ _ => rfl) : mo_Sim 0 168 (ma_iadd 168 169)) (mt_leaf (ms_iald (e := (.iaload, 170, 0, 0, 0)) rfl (fun _ _ _ => rfl) : mo_Sim 0 169 (ma_iald 169 170)) (mt_none))
set_option maxRecDepth 100000 in
theorem smt0_27 (k : Nat) : ∀ f, mt0_27 k = some f → mo_Sim 0 k f := mt_leaf (ms_invV (p := 1) (e := (.invokevirtual 13, 173, 93, 0, 518)) rfl rfl (fun _ _ _ => rfl) rfl rfl rfl (by decide) : mo_Sim 0 170 (ma_inv 93 2 2 11 173)) (mt_leaf (ms_ald (e := (.aload_n 2, 174, 0, 0, 0)) rfl (fun _ _ _ => rfl) : mo_Sim 0 173 (ma_lda 2 174)) (mt_leaf (ms_ald (e := (.aload_n 0, 175, 0, 0, 0)) rfl (fun _ _ _ => rfl) : mo_Sim 0 174 (ma_lda 0 175)) (mt_none)))
set_option maxRecDepth 100000 in
theorem smt0_25 (k : Nat) : ∀ f, mt0_25 k = some f → mo_Sim 0 k f := mt_node (smt0_26 k) (smt0_27 k)
set_option maxRecDepth 100000 in
theorem smt0_21 (k : Nat) : ∀ f, mt0_21 k = some f → mo_Sim 0 k f := mt_node (smt0_22 k) (smt0_25 k)
set_option maxRecDepth 100000 in
theorem smt0_30 (k : Nat) : ∀ f, mt0_30 k = some f → mo_Sim 0 k f := mt_leaf (ms_ild (e := (.iload_n 3, 176, 0, 0, 0)) rfl (fun _ _ _ => rfl) : mo_Sim 0 175 (ma_load 0 3 176)) (mt_leaf (ms_pushi (e := (.iconst 1, 177, 0, 0, 0)) rfl (fun _ _ _ => rfl) (by decide) : mo_Sim 0 176 (ma_push (ma_ci (.ofNat 1)) 177)) (mt_none))
set_option maxRecDepth 100000 in
theorem smt0_31 (k : Nat) : ∀ f, mt0_31 k = some f → mo_Sim 0 k f := mt_leaf (ms_iadd (e := (.iadd, 178, 0, 0, 0)) rfl (fun _ _ _ => rfl) : mo_Sim 0 177 (ma_iadd 177 178)) (mt_leaf (ms_iald (e := (.iaload, 179, 0, 0, 0)) rfl (fun _ _ _ => rfl) : mo_Sim 0 178 (ma_iald 178 179)) (mt_leaf (ms_invV (p := 1) (e := (.invokevirtual 17, 182, 142, 0, 1128)) rfl rfl (fun _ _ _ => rfl) rfl rfl rfl (by decide) : mo_Sim 0 179 (ma_inv 142 2 2 12 182)) (mt_none)))
set_option maxRecDepth 100000 in
theorem smt0_29 (k : Nat) : ∀ f, mt0_29 k = some f → mo_Sim 0 k f := mt_node (smt0_30 k) (smt0_31 k)
set_option maxRecDepth 100000 in
theorem smt0_33 (k : Nat) : ∀ f, mt0_33 k = some f → mo_Sim 0 k f := mt_leaf (ms_if2 (e := (.if_icmp .eq 812, 185, 994, 0, 0)) rfl (fun _ _ _ => rfl) : mo_Sim 0 182 (ma_if2 .eq 994 182 185)) (mt_leaf (ms_pushi (e := (.iconst 0, 186, 0, 0, 0)) rfl (fun _ _ _ => rfl) (by decide) : mo_Sim 0 185 (ma_push (ma_ci (.ofNat 0)) 186)) (mt_leaf (ms_ret (e := (.ireturn, 187, 0, 0, 0)) rfl (Or.inr (Or.inl ⟨rfl, rfl, (fun _ _ _ => rfl)⟩)) : mo_Sim 0 186 (ma_ret 1)) (mt_none)))
set_option maxRecDepth 100000 in
theorem smt0_34 (k : Nat) : ∀ f, mt0_34 k = some f → mo_Sim 0 k f := mt_leaf (ms_ald (e := (.aload_n 1, 188, 0, 0, 0)) rfl (fun _ _ _ => rfl) : mo_Sim 0 187 (ma_lda 1 188)) (mt_leaf (ms_ald (e := (.aload_n 0, 189, 0, 0, 0)) rfl (fun _ _ _ => rfl) : mo_Sim 0 188 (ma_lda 0 189)) (mt_leaf (ms_ild (e := (.iload_n 3, 190, 0, 0, 0)) rfl (fun _ _ _ => rfl) : mo_Sim 0 189 (ma_load 0 3 190)) (mt_none)))
set_option maxRecDepth 100000 in
theorem smt0_32 (k : Nat) : ∀ f, mt0_32 k = some f → mo_Sim 0 k f := mt_node (smt0_33 k) (smt0_34 k)
set_option maxRecDepth 100000 in
theorem smt0_28 (k : Nat) : ∀ f, mt0_28 k = some f → mo_Sim 0 k f := mt_node (smt0_29 k) (smt0_32 k)
set_option maxRecDepth 100000 in
theorem smt0_20 (k : Nat) : ∀ f, mt0_20 k = some f → mo_Sim 0 k f := mt_node (smt0_21 k) (smt0_28 k)
set_option maxRecDepth 100000 in
theorem smt0_4 (k : Nat) : ∀ f, mt0_4 k = some f → mo_Sim 0 k f := mt_node (smt0_5 k) (smt0_20 k)
set_option maxRecDepth 100000 in
theorem smt0_39 (k : Nat) : ∀ f, mt0_39 k = some f → mo_Sim 0 k f := mt_leaf (ms_pushi (e := (.iconst 1, 191, 0, 0, 0)) rfl (fun _ _ _ => rfl) (by decide) : mo_Sim 0 190 (ma_push (ma_ci (.ofNat 1)) 191)) (mt_leaf (ms_iadd (e := (.iadd, 192, 0, 0, 0)) rfl (fun _ _ _ => rfl) : mo_Sim 0 191 (ma_iadd 191 192)) (mt_none))
set_option maxRecDepth 100000 in
theorem smt0_40 (k : Nat) : ∀ f, mt0_40 k = some f → mo_Sim 0 k f := mt_leaf (ms_iald (e := (.iaload, 193, 0, 0, 0)) rfl (fun _ _ _ => rfl) : mo_Sim 0 192 (ma_iald 192 193)) (mt_leaf (ms_ald (e := (.aload_n 0, 194, 0, 0, 0)) rfl (fun _ _ _ => rfl) : mo_Sim 0 193 (ma_lda 0 194)) (mt_leaf (ms_ild (e := (.iload_n 3, 195, 0, 0, 0)) rfl (fun _ _ _ => rfl) : mo_Sim 0 194 (ma_load 0 3 195)) (mt_none)))
set_option maxRecDepth 100000 in
theorem smt0_38 (k : Nat) : ∀ f, mt0_38 k = some f → mo_Sim 0 k f := mt_node (smt0_39 k) (smt0_40 k)
set_option maxRecDepth 100000 in
theorem smt0_42 (k : Nat) : ∀ f, mt0_42 k = some f → mo_Sim 0 k f := mt_leaf (ms_pushi (e := (.iconst 2, 196, 0, 0, 0)) rfl (fun _ _ _ => rfl) (by decide) : mo_Sim 0 195 (ma_push (ma_ci (.ofNat 2)) 196)) (mt_leaf (ms_iadd (e := (.iadd, 197, 0, 0, 0)) rfl (fun _ _ _ => rfl) : mo_Sim 0 196 (ma_iadd 196 197)) (mt_none))
set_option maxRecDepth 100000 in
theorem smt0_43 (k : Nat) : ∀ f, mt0_43 k = some f → mo_Sim 0 k f := mt_leaf (ms_iald (e := (.iaload, 198, 0, 0, 0)) rfl (fun _ _ _ => rfl) : mo_Sim 0 197 (ma_iald 197 198)) (mt_leaf (ms_ald (e := (.aload_n 0, 199, 0, 0, 0)) rfl (fun _ _ _ => rfl) : mo_Sim 0 198 (ma_lda 0 199)) (mt_leaf (ms_ild (e := (.iload_n 3, 200, 0, 0, 0)) rfl (fun _ _ _ => rfl) : mo_Sim 0 199 (ma_load 0 3 200)) (mt_none)))
set_option maxRecDepth 100000 in
theorem smt0_41 (k : Nat) : ∀ f, mt0_41 k = some f → mo_Sim 0 k f := mt_node (smt0_42 k) (smt0_43 k)
set_option maxRecDepth 100000 in
theorem smt0_37 (k : Nat) : ∀ f, mt0_37 k = some f → mo_Sim 0 k f := mt_node (smt0_38 k) (smt0_41 k)
set_option maxRecDepth 100000 in
theorem smt0_46 (k : Nat) : ∀ f, mt0_46 k = some f → mo_Sim 0 k f := mt_leaf (ms_pushi (e := (.iconst 3, 201, 0, 0, 0)) rfl (fun _ _ _ => rfl) (by decide) : mo_Sim 0 200 (ma_push (ma_ci (.ofNat 3)) 201)) (mt_leaf (ms_iadd (e := (.iadd, 202, 0, 0, 0)) rfl (fun _ _ _ => rfl) : mo_Sim 0 201 (ma_iadd 201 202)) (mt_none))
set_option maxRecDepth 100000 in
theorem smt0_47 (k : Nat) : ∀ f, mt0_47 k = some f → mo_Sim 0 k f := mt_leaf (ms_iald (e := (.iaload, 203, 0, 0, 0)) rfl (fun _ _ _ => rfl) : mo_Sim 0 202 (ma_iald 202 203)) (mt_leaf (ms_invV (p := 3) (e := (.invokevirtual 18, 206, 94, 0, 522)) rfl rfl (fun _ _ _ => rfl) rfl rfl rfl (by decide) : mo_Sim 0 203 (ma_inv 94 4 4 11 206)) (mt_leaf (ms_ald (e := (.aload_n 2, 207, 0, 0, 0)) rfl (fun _ _ _ => rfl) : mo_Sim 0 206 (ma_lda 2 207)) (mt_none)))
set_option maxRecDepth 100000 in
theorem smt0_45 (k : Nat) : ∀ f, mt0_45 k = some f → mo_Sim 0 k f := mt_node (smt0_46 k) (smt0_47 k)
set_option maxRecDepth 100000 in
theorem smt0_49 (k : Nat) : ∀ f, mt0_49 k = some f → mo_Sim 0 k f := mt_leaf (ms_ald (e := (.aload_n 0, 208, 0, 0, 0)) rfl (fun _ _ _ => rfl) : mo_Sim 0 207 (ma_lda 0 208)) (mt_leaf (ms_ild (e := (.iload_n 3, 209, 0, 0, 0)) rfl (fun _ _ _ => rfl) : mo_Sim 0 208 (ma_load 0 3 209)) (mt_leaf (ms_pushi (e := (.iconst 1, 210, 0, 0, 0)) rfl (fun _ _ _ => rfl) (by decide) : mo_Sim 0 209 (ma_push (ma_ci (.ofNat 1)) 210)) (mt_none)))
set_option maxRecDepth 100000 in
theorem smt0_50 (k : Nat) : ∀ f, mt0_50 k = some f → mo_Sim 0 k f := mt_leaf (ms_iadd (e := (.iadd, 211, 0, 0, 0)) rfl (fun _ _ _ => rfl) : mo_Sim 0 210 (ma_iadd 210 211)) (mt_leaf (ms_iald (e := (.iaload, 212, 0, 0, 0)) rfl (fun _ _ _ => rfl) : mo_Sim 0 211 (ma_iald 211 212)) (mt_leaf (ms_ald (e := (.aload_n 0, 213, 0, 0, 0)) rfl (fun _ _ _ => rfl) : mo_Sim 0 212 (ma_lda 0 213)) (mt_none)))
set_option maxRecDepth 100000 in
theorem smt0_48 (k : Nat) : ∀ f, mt0_48 k = some f → mo_Sim 0 k f := mt_node (smt0_49 k) (smt0_50 k)
set_option maxRecDepth 100000 in
theorem smt0_44 (k : Nat) : ∀ f, mt0_44 k = some f → mo_Sim 0 k f := mt_node (smt0_45 k) (smt0_48 k)
set_option maxRecDepth 100000 in
theorem smt0_36 (k : Nat) : ∀ f, mt0_36 k = some f → mo_Sim 0 k f := mt_node (smt0_37 k) (smt0_44 k)
set_option maxRecDepth 100000 in
theorem smt0_54 (k : Nat) : ∀ f, mt0_54 k = some f → mo_Sim 0 k f := mt_leaf (ms_ild (e := (.iload_n 3, 214, 0, 0, 0)) rfl (fun _ _ _ => rfl) : mo_Sim 0 213 (ma_load 0 3 214)) (mt_leaf (ms_pushi (e := (.iconst 2, 215, 0, 0, 0)) rfl (fun _ _ _ => rfl) (by decide) : mo_Sim 0 214 (ma_push (ma_ci (.ofNat 2)) 215)) (mt_none))
set_option maxRecDepth 100000 in
theorem smt0_55 (k : Nat) : ∀ f, mt0_55 k = some f → mo_Sim 0 k f := mt_leaf (ms_iadd (e := (.iadd, 216, 0, 0, 0)) rfl (fun _ _ _ => rfl) : mo_Sim 0 215 (ma_iadd 215 216)) (mt_leaf (ms_iald (e := (.iaload, 217, 0, 0, 0)) rfl (fun _ _ _ => rfl) : mo_Sim 0 216 (ma_iald 216 217)) (mt_leaf (ms_ald (e := (.aload_n 0, 218, 0, 0, 0)) rfl (fun _ _ _ => rfl) : mo_Sim 0 217 (ma_lda 0 218)) (mt_none)))
set_option maxRecDepth 100000 in
theorem smt0_53 (k : Nat) : ∀ f, mt0_53 k = some f → mo_Sim 0 k f := mt_node (smt0_54 k) (smt0_55 k)
set_option maxRecDepth 100000 in
theorem smt0_57 (k : Nat) : ∀ f, mt0_57 k = some f → mo_Sim 0 k f := mt_leaf (ms_ild (e := (.iload_n 3, 219, 0, 0, 0)) rfl (fun _ _ _ => rfl) : mo_Sim 0 218 (ma_load 0 3 219)) (mt_leaf (ms_pushi (e := (.iconst 3, 220, 0, 0, 0)) rfl (fun _ _ _ => rfl) (by decide) : mo_Sim 0 219 (ma_push (ma_ci (.ofNat 3)) 220)) (mt_none))
set_option maxRecDepth 100000 in
theorem smt0_58 (k : Nat) : ∀ f, mt0_58 k = some f → mo_Sim 0 k f := mt_leaf (ms_iadd (e := (.iadd, 221, 0, 0, 0)) rfl (fun _ _ _ => rfl) : mo_Sim 0 220 (ma_iadd 220 221)) (mt_leaf (ms_iald (e := (.iaload, 222, 0, 0, 0)) rfl (fun _ _ _ => rfl) : mo_Sim 0 221 (ma_iald 221 222)) (mt_leaf (ms_invV (p := 3) (e := (.invokevirtual 22, 225, 144, 0, 1136)) rfl rfl (fun _ _ _ => rfl) rfl rfl rfl (by decide) : mo_Sim 0 222 (ma_inv 144 4 5 12 225)) (mt_none)))
set_option maxRecDepth 100000 in
theorem smt0_56 (k : Nat) : ∀ f, mt0_56 k = some f → mo_Sim 0 k f := mt_node (smt0_57 k) (smt0_58 k)
set_option maxRecDepth 100000 in
theorem smt0_52 (k : Nat) : ∀ f, mt0_52 k = some f → mo_Sim 0 k f := mt_node (smt0_53 k) (smt0_56 k)
set_option maxRecDepth 100000 in
theorem smt0_61 (k : Nat) : ∀ f, mt0_61 k = some f → mo_Sim 0 k f := mt_leaf (ms_if2 (e := (.if_icmp .eq 769, 228, 994, 0, 0)) rfl (fun _ _ _ => rfl) : mo_Sim 0 225 (ma_if2 .eq 994 225 228)) (mt_leaf (ms_pushi (e := (.iconst 0, 229, 0, 0, 0)) rfl (fun _ _ _ => rfl) (by decide) : mo_Sim 0 228 (ma_push (ma_ci (.ofNat 0)) 229)) (mt_none))
set_option maxRecDepth 100000 in
theorem smt0_62 (k : Nat) : ∀ f, mt0_62 k = some f → mo_Sim 0 k f := mt_leaf (ms_ret (e := (.ireturn, 230, 0, 0, 0)) rfl (Or.inr (Or.inl ⟨rfl, rfl, (fun _ _ _ => rfl)⟩)) : mo_Sim 0 229 (ma_ret 1)) (mt_leaf (ms_ald (e := (.aload_n 1, 231, 0, 0, 0)) rfl (fun _ _ _ => rfl) : mo_Sim 0 230 (ma_lda 1 231)) (mt_leaf (ms_ald (e := (.aload_n 0, 232, 0, 0, 0)) rfl (fun _ _ _ => rfl) : mo_Sim 0 231 (ma_lda 0 232)) (mt_none)))
set_option maxRecDepth 100000 in
theorem smt0_60 (k : Nat) : ∀ f, mt0_60 k = some f → mo_Sim 0 k f := mt_node (smt0_61 k) (smt0_62 k)
set_option maxRecDepth 100000 in
theorem smt0_64 (k : Nat) : ∀ f, mt0_64 k = some f → mo_Sim 0 k f := mt_leaf (ms_ild (e := (.iload_n 3, 233, 0, 0, 0)) rfl (fun _ _ _ => rfl) : mo_Sim 0 232 (ma_load 0 3 233)) (mt_leaf (ms_pushi (e := (.iconst 1, 234, 0, 0, 0)) rfl (fun _ _ _ => rfl) (by decide) : mo_Sim 0 233 (ma_push (ma_ci (.ofNat 1)) 234)) (mt_leaf (ms_iadd (e := (.iadd, 235, 0, 0, 0)) rfl (fun _ _ _ => rfl) : mo_Sim 0 234 (ma_iadd 234 235)) (mt_none)))
set_option maxRecDepth 100000 in
theorem smt0_65 (k : Nat) : ∀ f, mt0_65 k = some f → mo_Sim 0 k f := mt_leaf (ms_iald (e := (.iaload, 236, 0, 0, 0)) rfl (fun _ _ _ => rfl) : mo_Sim 0 235 (ma_iald 235 236)) (mt_leaf (ms_invV (p := 1) (e := (.invokevirtual 23, 239, 95, 0, 534)) rfl rfl (fun _ _ _ => rfl) rfl rfl rfl (by decide) : mo_Sim 0 236 (ma_inv 95 2 2 11 239)) (mt_leaf (ms_ald (e := (.aload_n 2, 240, 0, 0, 0)) rfl (fun _ _ _ => rfl) : mo_Sim 0 239 (ma_lda 2 240)) (mt_none)))
set_option maxRecDepth 100000 in
theorem smt0_63 (k : Nat) : ∀ f, mt0_63 k = some f → mo_Sim 0 k f := mt_node (smt0_64 k) (smt0_65 k)
set_option maxRecDepth 100000 in
theorem smt0_59 (k : Nat) : ∀ f, mt0_59 k = some f → mo_Sim 0 k f := mt_node (smt0_60 k) (smt0_63 k)
set_option maxRecDepth 100000 in
theorem smt0_51 (k : Nat) : ∀ f, mt0_51 k = some f → mo_Sim 0 k f := mt_node (smt0_52 k) (smt0_59 k)
set_option maxRecDepth 100000 in
theorem smt0_35 (k : Nat) : ∀ f, mt0_35 k = some f → mo_Sim 0 k f := mt_node (smt0_36 k) (smt0_51 k)
set_option maxRecDepth 100000 in
theorem smt0_3 (k : Nat) : ∀ f, mt0_3 k = some f → mo_Sim 0 k f := mt_node (smt0_4 k) (smt0_35 k)
set_option maxRecDepth 100000 in
theorem smt0_71 (k : Nat) : ∀ f, mt0_71 k = some f → mo_Sim 0 k f := mt_leaf (ms_ald (e := (.aload_n 0, 241, 0, 0, 0)) rfl (fun _ _ _ => rfl) : mo_Sim 0 240 (ma_lda 0 241)) (mt_leaf (ms_ild (e := (.iload_n 3, 242, 0, 0, 0)) rfl (fun _ _ _ => rfl) : mo_Sim 0 241 (ma_load 0 3 242)) (mt_none))
set_option maxRecDepth 100000 in
theorem smt0_72 (k : Nat) : ∀ f, mt0_72 k = some f → mo_Sim 0 k f := mt_leaf (ms_pushi (e := (.iconst 1, 243, 0, 0, 0)) rfl (fun _ _ _ => rfl) (by decide) : mo_Sim 0 242 (ma_push (ma_ci (.ofNat 1)) 243)) (mt_leaf (ms_iadd (e := (.iadd, 244, 0, 0, 0)) rfl (fun _ _ _ => rfl) : mo_Sim 0 243 (ma_iadd 243 244)) (mt_leaf (ms_iald (e := (.iaload, 245, 0, 0, 0)) rfl (fun _ _ _ => rfl) : mo_Sim 0 244 (ma_iald 244 245)) (mt_none)))
set_option maxRecDepth 100000 in
theorem smt0_70 (k : Nat) : ∀ f, mt0_70 k = some f → mo_Sim 0 k f := mt_node (smt0_71 k) (smt0_72 k)
set_option maxRecDepth 100000 in
theorem smt0_74 (k : Nat) : ∀ f, mt0_74 k = some f → mo_Sim 0 k f := mt_leaf (ms_invV (p := 1) (e := (.invokevirtual 26, 248, 145, 0, 1143)) rfl rfl (fun _ _ _ => rfl) rfl rfl rfl (by decide) : mo_Sim 0 245 (ma_inv 145 2 2 12 248)) (mt_leaf (ms_if2 (e := (.if_icmp .eq 746, 251, 994, 0, 0)) rfl (fun _ _ _ => rfl) : mo_Sim 0 248 (ma_if2 .eq 994 248 251)) (mt_none))
set_option maxRecDepth 100000 in
theorem smt0_75 (k : Nat) : ∀ f, mt0_75 k = some f → mo_Sim 0 k f := mt_leaf (ms_pushi (e := (.iconst 0, 252, 0, 0, 0)) rfl (fun _ _ _ => rfl) (by decide) : mo_Sim 0 251 (ma_push (ma_ci (.ofNat 0)) 252)) (mt_leaf (ms_ret (e := (.ireturn, 253, 0, 0, 0)) rfl (Or.inr (Or.inl ⟨rfl, rfl, (fun _ _ _ => rfl)⟩)) : mo_Sim 0 252 (ma_ret 1)) (mt_leaf (ms_ald (e := (.aload_n 1, 254, 0, 0, 0)) rfl (fun _ _ _ => rfl) : mo_Sim 0 253 (ma_lda 1 254)) (mt_none)))
set_option maxRecDepth 100000 in
theorem smt0_73 (k : Nat) : ∀ f, mt0_73 k = some f → mo_Sim 0 k f := mt_node (smt0_74 k) (smt0_75 k)
set_option maxRecDepth 100000 in
theorem smt0_69 (k : Nat) : ∀ f, mt0_69 k = some f → mo_Sim 0 k f := mt_node (smt0_70 k) (smt0_73 k)
set_option maxRecDepth 100000 in
theorem smt0_78 (k : Nat) : ∀ f, mt0_78 k = some f → mo_Sim 0 k f := mt_leaf (ms_ald (e := (.aload_n 0, 255, 0, 0, 0)) rfl (fun _ _ _ => rfl) : mo_Sim 0 254 (ma_lda 0 255)) (mt_leaf (ms_ild (e := (.iload_n 3, 256, 0, 0, 0)) rfl (fun _ _ _ => rfl) : mo_Sim 0 255 (ma_load 0 3 256)) (mt_none))
set_option maxRecDepth 100000 in
theorem smt0_79 (k : Nat) : ∀ f, mt0_79 k = some f → mo_Sim 0 k f := mt_leaf (ms_pushi (e := (.iconst 1, 257, 0, 0, 0)) rfl (fun _ _ _ => rfl) (by decide) : mo_Sim 0 256 (ma_push (ma_ci (.ofNat 1)) 257)) (mt_leaf (ms_iadd (e := (.iadd, 258, 0, 0, 0)) rfl (fun _ _ _ => rfl) : mo_Sim 0 257 (ma_iadd 257 258)) (mt_leaf (ms_iald (e := (.iaload, 259, 0, 0, 0)) rfl (fun _ _ _ => rfl) : mo_Sim 0 258 (ma_iald 258 259)) (mt_none)))
set_option maxRecDepth 100000 in
theorem smt0_77 (k : Nat) : ∀ f, mt0_77 k = some f → mo_Sim 0 k f := mt_node (smt0_78 k) (smt0_79 k)
set_option maxRecDepth 100000 in
theorem smt0_81 (k : Nat) : ∀ f, mt0_81 k = some f → mo_Sim 0 k f := mt_leaf (ms_ald (e := (.aload_n 0, 260, 0, 0, 0)) rfl (fun _ _ _ => rfl) : mo_Sim 0 259 (ma_lda 0 260)) (mt_leaf (ms_ild (e := (.iload_n 3, 261, 0, 0, 0)) rfl (fun _ _ _ => rfl) : mo_Sim 0 260 (ma_load 0 3 261)) (mt_leaf (ms_pushi (e := (.iconst 2, 262, 0, 0, 0)) rfl (fun _ _ _ => rfl) (by decide) : mo_Sim 0 261 (ma_push (ma_ci (.ofNat 2)) 262)) (mt_none)))
set_option maxRecDepth 100000 in
theorem smt0_82 (k : Nat) : ∀ f, mt0_82 k = some f → mo_Sim 0 k f := mt_leaf (ms_iadd (e := (.iadd, 263, 0, 0, 0)) rfl (fun _ _ _ => rfl) : mo_Sim 0 262 (ma_iadd 262 263)) (mt_leaf (ms_iald (e := (.iaload, 264, 0, 0, 0)) rfl (fun _ _ _ => rfl) : mo_Sim 0 263 (ma_iald 263 264)) (mt_leaf (ms_ald (e := (.aload_n 0, 265, 0, 0, 0)) rfl (fun _ _ _ => rfl) : mo_Sim 0 264 (ma_lda 0 265)) (mt_none)))
set_option maxRecDepth 100000 in
theorem smt0_80 (k : Nat) : ∀ f, mt0_80 k = some f → mo_Sim 0 k f := mt_node (smt0_81 k) (smt0_82 k)
set_option maxRecDepth 100000 in
theorem smt0_76 (k : Nat) : ∀ f, mt0_76 k = some f → mo_Sim 0 k f := mt_node (smt0_77 k) (smt0_80 k)
set_option maxRecDepth 100000 in
theorem smt0_68 (k : Nat) : ∀ f, mt0_68 k = some f → mo_Sim 0 k f := mt_node (smt0_69 k) (smt0_76 k)
set_option maxRecDepth 100000 in
theorem smt0_86 (k : Nat) : ∀ f, mt0_86 k = some f → mo_Sim 0 k f := mt_leaf (ms_ild (e := (.iload_n 3, 266, 0, 0, 0)) rfl (fun _ _ _ => rfl) : mo_Sim 0 265 (ma_load 0 3 266)) (mt_leaf (ms_pushi (e := (.iconst 3, 267, 0, 0, 0)) rfl (fun _ _ _ => rfl) (by decide) : mo_Sim 0 266 (ma_push (ma_ci (.ofNat 3)) 267)) (mt_none))
set_option maxRecDepth 100000 in
theorem smt0_87 (k : Nat) : ∀ f, mt0_87 k = some f → mo_Sim 0 k f := mt_leaf (ms_iadd (e := (.iadd, 268, 0, 0, 0)) rfl (fun _ _ _ => rfl) : mo_Sim 0 267 (ma_iadd 267 268)) (mt_leaf (ms_iald (e := (.iaload, 269, 0, 0, 0)) rfl (fun _ _ _ => rfl) : mo_Sim 0 268 (ma_iald 268 269)) (mt_leaf (ms_i2l (e := (.i2l, 270, 0, 0, 0)) rfl (fun _ _ _ => rfl) : mo_Sim 0 269 (ma_i2l 270)) (mt_none)))
set_option maxRecDepth 100000 in
theorem smt0_85 (k : Nat) : ∀ f, mt0_85 k = some f → mo_Sim 0 k f := mt_node (smt0_86 k) (smt0_87 k)
set_option maxRecDepth 100000 in
theorem smt0_89 (k : Nat) : ∀ f, mt0_89 k = some f → mo_Sim 0 k f := mt_leaf (ms_pushi (e := (.bipush 32, 272, 0, 0, 0)) rfl (fun _ _ _ => rfl) (by decide) : mo_Sim 0 270 (ma_push (ma_ci (.ofNat 32)) 272)) (mt_leaf (ms_ls (e := (.lshl, 273, 0, 0, 0)) rfl (fun _ _ _ => rfl) hg_shl : mo_Sim 0 272 (ma_ls ma_gshl 272 273)) (mt_none))
set_option maxRecDepth 100000 in
theorem smt0_90 (k : Nat) : ∀ f, mt0_90 k = some f → mo_Sim 0 k f := mt_leaf (ms_ald (e := (.aload_n 0, 274, 0, 0, 0)) rfl (fun _ _ _ => rfl) : mo_Sim 0 273 (ma_lda 0 274)) (mt_leaf (ms_ild (e := (.iload_n 3, 275, 0, 0, 0)) rfl (fun _ _ _ => rfl) : mo_Sim 0 274 (ma_load 0 3 275)) (mt_leaf (ms_pushi (e := (.iconst 4, 276, 0, 0, 0)) rfl (fun _ _ _ => rfl) (by decide) : mo_Sim 0 275 (ma_push (ma_ci (.ofNat 4)) 276)) (mt_none)))
set_option maxRecDepth 100000 in
theorem smt0_88 (k : Nat) : ∀ f, mt0_88 k = some f → mo_Sim 0 k f := mt_node (smt0_89 k) (smt0_90 k)
set_option maxRecDepth 100000 in
theorem smt0_84 (k : Nat) : ∀ f, mt0_84 k = some f → mo_Sim 0 k f := mt_node (smt0_85 k) (smt0_88 k)
set_option maxRecDepth 100000 in
theorem smt0_93 (k : Nat) : ∀ f, mt0_93 k = some f → mo_Sim 0 k f := mt_leaf (ms_iadd (e := (.iadd, 277, 0, 0, 0)) rfl (fun _ _ _ => rfl) : mo_Sim 0 276 (ma_iadd 276 277)) (mt_leaf (ms_iald (e := (.iaload, 278, 0, 0, 0)) rfl (fun _ _ _ => rfl) : mo_Sim 0 277 (ma_iald 277 278)) (mt_none))
set_option maxRecDepth 100000 in
theorem smt0_94 (k : Nat) : ∀ f, mt0_94 k = some f → mo_Sim 0 k f := mt_leaf (ms_i2l (e := (.i2l, 279, 0, 0, 0)) rfl (fun _ _ _ => rfl) : mo_Sim 0 278 (ma_i2l 279)) (mt_leaf (ms_pushl (e := (.ldc2_w 27, 282, 4294967295, 0, 1380)) rfl (fun _ _ _ => rfl) (by decide) : mo_Sim 0 279 (ma_push (ma_cl (.ofNat 4294967295)) 282)) (mt_leaf (ms_l2 (e := (.land, 283, 0, 0, 0)) rfl (fun _ _ _ => rfl) hg_and : mo_Sim 0 282 (ma_l2 ma_gand 283)) (mt_none)))
set_option maxRecDepth 100000 in
theorem smt0_92 (k : Nat) : ∀ f, mt0_92 k = some f → mo_Sim 0 k f := mt_node (smt0_93 k) (smt0_94 k)
set_option maxRecDepth 100000 in
theorem smt0_96 (k : Nat) : ∀ f, mt0_96 k = some f → mo_Sim 0 k f := mt_leaf (ms_l2 (e := (.lor, 284, 0, 0, 0)) rfl (fun _ _ _ => rfl) hg_or : mo_Sim 0 283 (ma_l2 ma_gor 284)) (mt_leaf (ms_invV (p := 3) (e := (.invokevirtual 29, 287, 96, 0, 547)) rfl rfl (fun _ _ _ => rfl) rfl rfl rfl (by decide) : mo_Sim 0 284 (ma_inv 96 4 5 11 287)) (mt_leaf (ms_ald (e := (.aload_n 2, 288, 0, 0, 0)) rfl (fun _ _ _ => rfl) : mo_Sim 0 287 (ma_lda 2 288)) (mt_none)))
set_option maxRecDepth 100000 in
theorem smt0_97 (k : Nat) : ∀ f, mt0_97 k = some f → mo_Sim 0 k f := mt_leaf (ms_ald (e := (.aload_n 0, 289, 0, 0, 0)) rfl (fun _ _ _ => rfl) : mo_Sim 0 288 (ma_lda 0 289)) (mt_leaf (ms_ild (e := (.iload_n 3, 290, 0, 0, 0)) rfl (fun _ _ _ => rfl) : mo_Sim 0 289 (ma_load 0 3 290)) (mt_leaf (ms_pushi (e := (.iconst 1, 291, 0, 0, 0)) rfl (fun _ _ _ => rfl) (by decide) : mo_Sim 0 290 (ma_push (ma_ci (.ofNat 1)) 291)) (mt_none)))
set_option maxRecDepth 100000 in
theorem smt0_95 (k : Nat) : ∀ f, mt0_95 k = some f → mo_Sim 0 k f := mt_node (smt0_96 k) (smt0_97 k)
set_option maxRecDepth 100000 in
theorem smt0_91 (k : Nat) : ∀ f, mt0_91 k = some f → mo_Sim 0 k f := mt_node (smt0_92 k) (smt0_95 k)
set_option maxRecDepth 100000 in
theorem smt0_83 (k : Nat) : ∀ f, mt0_83 k = some f → mo_Sim 0 k f := mt_node (smt0_84 k) (smt0_91 k)
set_option maxRecDepth 100000 in
theorem smt0_67 (k : Nat) : ∀ f, mt0_67 k = some f → mo_Sim 0 k f := mt_node (smt0_68 k) (smt0_83 k)
set_option maxRecDepth 100000 in
theorem smt0_102 (k : Nat) : ∀ f, mt0_102 k = some f → mo_Sim 0 k f := mt_leaf (ms_iadd (e := (.iadd, 292, 0, 0, 0)) rfl (fun _ _ _ => rfl) : mo_Sim 0 291 (ma_iadd 291 292)) (mt_leaf (ms_iald (e := (.iaload, 293, 0, 0, 0)) rfl (fun _ _ _ => rfl) : mo_Sim 0 292 (ma_iald 292 293)) (mt_none))
set_option maxRecDepth 100000 in
theorem smt0_103 (k : Nat) : ∀ f, mt0_103 k = some f → mo_Sim 0 k f := mt_leaf (ms_ald (e := (.aload_n 0, 294, 0, 0, 0)) rfl (fun _ _ _ => rfl) : mo_Sim 0 293 (ma_lda 0 294)) (mt_leaf (ms_ild (e := (.iload_n 3, 295, 0, 0, 0)) rfl (fun _ _ _ => rfl) : mo_Sim 0 294 (ma_load 0 3 295)) (mt_leaf (ms_pushi (e := (.iconst 2, 296, 0, 0, 0)) rfl (fun _ _ _ => rfl) (by decide) : mo_Sim 0 295 (ma_push (ma_ci (.ofNat 2)) 296)) (mt_none)))
set_option maxRecDepth 100000 in
theorem smt0_101 (k : Nat) : ∀ f, mt0_101 k = some f → mo_Sim 0 k f := mt_node (smt0_102 k) (smt0_103 k)
set_option maxRecDepth 100000 in
theorem smt0_105 (k : Nat) : ∀ f, mt0_105 k = some f → mo_Sim 0 k f := mt_leaf (ms_iadd (e := (.iadd, 297, 0, 0, 0)) rfl (fun _ _ _ => rfl) : mo_Sim 0 296 (ma_iadd 296 297)) (mt_leaf (ms_iald (e := (.iaload, 298, 0, 0, 0)) rfl (fun _ _ _ => rfl) : mo_Sim 0 297 (ma_iald 297 298)) (mt_none))
set_option maxRecDepth 100000 in
theorem smt0_106 (k : Nat) : ∀ f, mt0_106 k = some f → mo_Sim 0 k f := mt_leaf (ms_ald (e := (.aload_n 0, 299, 0, 0, 0)) rfl (fun _ _ _ => rfl) : mo_Sim 0 298 (ma_lda 0 299)) (mt_leaf (ms_ild (e := (.iload_n 3, 300, 0, 0, 0)) rfl (fun _ _ _ => rfl) : mo_Sim 0 299 (ma_load 0 3 300)) (mt_leaf (ms_pushi (e := (.iconst 3, 301, 0, 0, 0)) rfl (fun _ _ _ => rfl) (by decide) : mo_Sim 0 300 (ma_push (ma_ci (.ofNat 3)) 301)) (mt_none)))
set_option maxRecDepth 100000 in
theorem smt0_104 (k : Nat) : ∀ f, mt0_104 k = some f → mo_Sim 0 k f := mt_node (smt0_105 k) (smt0_106 k)
set_option maxRecDepth 100000 in
theorem smt0_100 (k : Nat) : ∀ f, mt0_100 k = some f → mo_Sim 0 k f := mt_node (smt0_101 k) (smt0_104 k)
set_option maxRecDepth 100000 in
theorem smt0_109 (k : Nat) : ∀ f, mt0_109 k = some f → mo_Sim 0 k f := mt_leaf (ms_iadd (e := (.iadd, 302, 0, 0, 0)) rfl (fun _ _ _ => rfl) : mo_Sim 0 301 (ma_iadd 301 302)) (mt_leaf (ms_iald (e := (.iaload, 303, 0, 0, 0)) rfl (fun _ _ _ => rfl) : mo_Sim 0 302 (ma_iald 302 303)) (mt_none))
set_option maxRecDepth 100000 in
theorem smt0_110 (k : Nat) : ∀ f, mt0_110 k = some f → mo_Sim 0 k f := mt_leaf (ms_i2l (e := (.i2l, 304, 0, 0, 0)) rfl (fun _ _ _ => rfl) : mo_Sim 0 303 (ma_i2l 304)) (mt_leaf (ms_pushi (e := (.bipush 32, 306, 0, 0, 0)) rfl (fun _ _ _ => rfl) (by decide) : mo_Sim 0 304 (ma_push (ma_ci (.ofNat 32)) 306)) (mt_leaf (ms_ls (e := (.lshl, 307, 0, 0, 0)) rfl (fun _ _ _ => rfl) hg_shl : mo_Sim 0 306 (ma_ls ma_gshl 306 307)) (mt_none)))
set_option maxRecDepth 100000 in
theorem smt0_108 (k : Nat) : ∀ f, mt0_108 k = some f → mo_Sim 0 k f := mt_node (smt0_109 k) (smt0_110 k)
set_option maxRecDepth 100000 in
theorem smt0_112 (k : Nat) : ∀ f, mt0_112 k = some f → mo_Sim 0 k f := mt_leaf (ms_ald (e := (.aload_n 0, 308, 0, 0, 0)) rfl (fun _ _ _ => rfl) : mo_Sim 0 307 (ma_lda 0 308)) (mt_leaf (ms_ild (e := (.iload_n 3, 309, 0, 0, 0)) rfl (fun _ _ _ => rfl) : mo_Sim 0 308 (ma_load 0 3 309)) (mt_leaf (ms_pushi (e := (.iconst 4, 310, 0, 0, 0)) rfl (fun _ _ _ => rfl) (by decide) : mo_Sim 0 309 (ma_push (ma_ci (.ofNat 4)) 310)) (mt_none)))
set_option maxRecDepth 100000 in
theorem smt0_113 (k : Nat) : ∀ f, mt0_113 k = some f → mo_Sim 0 k f := mt_leaf (ms_iadd (e := (.iadd, 311, 0, 0, 0)) rfl (fun _ _ _ => rfl) : mo_Sim 0 310 (ma_iadd 310 311)) (mt_leaf (ms_iald (e := (.iaload, 312, 0, 0, 0)) rfl (fun _ _ _ => rfl) : mo_Sim 0 311 (ma_iald 311 312)) (mt_leaf (ms_i2l (e := (.i2l, 313, 0, 0, 0)) rfl (fun _ _ _ => rfl) : mo_Sim 0 312 (ma_i2l 313)) (mt_none)))
set_option maxRecDepth 100000 in
theorem smt0_111 (k : Nat) : ∀ f, mt0_111 k = some f → mo_Sim 0 k f := mt_node (smt0_112 k) (smt0_113 k)
set_option maxRecDepth 100000 in
theorem smt0_107 (k : Nat) : ∀ f, mt0_107 k = some f → mo_Sim 0 k f := mt_node (smt0_108 k) (smt0_111 k)
set_option maxRecDepth 100000 in
theorem smt0_99 (k : Nat) : ∀ f, mt0_99 k = some f → mo_Sim 0 k f := mt_node (smt0_100 k) (smt0_107 k)
set_option maxRecDepth 100000 in
theorem smt0_117 (k : Nat) : ∀ f, mt0_117 k = some f → mo_Sim 0 k f := mt_leaf (ms_pushl (e := (.ldc2_w 27, 316, 4294967295, 0, 1380)) rfl (fun _ _ _ => rfl) (by decide) : mo_Sim 0 313 (ma_push (ma_cl (.ofNat 4294967295)) 316)) (mt_leaf (ms_l2 (e := (.land, 317, 0, 0, 0)) rfl (fun _ _ _ => rfl) hg_and : mo_Sim 0 316 (ma_l2 ma_gand 317)) (mt_none))
set_option maxRecDepth 100000 in
theorem smt0_118 (k : Nat) : ∀ f, mt0_118 k = some f → mo_Sim 0 k f := mt_leaf (ms_l2 (e := (.lor, 318, 0, 0, 0)) rfl (fun _ _ _ => rfl) hg_or : mo_Sim 0 317 (ma_l2 ma_gor 318)) (mt_leaf (ms_invV (p := 3) (e := (.invokevirtual 33, 321, 146, 0, 1147)) rfl rfl (fun _ _ _ => rfl) rfl rfl rfl (by decide) : mo_Sim 0 318 (ma_inv 146 4 6 12 321)) (mt_leaf (ms_if2 (e := (.if_icmp .eq 673, 324, 994, 0, 0)) rfl (fun _ _ _ => rfl) : mo_Sim 0 321 (ma_if2 .eq 994 321 324)) (mt_none)))
set_option maxRecDepth 100000 in
theorem smt0_116 (k : Nat) : ∀ f, mt0_116 k = some f → mo_Sim 0 k f := mt_node (smt0_117 k) (smt0_118 k)
set_option maxRecDepth 100000 in
theorem smt0_120 (k : Nat) : ∀ f, mt0_120 k = some f → mo_Sim 0 k f := mt_leaf (ms_pushi (e := (.iconst 0, 325, 0, 0, 0)) rfl (fun _ _ _ => rfl) (by decide) : mo_Sim 0 324 (ma_push (ma_ci (.ofNat 0)) 325)) (mt_leaf (ms_ret (e := (.ireturn, 326, 0, 0, 0)) rfl (Or.inr (Or.inl ⟨rfl, rfl, (fun _ _ _ => rfl)⟩)) : mo_Sim 0 325 (ma_ret 1)) (mt_leaf (ms_ald (e := (.aload_n 1, 327, 0, 0, 0)) rfl (fun _ _ _ => rfl) : mo_Sim 0 326 (ma_lda 1 327)) (mt_none)))
set_option maxRecDepth 100000 in
theorem smt0_121 (k : Nat) : ∀ f, mt0_121 k = some f → mo_Sim 0 k f := mt_leaf (ms_ald (e := (.aload_n 0, 328, 0, 0, 0)) rfl (fun _ _ _ => rfl) : mo_Sim 0 327 (ma_lda 0 328)) (mt_leaf (ms_ild (e := (.iload_n 3, 329, 0, 0, 0)) rfl (fun _ _ _ => rfl) : mo_Sim 0 328 (ma_load 0 3 329)) (mt_leaf (ms_pushi (e := (.iconst 1, 330, 0, 0, 0)) rfl (fun _ _ _ => rfl) (by decide) : mo_Sim 0 329 (ma_push (ma_ci (.ofNat 1)) 330)) (mt_none)))
set_option maxRecDepth 100000 in
theorem smt0_119 (k : Nat) : ∀ f, mt0_119 k = some f → mo_Sim 0 k f := mt_node (smt0_120 k) (smt0_121 k)
set_option maxRecDepth 100000 in
theorem smt0_115 (k : Nat) : ∀ f, mt0_115 k = some f → mo_Sim 0 k f := mt_node (smt0_116 k) (smt0_119 k)
set_option maxRecDepth 100000 in
theorem smt0_124 (k : Nat) : ∀ f, mt0_124 k = some f → mo_Sim 0 k f := mt_leaf (ms_iadd (e := (.iadd, 331, 0, 0, 0)) rfl (fun _ _ _ => rfl) : mo_Sim 0 330 (ma_iadd 330 331)) (mt_leaf (ms_iald (e := (.iaload, 332, 0, 0, 0)) rfl (fun _ _ _ => rfl) : mo_Sim 0 331 (ma_iald 331 332)) (mt_none))
set_option maxRecDepth 100000 in
theorem smt0_125 (k : Nat) : ∀ f, mt0_125 k = some f → mo_Sim 0 k f := mt_leaf (ms_ald (e := (.aload_n 0, 333, 0, 0, 0)) rfl (fun _ _ _ => rfl) : mo_Sim 0 332 (ma_lda 0 333)) (mt_leaf (ms_ild (e := (.iload_n 3, 334, 0, 0, 0)) rfl (fun _ _ _ => rfl) : mo_Sim 0 333 (ma_load 0 3 334)) (mt_leaf (ms_pushi (e := (.iconst 2, 335, 0, 0, 0)) rfl (fun _ _ _ => rfl) (by decide) : mo_Sim 0 334 (ma_push (ma_ci (.ofNat 2)) 335)) (mt_none)))
set_option maxRecDepth 100000 in
theorem smt0_123 (k : Nat) : ∀ f, mt0_123 k = some f → mo_Sim 0 k f := mt_node (smt0_124 k) (smt0_125 k)
set_option maxRecDepth 100000 in
theorem smt0_127 (k : Nat) : ∀ f, mt0_127 k = some f → mo_Sim 0 k f := mt_leaf (ms_iadd (e := (.iadd, 336, 0, 0, 0)) rfl (fun _ _ _ => rfl) : mo_Sim 0 335 (ma_iadd 335 336)) (mt_leaf (ms_iald (e := (.iaload, 337, 0, 0, 0)) rfl (fun _ _ _ => rfl) : mo_Sim 0 336 (ma_iald 336 337)) (mt_leaf (ms_invV (p := 2) (e := (.invokevirtual 34, 340, 97, 0, 559)) rfl rfl (fun _ _ _ => rfl) rfl rfl rfl (by decide) : mo_Sim 0 337 (ma_inv 97 3 6 11 340)) (mt_none)))
set_option maxRecDepth 100000 in
theorem smt0_128 (k : Nat) : ∀ f, mt0_128 k = some f → mo_Sim 0 k f := mt_leaf (ms_ald (e := (.aload_n 2, 341, 0, 0, 0)) rfl (fun _ _ _ => rfl) : mo_Sim 0 340 (ma_lda 2 341)) (mt_leaf (ms_ald (e := (.aload_n 0, 342, 0, 0, 0)) rfl (fun _ _ _ => rfl) : mo_Sim 0 341 (ma_lda 0 342)) (mt_leaf (ms_ild (e := (.iload_n 3, 343, 0, 0, 0)) rfl (fun _ _ _ => rfl) : mo_Sim 0 342 (ma_load 0 3 343)) (mt_none)))
set_option maxRecDepth 100000 in
theorem smt0_126 (k : Nat) : ∀ f, mt0_126 k = some f → mo_Sim 0 k f := mt_node (smt0_127 k) (smt0_128 k)
set_option maxRecDepth 100000 in
theorem smt0_122 (k : Nat) : ∀ f, mt0_122 k = some f → mo_Sim 0 k f := mt_node (smt0_123 k) (smt0_126 k)
set_option maxRecDepth 100000 in
theorem smt0_114 (k : Nat) : ∀ f, mt0_114 k = some f → mo_Sim 0 k f := mt_node (smt0_115 k) (smt0_122 k)
set_option maxRecDepth 100000 in
theorem smt0_98 (k : Nat) : ∀ f, mt0_98 k = some f → mo_Sim 0 k f := mt_node (smt0_99 k) (smt0_114 k)
set_option maxRecDepth 100000 in
theorem smt0_66 (k : Nat) : ∀ f, mt0_66 k = some f → mo_Sim 0 k f := mt_node (smt0_67 k) (smt0_98 k)
set_option maxRecDepth 100000 in
theorem smt0_2 (k : Nat) : ∀ f, mt0_2 k = some f → mo_Sim 0 k f := mt_node (smt0_3 k) (smt0_66 k)
set_option maxRecDepth 100000 in
theorem smt0_135 (k : Nat) : ∀ f, mt0_135 k = some f → mo_Sim 0 k f := mt_leaf (ms_pushi (e := (.iconst 1, 344, 0, 0, 0)) rfl (fun _ _ _ => rfl) (by decide) : mo_Sim 0 343 (ma_push (ma_ci (.ofNat 1)) 344)) (mt_leaf (ms_iadd (e := (.iadd, 345, 0, 0, 0)) rfl (fun _ _ _ => rfl) : mo_Sim 0 344 (ma_iadd 344 345)) (mt_none))
set_option maxRecDepth 100000 in
theorem smt0_136 (k : Nat) : ∀ f, mt0_136 k = some f → mo_Sim 0 k f := mt_leaf (ms_iald (e := (.iaload, 346, 0, 0, 0)) rfl (fun _ _ _ => rfl) : mo_Sim 0 345 (ma_iald 345 346)) (mt_leaf (ms_ald (e := (.aload_n 0, 347, 0, 0, 0)) rfl (fun _ _ _ => rfl) : mo_Sim 0 346 (ma_lda 0 347)) (mt_leaf (ms_ild (e := (.iload_n 3, 348, 0, 0, 0)) rfl (fun _ _ _ => rfl) : mo_Sim 0 347 (ma_load 0 3 348)) (mt_none)))
set_option maxRecDepth 100000 in
theorem smt0_134 (k : Nat) : ∀ f, mt0_134 k = some f → mo_Sim 0 k f := mt_node (smt0_135 k) (smt0_136 k)
set_option maxRecDepth 100000 in
theorem smt0_138 (k : Nat) : ∀ f, mt0_138 k = some f → mo_Sim 0 k f := mt_leaf (ms_pushi (e := (.iconst 2, 349, 0, 0, 0)) rfl (fun _ _ _ => rfl) (by decide) : mo_Sim 0 348 (ma_push (ma_ci (.ofNat 2)) 349)) (mt_leaf (ms_iadd (e := (.iadd, 350, 0, 0, 0)) rfl (fun _ _ _ => rfl) : mo_Sim 0 349 (ma_iadd 349 350)) (mt_none))
set_option maxRecDepth 100000 in
theorem smt0_139 (k : Nat) : ∀ f, mt0_139 k = some f → mo_Sim 0 k f := mt_leaf (ms_iald (e := (.iaload, 351, 0, 0, 0)) rfl (fun _ _ _ => rfl) : mo_Sim 0 350 (ma_iald 350 351)) (mt_leaf (ms_invV (p := 2) (e := (.invokevirtual 38, 354, 148, 0, 1151)) rfl rfl (fun _ _ _ => rfl) rfl rfl rfl (by decide) : mo_Sim 0 351 (ma_inv 148 3 6 12 354)) (mt_leaf (ms_if2 (e := (.if_icmp .eq 640, 357, 994, 0, 0)) rfl (fun _ _ _ => rfl) : mo_Sim 0 354 (ma_if2 .eq 994 354 357)) (mt_none)))
set_option maxRecDepth 100000 in
theorem smt0_137 (k : Nat) : ∀ f, mt0_137 k = some f → mo_Sim 0 k f := mt_node (smt0_138 k) (smt0_139 k)
set_option maxRecDepth 100000 in
theorem smt0_133 (k : Nat) : ∀ f, mt0_133 k = some f → mo_Sim 0 k f := mt_node (smt0_134 k) (smt0_137 k)
set_option maxRecDepth 100000 in
theorem smt0_142 (k : Nat) : ∀ f, mt0_142 k = some f → mo_Sim 0 k f := mt_leaf (ms_pushi (e := (.iconst 0, 358, 0, 0, 0)) rfl (fun _ _ _ => rfl) (by decide) : mo_Sim 0 357 (ma_push (ma_ci (.ofNat 0)) 358)) (mt_leaf (ms_ret (e := (.ireturn, 359, 0, 0, 0)) rfl (Or.inr (Or.inl ⟨rfl, rfl, (fun _ _ _ => rfl)⟩)) : mo_Sim 0 358 (ma_ret 1)) (mt_none))
set_option maxRecDepth 100000 in
theorem smt0_143 (k : Nat) : ∀ f, mt0_143 k = some f → mo_Sim 0 k f := mt_leaf (ms_ald (e := (.aload_n 1, 360, 0, 0, 0)) rfl (fun _ _ _ => rfl) : mo_Sim 0 359 (ma_lda 1 360)) (mt_leaf (ms_ald (e := (.aload_n 0, 361, 0, 0, 0)) rfl (fun _ _ _ => rfl) : mo_Sim 0 360 (ma_lda 0 361)) (mt_leaf (ms_ild (e := (.iload_n 3, 362, 0, 0, 0)) rfl (fun _ _ _ => rfl) : mo_Sim 0 361 (ma_load 0 3 362)) (mt_none)))
set_option maxRecDepth 100000 in
theorem smt0_141 (k : Nat) : ∀ f, mt0_141 k = some f → mo_Sim 0 k f := mt_node (smt0_142 k) (smt0_143 k)
set_option maxRecDepth 100000 in
theorem smt0_145 (k : Nat) : ∀ f, mt0_145 k = some f → mo_Sim 0 k f := mt_leaf (ms_pushi (e := (.iconst 1, 363, 0, 0, 0)) rfl (fun _ _ _ => rfl) (by decide) : mo_Sim 0 362 (ma_push (ma_ci (.ofNat 1)) 363)) (mt_leaf (ms_iadd (e := (.iadd, 364, 0, 0, 0)) rfl (fun _ _ _ => rfl) : mo_Sim 0 363 (ma_iadd 363 364)) (mt_leaf (ms_iald (e := (.iaload, 365, 0, 0, 0)) rfl (fun _ _ _ => rfl) : mo_Sim 0 364 (ma_iald 364 365)) (mt_none)))
set_option maxRecDepth 100000 in
theorem smt0_146 (k : Nat) : ∀ f, mt0_146 k = some f → mo_Sim 0 k f := mt_leaf (ms_ald (e := (.aload_n 0, 366, 0, 0, 0)) rfl (fun _ _ _ => rfl) : mo_Sim 0 365 (ma_lda 0 366)) (mt_leaf (ms_ild (e := (.iload_n 3, 367, 0, 0, 0)) rfl (fun _ _ _ => rfl) : mo_Sim 0 366 (ma_load 0 3 367)) (mt_leaf (ms_pushi (e := (.iconst 2, 368, 0, 0, 0)) rfl (fun _ _ _ => rfl) (by decide) : mo_Sim 0 367 (ma_push (ma_ci (.ofNat 2)) 368)) (mt_none)))
set_option maxRecDepth 100000 in
theorem smt0_144 (k : Nat) : ∀ f, mt0_144 k = some f → mo_Sim 0 k f := mt_node (smt0_145 k) (smt0_146 k)
set_option maxRecDepth 100000 in
theorem smt0_140 (k : Nat) : ∀ f, mt0_140 k = some f → mo_Sim 0 k f := mt_node (smt0_141 k) (smt0_144 k)
set_option maxRecDepth 100000 in
theorem smt0_132 (k : Nat) : ∀ f, mt0_132 k = some f → mo_Sim 0 k f := mt_node (smt0_133 k) (smt0_140 k)
set_option maxRecDepth 100000 in
theorem smt0_150 (k : Nat) : ∀ f, mt0_150 k = some f → mo_Sim 0 k f := mt_leaf (ms_iadd (e := (.iadd, 369, 0, 0, 0)) rfl (fun _ _ _ => rfl) : mo_Sim 0 368 (ma_iadd 368 369)) (mt_leaf (ms_iald (e := (.iaload, 370, 0, 0, 0)) rfl (fun _ _ _ => rfl) : mo_Sim 0 369 (ma_iald 369 370)) (mt_none))
set_option maxRecDepth 100000 in
theorem smt0_151 (k : Nat) : ∀ f, mt0_151 k = some f → mo_Sim 0 k f := mt_leaf (ms_invV (p := 2) (e := (.invokevirtual 39, 373, 98, 0, 584)) rfl rfl (fun _ _ _ => rfl) rfl rfl rfl (by decide) : mo_Sim 0 370 (ma_inv 98 3 4 11 373)) (mt_leaf (ms_ald (e := (.aload_n 2, 374, 0, 0, 0)) rfl (fun _ _ _ => rfl) : mo_Sim 0 373 (ma_lda 2 374)) (mt_leaf (ms_ald (e := (.aload_n 0, 375, 0, 0, 0)) rfl (fun _ _ _ => rfl) : mo_Sim 0 374 (ma_lda 0 375)) (mt_none)))
set_option maxRecDepth 100000 in
theorem smt0_149 (k : Nat) : ∀ f, mt0_149 k = some f → mo_Sim 0 k f := mt_node (smt0_150 k) (smt0_151 k)
set_option maxRecDepth 100000 in
theorem smt0_153 (k : Nat) : ∀ f, mt0_153 k = some f → mo_Sim 0 k f := mt_leaf (ms_ild (e := (.iload_n 3, 376, 0, 0, 0)) rfl (fun _ _ _ => rfl) : mo_Sim 0 375 (ma_load 0 3 376)) (mt_leaf (ms_pushi (e := (.iconst 1, 377, 0, 0, 0)) rfl (fun _ _ _ => rfl) (by decide) : mo_Sim 0 376 (ma_push (ma_ci (.ofNat 1)) 377)) (mt_none))
set_option maxRecDepth 100000 in
theorem smt0_154 (k : Nat) : ∀ f, mt0_154 k = some f → mo_Sim 0 k f := mt_leaf (ms_iadd (e := (.iadd, 378, 0, 0, 0)) rfl (fun _ _ _ => rfl) : mo_Sim 0 377 (ma_iadd 377 378)) (mt_leaf (ms_iald (e := (.iaload, 379, 0, 0, 0)) rfl (fun _ _ _ => rfl) : mo_Sim 0 378 (ma_iald 378 379)) (mt_leaf (ms_ald (e := (.aload_n 0, 380, 0, 0, 0)) rfl (fun _ _ _ => rfl) : mo_Sim 0 379 (ma_lda 0 380)) (mt_none)))
set_option maxRecDepth 100000 in
theorem smt0_152 (k : Nat) : ∀ f, mt0_152 k = some f → mo_Sim 0 k f := mt_node (smt0_153 k) (smt0_154 k)
set_option maxRecDepth 100000 in
theorem smt0_148 (k : Nat) : ∀ f, mt0_148 k = some f → mo_Sim 0 k f := mt_node (smt0_149 k) (smt0_152 k)
set_option maxRecDepth 100000 in
theorem smt0_157 (k : Nat) : ∀ f, mt0_157 k = some f → mo_Sim 0 k f := mt_leaf (ms_ild (e := (.iload_n 3, 381, 0, 0, 0)) rfl (fun _ _ _ => rfl) : mo_Sim 0 380 (ma_load 0 3 381)) (mt_leaf (ms_pushi (e := (.iconst 2, 382, 0, 0, 0)) rfl (fun _ _ _ => rfl) (by decide) : mo_Sim 0 381 (ma_push (ma_ci (.ofNat 2)) 382)) (mt_none))
set_option maxRecDepth 100000 in
theorem smt0_158 (k : Nat) : ∀ f, mt0_158 k = some f → mo_Sim 0 k f := mt_leaf (ms_iadd (e := (.iadd, 383, 0, 0, 0)) rfl (fun _ _ _ => rfl) : mo_Sim 0 382 (ma_iadd 382 383)) (mt_leaf (ms_iald (e := (.iaload, 384, 0, 0, 0)) rfl (fun _ _ _ => rfl) : mo_Sim 0 383 (ma_iald 383 384)) (mt_leaf (ms_invV (p := 2) (e := (.invokevirtual 42, 387, 149, 0, 1162)) rfl rfl (fun _ _ _ => rfl) rfl rfl rfl (by decide) : mo_Sim 0 384 (ma_inv 149 3 12 12 387)) (mt_none)))
set_option maxRecDepth 100000 in
theorem smt0_156 (k : Nat) : ∀ f, mt0_156 k = some f → mo_Sim 0 k f := mt_node (smt0_157 k) (smt0_158 k)
set_option maxRecDepth 100000 in
theorem smt0_160 (k : Nat) : ∀ f, mt0_160 k = some f → mo_Sim 0 k f := mt_leaf (ms_if2 (e := (.if_icmp .eq 607, 390, 994, 0, 0)) rfl (fun _ _ _ => rfl) : mo_Sim 0 387 (ma_if2 .eq 994 387 390)) (mt_leaf (ms_pushi (e := (.iconst 0, 391, 0, 0, 0)) rfl (fun _ _ _ => rfl) (by decide) : mo_Sim 0 390 (ma_push (ma_ci (.ofNat 0)) 391)) (mt_leaf (ms_ret (e := (.ireturn, 392, 0, 0, 0)) rfl (Or.inr (Or.inl ⟨rfl, rfl, (fun _ _ _ => rfl)⟩)) : mo_Sim 0 391 (ma_ret 1)) (mt_none)))
set_option maxRecDepth 100000 in
theorem smt0_161 (k : Nat) : ∀ f, mt0_161 k = some f → mo_Sim 0 k f := mt_leaf (ms_ald (e := (.aload_n 1, 393, 0, 0, 0)) rfl (fun _ _ _ => rfl) : mo_Sim 0 392 (ma_lda 1 393)) (mt_leaf (ms_ald (e := (.aload_n 0, 394, 0, 0, 0)) rfl (fun _ _ _ => rfl) : mo_Sim 0 393 (ma_lda 0 394)) (mt_leaf (ms_ild (e := (.iload_n 3, 395, 0, 0, 0)) rfl (fun _ _ _ => rfl) : mo_Sim 0 394 (ma_load 0 3 395)) (mt_none)))
set_option maxRecDepth 100000 in
theorem smt0_159 (k : Nat) : ∀ f, mt0_159 k = some f → mo_Sim 0 k f := mt_node (smt0_160 k) (smt0_161 k)
set_option maxRecDepth 100000 in
theorem smt0_155 (k : Nat) : ∀ f, mt0_155 k = some f → mo_Sim 0 k f := mt_node (smt0_156 k) (smt0_159 k)
set_option maxRecDepth 100000 in
theorem smt0_147 (k : Nat) : ∀ f, mt0_147 k = some f → mo_Sim 0 k f := mt_node (smt0_148 k) (smt0_155 k)
set_option maxRecDepth 100000 in
theorem smt0_131 (k : Nat) : ∀ f, mt0_131 k = some f → mo_Sim 0 k f := mt_node (smt0_132 k) (smt0_147 k)
set_option maxRecDepth 100000 in
theorem smt0_166 (k : Nat) : ∀ f, mt0_166 k = some f → mo_Sim 0 k f := mt_leaf (ms_pushi (e := (.iconst 1, 396, 0, 0, 0)) rfl (fun _ _ _ => rfl) (by decide) : mo_Sim 0 395 (ma_push (ma_ci (.ofNat 1)) 396)) (mt_leaf (ms_iadd (e := (.iadd, 397, 0, 0, 0)) rfl (fun _ _ _ => rfl) : mo_Sim 0 396 (ma_iadd 396 397)) (mt_none))
set_option maxRecDepth 100000 in
theorem smt0_167 (k : Nat) : ∀ f, mt0_167 k = some f → mo_Sim 0 k f := mt_leaf (ms_iald (e := (.iaload, 398, 0, 0, 0)) rfl (fun _ _ _ => rfl) : mo_Sim 0 397 (ma_iald 397 398)) (mt_leaf (ms_ald (e := (.aload_n 0, 399, 0, 0, 0)) rfl (fun _ _ _ => rfl) : mo_Sim 0 398 (ma_lda 0 399)) (mt_leaf (ms_ild (e := (.iload_n 3, 400, 0, 0, 0)) rfl (fun _ _ _ => rfl) : mo_Sim 0 399 (ma_load 0 3 400)) (mt_none)))
set_option maxRecDepth 100000 in
theorem smt0_165 (k : Nat) : ∀ f, mt0_165 k = some f → mo_Sim 0 k f := mt_node (smt0_166 k) (smt0_167 k)
set_option maxRecDepth 100000 in
theorem smt0_169 (k : Nat) : ∀ f, mt0_169 k = some f → mo_Sim 0 k f := mt_leaf (ms_pushi (e := (.iconst 2, 401, 0, 0, 0)) rfl (fun _ _ _ => rfl) (by decide) : mo_Sim 0 400 (ma_push (ma_ci (.ofNat 2)) 401)) (mt_leaf (ms_iadd (e := (.iadd, 402, 0, 0, 0)) rfl (fun _ _ _ => rfl) : mo_Sim 0 401 (ma_iadd 401 402)) (mt_none))
set_option maxRecDepth 100000 in
theorem smt0_170 (k : Nat) : ∀ f, mt0_170 k = some f → mo_Sim 0 k f := mt_leaf (ms_iald (e := (.iaload, 403, 0, 0, 0)) rfl (fun _ _ _ => rfl) : mo_Sim 0 402 (ma_iald 402 403)) (mt_leaf (ms_invV (p := 2) (e := (.invokevirtual 43, 406, 99, 0, 605)) rfl rfl (fun _ _ _ => rfl) rfl rfl rfl (by decide) : mo_Sim 0 403 (ma_inv 99 3 3 11 406)) (mt_leaf (ms_ald (e := (.aload_n 2, 407, 0, 0, 0)) rfl (fun _ _ _ => rfl) : mo_Sim 0 406 (ma_lda 2 407)) (mt_none)))
set_option maxRecDepth 100000 in
theorem smt0_168 (k : Nat) : ∀ f, mt0_168 k = some f → mo_Sim 0 k f := mt_node (smt0_169 k) (smt0_170 k)
set_option maxRecDepth 100000 in
theorem smt0_164 (k : Nat) : ∀ f, mt0_164 k = some f → mo_Sim 0 k f := mt_node (smt0_165 k) (smt0_168 k)
set_option maxRecDepth 100000 in
theorem smt0_173 (k : Nat) : ∀ f, mt0_173 k = some f → mo_Sim 0 k f := mt_leaf (ms_ald (e := (.aload_n 0, 408, 0, 0, 0)) rfl (fun _ _ _ => rfl) : mo_Sim 0 407 (ma_lda 0 408)) (mt_leaf (ms_ild (e := (.iload_n 3, 409, 0, 0, 0)) rfl (fun _ _ _ => rfl) : mo_Sim 0 408 (ma_load 0 3 409)) (mt_none))
set_option maxRecDepth 100000 in
theorem smt0_174 (k : Nat) : ∀ f, mt0_174 k = some f → mo_Sim 0 k f := mt_leaf (ms_pushi (e := (.iconst 1, 410, 0, 0, 0)) rfl (fun _ _ _ => rfl) (by decide) : mo_Sim 0 409 (ma_push (ma_ci (.ofNat 1)) 410)) (mt_leaf (ms_iadd (e := (.iadd, 411, 0, 0, 0)) rfl (fun _ _ _ => rfl) : mo_Sim 0 410 (ma_iadd 410 411)) (mt_leaf (ms_iald (e := (.iaload, 412, 0, 0, 0)) rfl (fun _ _ _ => rfl) : mo_Sim 0 411 (ma_iald 411 412)) (mt_none)))
set_option maxRecDepth 100000 in
theorem smt0_172 (k : Nat) : ∀ f, mt0_172 k = some f → mo_Sim 0 k f := mt_node (smt0_173 k) (smt0_174 k)
set_option maxRecDepth 100000 in
theorem smt0_176 (k : Nat) : ∀ f, mt0_176 k = some f → mo_Sim 0 k f := mt_leaf (ms_ald (e := (.aload_n 0, 413, 0, 0, 0)) rfl (fun _ _ _ => rfl) : mo_Sim 0 412 (ma_lda 0 413)) (mt_leaf (ms_ild (e := (.iload_n 3, 414, 0, 0, 0)) rfl (fun _ _ _ => rfl) : mo_Sim 0 413 (ma_load 0 3 414)) (mt_leaf (ms_pushi (e := (.iconst 2, 415, 0, 0, 0)) rfl (fun _ _ _ => rfl) (by decide) : mo_Sim 0 414 (ma_push (ma_ci (.ofNat 2)) 415)) (mt_none)))
set_option maxRecDepth 100000 in
theorem smt0_177 (k : Nat) : ∀ f, mt0_177 k = some f → mo_Sim 0 k f := mt_leaf (ms_iadd (e := (.iadd, 416, 0, 0, 0)) rfl (fun _ _ _ => rfl) : mo_Sim 0 415 (ma_iadd 415 416)) (mt_leaf (ms_iald (e := (.iaload, 417, 0, 0, 0)) rfl (fun _ _ _ => rfl) : mo_Sim 0 416 (ma_iald 416 417)) (mt_leaf (ms_invV (p := 2) (e := (.invokevirtual 46, 420, 150, 0, 1167)) rfl rfl (fun _ _ _ => rfl) rfl rfl rfl (by decide) : mo_Sim 0 417 (ma_inv 150 3 3 12 420)) (mt_none)))
set_option maxRecDepth 100000 in
theorem smt0_175 (k : Nat) : ∀ f, mt0_175 k = some f → mo_Sim 0 k f := mt_node (smt0_176 k) (smt0_177 k)
set_option maxRecDepth 100000 in
theorem smt0_171 (k : Nat) : ∀ f, mt0_171 k = some f → mo_Sim 0 k f := mt_node (smt0_172 k) (smt0_175 k)
set_option maxRecDepth 100000 in
theorem smt0_163 (k : Nat) : ∀ f, mt0_163 k = some f → mo_Sim 0 k f := mt_node (smt0_164 k) (smt0_171 k)
set_option maxRecDepth 100000 in
theorem smt0_181 (k : Nat) : ∀ f, mt0_181 k = some f → mo_Sim 0 k f := mt_leaf (ms_if2 (e := (.if_icmp .eq 574, 423, 994, 0, 0)) rfl (fun _ _ _ => rfl) : mo_Sim 0 420 (ma_if2 .eq 994 420 423)) (mt_leaf (ms_pushi (e := (.iconst 0, 424, 0, 0, 0)) rfl (fun _ _ _ => rfl) (by decide) : mo_Sim 0 423 (ma_push (ma_ci (.ofNat 0)) 424)) (mt_none))
set_option maxRecDepth 100000 in
theorem smt0_182 (k : Nat) : ∀ f, mt0_182 k = some f → mo_Sim 0 k f := mt_leaf (ms_ret (e := (.ireturn, 425, 0, 0, 0)) rfl (Or.inr (Or.inl ⟨rfl, rfl, (fun _ _ _ => rfl)⟩)) : mo_Sim 0 424 (ma_ret 1)) (mt_leaf (ms_ald (e := (.aload_n 1, 426, 0, 0, 0)) rfl (fun _ _ _ => rfl) : mo_Sim 0 425 (ma_lda 1 426)) (mt_leaf (ms_ald (e := (.aload_n 0, 427, 0, 0, 0)) rfl (fun _ _ _ => rfl) : mo_Sim 0 426 (ma_lda 0 427)) (mt_none)))
set_option maxRecDepth 100000 in
theorem smt0_180 (k : Nat) : ∀ f, mt0_180 k = some f → mo_Sim 0 k f := mt_node (smt0_181 k) (smt0_182 k)
set_option maxRecDepth 100000 in
theorem smt0_184 (k : Nat) : ∀ f, mt0_184 k = some f → mo_Sim 0 k f := mt_leaf (ms_ild (e := (.iload_n 3, 428, 0, 0, 0)) rfl (fun _ _ _ => rfl) : mo_Sim 0 427 (ma_load 0 3 428)) (mt_leaf (ms_pushi (e := (.iconst 1, 429, 0, 0, 0)) rfl (fun _ _ _ => rfl) (by decide) : mo_Sim 0 428 (ma_push (ma_ci (.ofNat 1)) 429)) (mt_none))
set_option maxRecDepth 100000 in
theorem smt0_185 (k : Nat) : ∀ f, mt0_185 k = some f → mo_Sim 0 k f := mt_leaf (ms_iadd (e := (.iadd, 430, 0, 0, 0)) rfl (fun _ _ _ => rfl) : mo_Sim 0 429 (ma_iadd 429 430)) (mt_leaf (ms_iald (e := (.iaload, 431, 0, 0, 0)) rfl (fun _ _ _ => rfl) : mo_Sim 0 430 (ma_iald 430 431)) (mt_leaf (ms_invV (p := 1) (e := (.invokevirtual 47, 434, 100, 0, 613)) rfl rfl (fun _ _ _ => rfl) rfl rfl rfl (by decide) : mo_Sim 0 431 (ma_inv 100 2 2 11 434)) (mt_none)))
set_option maxRecDepth 100000 in
theorem smt0_183 (k : Nat) : ∀ f, mt0_183 k = some f → mo_Sim 0 k f := mt_node (smt0_184 k) (smt0_185 k)
set_option maxRecDepth 100000 in
theorem smt0_179 (k : Nat) : ∀ f, mt0_179 k = some f → mo_Sim 0 k f := mt_node (smt0_180 k) (smt0_183 k)
set_option maxRecDepth 100000 in
theorem smt0_188 (k : Nat) : ∀ f, mt0_188 k = some f → mo_Sim 0 k f := mt_leaf (ms_ald (e := (.aload_n 2, 435, 0, 0, 0)) rfl (fun _ _ _ => rfl) : mo_Sim 0 434 (ma_lda 2 435)) (mt_leaf (ms_ald (e := (.aload_n 0, 436, 0, 0, 0)) rfl (fun _ _ _ => rfl) : mo_Sim 0 435 (ma_lda 0 436)) (mt_none))
set_option maxRecDepth 100000 in
theorem smt0_189 (k : Nat) : ∀ f, mt0_189 k = some f → mo_Sim 0 k f := mt_leaf (ms_ild (e := (.iload_n 3, 437, 0, 0, 0)) rfl (fun _ _ _ => rfl) : mo_Sim 0 436 (ma_load 0 3 437)) (mt_leaf (ms_pushi (e := (.iconst 1, 438, 0, 0, 0)) rfl (fun _ _ _ => rfl) (by decide) : mo_Sim 0 437 (ma_push (ma_ci (.ofNat 1)) 438)) (mt_leaf (ms_iadd (e := (.iadd, 439, 0, 0, 0)) rfl (fun _ _ _ => rfl) : mo_Sim 0 438 (ma_iadd 438 439)) (mt_none)))
set_option maxRecDepth 100000 in
theorem smt0_187 (k : Nat) : ∀ f, mt0_187 k = some f → mo_Sim 0 k f := mt_node (smt0_188 k) (smt0_189 k)
set_option maxRecDepth 100000 in
theorem smt0_191 (k : Nat) : ∀ f, mt0_191 k = some f → mo_Sim 0 k f := mt_leaf (ms_iald (e := (.iaload, 440, 0, 0, 0)) rfl (fun _ _ _ => rfl) : mo_Sim 0 439 (ma_iald 439 440)) (mt_leaf (ms_invV (p := 1) (e := (.invokevirtual 51, 443, 151, 0, 1171)) rfl rfl (fun _ _ _ => rfl) rfl rfl rfl (by decide) : mo_Sim 0 440 (ma_inv 151 2 2 12 443)) (mt_leaf (ms_lcmp (e := (.lcmp, 444, 0, 0, 0)) rfl (fun _ _ _ => rfl) : mo_Sim 0 443 (ma_lcmp 444)) (mt_none)))
set_option maxRecDepth 100000 in
theorem smt0_192 (k : Nat) : ∀ f, mt0_192 k = some f → mo_Sim 0 k f := mt_leaf (ms_if0 (e := (.ifCond .eq 550, 447, 994, 0, 0)) rfl (fun _ _ _ => rfl) : mo_Sim 0 444 (ma_if0 .eq 994 444 447)) (mt_leaf (ms_pushi (e := (.iconst 0, 448, 0, 0, 0)) rfl (fun _ _ _ => rfl) (by decide) : mo_Sim 0 447 (ma_push (ma_ci (.ofNat 0)) 448)) (mt_leaf (ms_ret (e := (.ireturn, 449, 0, 0, 0)) rfl (Or.inr (Or.inl ⟨rfl, rfl, (fun _ _ _ => rfl)⟩)) : mo_Sim 0 448 (ma_ret 1)) (mt_none)))
set_option maxRecDepth 100000 in
theorem smt0_190 (k : Nat) : ∀ f, mt0_190 k = some f → mo_Sim 0 k f := mt_node (smt0_191 k) (smt0_192 k)
set_option maxRecDepth 100000 in
theorem smt0_186 (k : Nat) : ∀ f, mt0_186 k = some f → mo_Sim 0 k f := mt_node (smt0_187 k) (smt0_190 k)
set_option maxRecDepth 100000 in
theorem smt0_178 (k : Nat) : ∀ f, mt0_178 k = some f → mo_Sim 0 k f := mt_node (smt0_179 k) (smt0_186 k)
set_option maxRecDepth 100000 in
theorem smt0_162 (k : Nat) : ∀ f, mt0_162 k = some f → mo_Sim 0 k f := mt_node (smt0_163 k) (smt0_178 k)
set_option maxRecDepth 100000 in
theorem smt0_130 (k : Nat) : ∀ f, mt0_130 k = some f → mo_Sim 0 k f := mt_node (smt0_131 k) (smt0_162 k)
set_option maxRecDepth 100000 in
theorem smt0_198 (k : Nat) : ∀ f, mt0_198 k = some f → mo_Sim 0 k f := mt_leaf (ms_ald (e := (.aload_n 1, 450, 0, 0, 0)) rfl (fun _ _ _ => rfl) : mo_Sim 0 449 (ma_lda 1 450)) (mt_leaf (ms_ald (e := (.aload_n 0, 451, 0, 0, 0)) rfl (fun _ _ _ => rfl) : mo_Sim 0 450 (ma_lda 0 451)) (mt_none))
set_option maxRecDepth 100000 in
theorem smt0_199 (k : Nat) : ∀ f, mt0_199 k = some f → mo_Sim 0 k f := mt_leaf (ms_ild (e := (.iload_n 3, 452, 0, 0, 0)) rfl (fun _ _ _ => rfl) : mo_Sim 0 451 (ma_load 0 3 452)) (mt_leaf (ms_pushi (e := (.iconst 1, 453, 0, 0, 0)) rfl (fun _ _ _ => rfl) (by decide) : mo_Sim 0 452 (ma_push (ma_ci (.ofNat 1)) 453)) (mt_leaf (ms_iadd (e := (.iadd, 454, 0, 0, 0)) rfl (fun _ _ _ => rfl) : mo_Sim 0 453 (ma_iadd 453 454)) (mt_none)))
set_option maxRecDepth 100000 in
theorem smt0_197 (k : Nat) : ∀ f, mt0_197 k = some f → mo_Sim 0 k f := mt_node (smt0_198 k) (smt0_199 k)
set_option maxRecDepth 100000 in
theorem smt0_201 (k : Nat) : ∀ f, mt0_201 k = some f → mo_Sim 0 k f := mt_leaf (ms_iald (e := (.iaload, 455, 0, 0, 0)) rfl (fun _ _ _ => rfl) : mo_Sim 0 454 (ma_iald 454 455)) (mt_leaf (ms_ald (e := (.aload_n 0, 456, 0, 0, 0)) rfl (fun _ _ _ => rfl) : mo_Sim 0 455 (ma_lda 0 456)) (mt_none))
set_option maxRecDepth 100000 in
theorem smt0_202 (k : Nat) : ∀ f, mt0_202 k = some f → mo_Sim 0 k f := mt_leaf (ms_ild (e := (.iload_n 3, 457, 0, 0, 0)) rfl (fun _ _ _ => rfl) : mo_Sim 0 456 (ma_load 0 3 457)) (mt_leaf (ms_pushi (e := (.iconst 2, 458, 0, 0, 0)) rfl (fun _ _ _ => rfl) (by decide) : mo_Sim 0 457 (ma_push (ma_ci (.ofNat 2)) 458)) (mt_leaf (ms_iadd (e := (.iadd, 459, 0, 0, 0)) rfl (fun _ _ _ => rfl) : mo_Sim 0 458 (ma_iadd 458 459)) (mt_none)))
set_option maxRecDepth 100000 in
theorem smt0_200 (k : Nat) : ∀ f, mt0_200 k = some f → mo_Sim 0 k f := mt_node (smt0_201 k) (smt0_202 k)
set_option maxRecDepth 100000 in
theorem smt0_196 (k : Nat) : ∀ f, mt0_196 k = some f → mo_Sim 0 k f := mt_node (smt0_197 k) (smt0_200 k)
set_option maxRecDepth 100000 in
theorem smt0_205 (k : Nat) : ∀ f, mt0_205 k = some f → mo_Sim 0 k f := mt_leaf (ms_iald (e := (.iaload, 460, 0, 0, 0)) rfl (fun _ _ _ => rfl) : mo_Sim 0 459 (ma_iald 459 460)) (mt_leaf (ms_invV (p := 2) (e := (.invokevirtual 52, 463, 101, 0, 622)) rfl rfl (fun _ _ _ => rfl) rfl rfl rfl (by decide) : mo_Sim 0 460 (ma_inv 101 3 3 11 463)) (mt_none))
set_option maxRecDepth 100000 in
theorem smt0_206 (k : Nat) : ∀ f, mt0_206 k = some f → mo_Sim 0 k f := mt_leaf (ms_ald (e := (.aload_n 2, 464, 0, 0, 0)) rfl (fun _ _ _ => rfl) : mo_Sim 0 463 (ma_lda 2 464)) (mt_leaf (ms_ald (e := (.aload_n 0, 465, 0, 0, 0)) rfl (fun _ _ _ => rfl) : mo_Sim 0 464 (ma_lda 0 465)) (mt_leaf (ms_ild (e := (.iload_n 3, 466, 0, 0, 0)) rfl (fun _ _ _ => rfl) : mo_Sim 0 465 (ma_load 0 3 466)) (mt_none)))
set_option maxRecDepth 100000 in
theorem smt0_204 (k : Nat) : ∀ f, mt0_204 k = some f → mo_Sim 0 k f := mt_node (smt0_205 k) (smt0_206 k)
set_option maxRecDepth 100000 in
theorem smt0_208 (k : Nat) : ∀ f, mt0_208 k = some f → mo_Sim 0 k f := mt_leaf (ms_pushi (e := (.iconst 1, 467, 0, 0, 0)) rfl (fun _ _ _ => rfl) (by decide) : mo_Sim 0 466 (ma_push (ma_ci (.ofNat 1)) 467)) (mt_leaf (ms_iadd (e := (.iadd, 468, 0, 0, 0)) rfl (fun _ _ _ => rfl) : mo_Sim 0 467 (ma_iadd 467 468)) (mt_leaf (ms_iald (e := (.iaload, 469, 0, 0, 0)) rfl (fun _ _ _ => rfl) : mo_Sim 0 468 (ma_iald 468 469)) (mt_none)))
set_option maxRecDepth 100000 in
theorem smt0_209 (k : Nat) : ∀ f, mt0_209 k = some f → mo_Sim 0 k f := mt_leaf (ms_ald (e := (.aload_n 0, 470, 0, 0, 0)) rfl (fun _ _ _ => rfl) : mo_Sim 0 469 (ma_lda 0 470)) (mt_leaf (ms_ild (e := (.iload_n 3, 471, 0, 0, 0)) rfl (fun _ _ _ => rfl) : mo_Sim 0 470 (ma_load 0 3 471)) (mt_leaf (ms_pushi (e := (.iconst 2, 472, 0, 0, 0)) rfl (fun _ _ _ => rfl) (by decide) : mo_Sim 0 471 (ma_push (ma_ci (.ofNat 2)) 472)) (mt_none)))
set_option maxRecDepth 100000 in
theorem smt0_207 (k : Nat) : ∀ f, mt0_207 k = some f → mo_Sim 0 k f := mt_node (smt0_208 k) (smt0_209 k)
set_option maxRecDepth 100000 in
theorem smt0_203 (k : Nat) : ∀ f, mt0_203 k = some f → mo_Sim 0 k f := mt_node (smt0_204 k) (smt0_207 k)
set_option maxRecDepth 100000 in
theorem smt0_195 (k : Nat) : ∀ f, mt0_195 k = some f → mo_Sim 0 k f := mt_node (smt0_196 k) (smt0_203 k)
set_option maxRecDepth 100000 in
theorem smt0_213 (k : Nat) : ∀ f, mt0_213 k = some f → mo_Sim 0 k f := mt_leaf (ms_iadd (e := (.iadd, 473, 0, 0, 0)) rfl (fun _ _ _ => rfl) : mo_Sim 0 472 (ma_iadd 472 473)) (mt_leaf (ms_iald (e := (.iaload, 474, 0, 0, 0)) rfl (fun _ _ _ => rfl) : mo_Sim 0 473 (ma_iald 473 474)) (mt_none))
set_option maxRecDepth 100000 in
theorem smt0_214 (k : Nat) : ∀ f, mt0_214 k = some f → mo_Sim 0 k f := mt_leaf (ms_invV (p := 2) (e := (.invokevirtual 55, 477, 158, 0, 1176)) rfl rfl (fun _ _ _ => rfl) rfl rfl rfl (by decide) : mo_Sim 0 474 (ma_inv 158 3 3 12 477)) (mt_leaf (ms_if2 (e := (.if_icmp .eq 517, 480, 994, 0, 0)) rfl (fun _ _ _ => rfl) : mo_Sim 0 477 (ma_if2 .eq 994 477 480)) (mt_leaf (ms_pushi (e := (.iconst 0, 481, 0, 0, 0)) rfl (fun _ _ _ => rfl) (by decide) : mo_Sim 0 480 (ma_push (ma_ci (.ofNat 0)) 481)) (mt_none)))
set_option maxRecDepth 100000 in
theorem smt0_212 (k : Nat) : ∀ f, mt0_212 k = some f → mo_Sim 0 k f := mt_node (smt0_213 k) (smt0_214 k)
set_option maxRecDepth 100000 in
theorem smt0_216 (k : Nat) : ∀ f, mt0_216 k = some f → mo_Sim 0 k f := mt_leaf (ms_ret (e := (.ireturn, 482, 0, 0, 0)) rfl (Or.inr (Or.inl ⟨rfl, rfl, (fun _ _ _ => rfl)⟩)) : mo_Sim 0 481 (ma_ret 1)) (mt_leaf (ms_ald (e := (.aload_n 1, 483, 0, 0, 0)) rfl (fun _ _ _ => rfl) : mo_Sim 0 482 (ma_lda 1 483)) (mt_none))
set_option maxRecDepth 100000 in
theorem smt0_217 (k : Nat) : ∀ f, mt0_217 k = some f → mo_Sim 0 k f := mt_leaf (ms_ald (e := (.aload_n 0, 484, 0, 0, 0)) rfl (fun _ _ _ => rfl) : mo_Sim 0 483 (ma_lda 0 484)) (mt_leaf (ms_ild (e := (.iload_n 3, 485, 0, 0, 0)) rfl (fun _ _ _ => rfl) : mo_Sim 0 484 (ma_load 0 3 485)) (mt_leaf (ms_pushi (e := (.iconst 1, 486, 0, 0, 0)) rfl (fun _ _ _ => rfl) (by decide) : mo_Sim 0 485 (ma_push (ma_ci (.ofNat 1)) 486)) (mt_none)))
set_option maxRecDepth 100000 in
theorem smt0_215 (k : Nat) : ∀ f, mt0_215 k = some f → mo_Sim 0 k f := mt_node (smt0_216 k) (smt0_217 k)
set_option maxRecDepth 100000 in
theorem smt0_211 (k : Nat) : ∀ f, mt0_211 k = some f → mo_Sim 0 k f := mt_node (smt0_212 k) (smt0_215 k)
set_option maxRecDepth 100000 in
theorem smt0_220 (k : Nat) : ∀ f, mt0_220 k = some f → mo_Sim 0 k f := mt_leaf (ms_iadd (e := (.iadd, 487, 0, 0, 0)) rfl (fun _ _ _ => rfl) : mo_Sim 0 486 (ma_iadd 486 487)) (mt_leaf (ms_iald (e := (.iaload, 488, 0, 0, 0)) rfl (fun _ _ _ => rfl) : mo_Sim 0 487 (ma_iald 487 488)) (mt_none))
set_option maxRecDepth 100000 in
theorem smt0_221 (k : Nat) : ∀ f, mt0_221 k = some f → mo_Sim 0 k f := mt_leaf (ms_invV (p := 1) (e := (.invokevirtual 56, 491, 102, 0, 641)) rfl rfl (fun _ _ _ => rfl) rfl rfl rfl (by decide) : mo_Sim 0 488 (ma_inv 102 2 5 11 491)) (mt_leaf (ms_ald (e := (.aload_n 2, 492, 0, 0, 0)) rfl (fun _ _ _ => rfl) : mo_Sim 0 491 (ma_lda 2 492)) (mt_leaf (ms_ald (e := (.aload_n 0, 493, 0, 0, 0)) rfl (fun _ _ _ => rfl) : mo_Sim 0 492 (ma_lda 0 493)) (mt_none)))
set_option maxRecDepth 100000 in
theorem smt0_219 (k : Nat) : ∀ f, mt0_219 k = some f → mo_Sim 0 k f := mt_node (smt0_220 k) (smt0_221 k)
set_option maxRecDepth 100000 in
theorem smt0_223 (k : Nat) : ∀ f, mt0_223 k = some f → mo_Sim 0 k f := mt_leaf (ms_ild (e := (.iload_n 3, 494, 0, 0, 0)) rfl (fun _ _ _ => rfl) : mo_Sim 0 493 (ma_load 0 3 494)) (mt_leaf (ms_pushi (e := (.iconst 1, 495, 0, 0, 0)) rfl (fun _ _ _ => rfl) (by decide) : mo_Sim 0 494 (ma_push (ma_ci (.ofNat 1)) 495)) (mt_leaf (ms_iadd (e := (.iadd, 496, 0, 0, 0)) rfl (fun _ _ _ => rfl) : mo_Sim 0 495 (ma_iadd 495 496)) (mt_none)))
set_option maxRecDepth 100000 in
theorem smt0_224 (k : Nat) : ∀ f, mt0_224 k = some f → mo_Sim 0 k f := mt_leaf (ms_iald (e := (.iaload, 497, 0, 0, 0)) rfl (fun _ _ _ => rfl) : mo_Sim 0 496 (ma_iald 496 497)) (mt_leaf (ms_invV (p := 1) (e := (.invokevirtual 59, 500, 159, 0, 1192)) rfl rfl (fun _ _ _ => rfl) rfl rfl rfl (by decide) : mo_Sim 0 497 (ma_inv 159 2 2 12 500)) (mt_leaf (ms_lcmp (e := (.lcmp, 501, 0, 0, 0)) rfl (fun _ _ _ => rfl) : mo_Sim 0 500 (ma_lcmp 501)) (mt_none)))
set_option maxRecDepth 100000 in
theorem smt0_222 (k : Nat) : ∀ f, mt0_222 k = some f → mo_Sim 0 k f := mt_node (smt0_223 k) (smt0_224 k)
set_option maxRecDepth 100000 in
theorem smt0_218 (k : Nat) : ∀ f, mt0_218 k = some f → mo_Sim 0 k f := mt_node (smt0_219 k) (smt0_222 k)
set_option maxRecDepth 100000 in
theorem smt0_210 (k : Nat) : ∀ f, mt0_210 k = some f → mo_Sim 0 k f := mt_node (smt0_211 k) (smt0_218 k)
set_option maxRecDepth 100000 in
theorem smt0_194 (k : Nat) : ∀ f, mt0_194 k = some f → mo_Sim 0 k f := mt_node (smt0_195 k) (smt0_210 k)
set_option maxRecDepth 100000 in
theorem smt0_229 (k : Nat) : ∀ f, mt0_229 k = some f → mo_Sim 0 k f := mt_leaf (ms_if0 (e := (.ifCond .eq 493, 504, 994, 0, 0)) rfl (fun _ _ _ => rfl) : mo_Sim 0 501 (ma_if0 .eq 994 501 504)) (mt_leaf (ms_pushi (e := (.iconst 0, 505, 0, 0, 0)) rfl (fun _ _ _ => rfl) (by decide) : mo_Sim 0 504 (ma_push (ma_ci (.ofNat 0)) 505)) (mt_none))
set_option maxRecDepth 100000 in
theorem smt0_230 (k : Nat) : ∀ f, mt0_230 k = some f → mo_Sim 0 k f := mt_leaf (ms_ret (e := (.ireturn, 506, 0, 0, 0)) rfl (Or.inr (Or.inl ⟨rfl, rfl, (fun _ _ _ => rfl)⟩)) : mo_Sim 0 505 (ma_ret 1)) (mt_leaf (ms_ald (e := (.aload_n 1, 507, 0, 0, 0)) rfl (fun _ _ _ => rfl) : mo_Sim 0 506 (ma_lda 1 507)) (mt_leaf (ms_ald (e := (.aload_n 0, 508, 0, 0, 0)) rfl (fun _ _ _ => rfl) : mo_Sim 0 507 (ma_lda 0 508)) (mt_none)))
set_option maxRecDepth 100000 in
theorem smt0_228 (k : Nat) : ∀ f, mt0_228 k = some f → mo_Sim 0 k f := mt_node (smt0_229 k) (smt0_230 k)
set_option maxRecDepth 100000 in
theorem smt0_232 (k : Nat) : ∀ f, mt0_232 k = some f → mo_Sim 0 k f := mt_leaf (ms_ild (e := (.iload_n 3, 509, 0, 0, 0)) rfl (fun _ _ _ => rfl) : mo_Sim 0 508 (ma_load 0 3 509)) (mt_leaf (ms_pushi (e := (.iconst 1, 510, 0, 0, 0)) rfl (fun _ _ _ => rfl) (by decide) : mo_Sim 0 509 (ma_push (ma_ci (.ofNat 1)) 510)) (mt_none))
set_option maxRecDepth 100000 in
theorem smt0_233 (k : Nat) : ∀ f, mt0_233 k = some f → mo_Sim 0 k f := mt_leaf (ms_iadd (e := (.iadd, 511, 0, 0, 0)) rfl (fun _ _ _ => rfl) : mo_Sim 0 510 (ma_iadd 510 511)) (mt_leaf (ms_iald (e := (.iaload, 512, 0, 0, 0)) rfl (fun _ _ _ => rfl) : mo_Sim 0 511 (ma_iald 511 512)) (mt_leaf (ms_invV (p := 1) (e := (.invokevirtual 60, 515, 103, 0, 653)) rfl rfl (fun _ _ _ => rfl) rfl rfl rfl (by decide) : mo_Sim 0 512 (ma_inv 103 2 5 11 515)) (mt_none)))
set_option maxRecDepth 100000 in
theorem smt0_231 (k : Nat) : ∀ f, mt0_231 k = some f → mo_Sim 0 k f := mt_node (smt0_232 k) (smt0_233 k)
set_option maxRecDepth 100000 in
theorem smt0_227 (k : Nat) : ∀ f, mt0_227 k = some f → mo_Sim 0 k f := mt_node (smt0_228 k) (smt0_231 k)
set_option maxRecDepth 100000 in
theorem smt0_236 (k : Nat) : ∀ f, mt0_236 k = some f → mo_Sim 0 k f := mt_leaf (ms_ald (e := (.aload_n 2, 516, 0, 0, 0)) rfl (fun _ _ _ => rfl) : mo_Sim 0 515 (ma_lda 2 516)) (mt_leaf (ms_ald (e := (.aload_n 0, 517, 0, 0, 0)) rfl (fun _ _ _ => rfl) : mo_Sim 0 516 (ma_lda 0 517)) (mt_none))
set_option maxRecDepth 100000 in
theorem smt0_237 (k : Nat) : ∀ f, mt0_237 k = some f → mo_Sim 0 k f := mt_leaf (ms_ild (e := (.iload_n 3, 518, 0, 0, 0)) rfl (fun _ _ _ => rfl) : mo_Sim 0 517 (ma_load 0 3 518)) (mt_leaf (ms_pushi (e := (.iconst 1, 519, 0, 0, 0)) rfl (fun _ _ _ => rfl) (by decide) : mo_Sim 0 518 (ma_push (ma_ci (.ofNat 1)) 519)) (mt_leaf (ms_iadd (e := (.iadd, 520, 0, 0, 0)) rfl (fun _ _ _ => rfl) : mo_Sim 0 519 (ma_iadd 519 520)) (mt_none)))
set_option maxRecDepth 100000 in
theorem smt0_235 (k : Nat) : ∀ f, mt0_235 k = some f → mo_Sim 0 k f := mt_node (smt0_236 k) (smt0_237 k)
set_option maxRecDepth 100000 in
theorem smt0_239 (k : Nat) : ∀ f, mt0_239 k = some f → mo_Sim 0 k f := mt_leaf (ms_iald (e := (.iaload, 521, 0, 0, 0)) rfl (fun _ _ _ => rfl) : mo_Sim 0 520 (ma_iald 520 521)) (mt_leaf (ms_invV (p := 1) (e := (.invokevirtual 64, 524, 160, 0, 1200)) rfl rfl (fun _ _ _ => rfl) rfl rfl rfl (by decide) : mo_Sim 0 521 (ma_inv 160 2 5 12 524)) (mt_leaf (ms_if2 (e := (.if_icmp .eq 470, 527, 994, 0, 0)) rfl (fun _ _ _ => rfl) : mo_Sim 0 524 (ma_if2 .eq 994 524 527)) (mt_none)))
set_option maxRecDepth 100000 in
theorem smt0_240 (k : Nat) : ∀ f, mt0_240 k = some f → mo_Sim 0 k f := mt_leaf (ms_pushi (e := (.iconst 0, 528, 0, 0, 0)) rfl (fun _ _ _ => rfl) (by decide) : mo_Sim 0 527 (ma_push (ma_ci (.ofNat 0)) 528)) (mt_leaf (ms_ret (e := (.ireturn, 529, 0, 0, 0)) rfl (Or.inr (Or.inl ⟨rfl, rfl, (fun _ _ _ => rfl)⟩)) : mo_Sim 0 528 (ma_ret 1)) (mt_leaf (ms_ald (e := (.aload_n 1, 530, 0, 0, 0)) rfl (fun _ _ _ => rfl) : mo_Sim 0 529 (ma_lda 1 530)) (mt_none)))
set_option maxRecDepth 100000 in
theorem smt0_238 (k : Nat) : ∀ f, mt0_238 k = some f → mo_Sim 0 k f := mt_node (smt0_239 k) (smt0_240 k)
set_option maxRecDepth 100000 in
theorem smt0_234 (k : Nat) : ∀ f, mt0_234 k = some f → mo_Sim 0 k f := mt_node (smt0_235 k) (smt0_238 k)
set_option maxRecDepth 100000 in
theorem smt0_226 (k : Nat) : ∀ f, mt0_226 k = some f → mo_Sim 0 k f := mt_node (smt0_227 k) (smt0_234 k)
set_option maxRecDepth 100000 in
theorem smt0_244 (k : Nat) : ∀ f, mt0_244 k = some f → mo_Sim 0 k f := mt_leaf (ms_ald (e := (.aload_n 0, 531, 0, 0, 0)) rfl (fun _ _ _ => rfl) : mo_Sim 0 530 (ma_lda 0 531)) (mt_leaf (ms_ild (e := (.iload_n 3, 532, 0, 0, 0)) rfl (fun _ _ _ => rfl) : mo_Sim 0 531 (ma_load 0 3 532)) (mt_none))
set_option maxRecDepth 100000 in
theorem smt0_245 (k : Nat) : ∀ f, mt0_245 k = some f → mo_Sim 0 k f := mt_leaf (ms_pushi (e := (.iconst 1, 533, 0, 0, 0)) rfl (fun _ _ _ => rfl) (by decide) : mo_Sim 0 532 (ma_push (ma_ci (.ofNat 1)) 533)) (mt_leaf (ms_iadd (e := (.iadd, 534, 0, 0, 0)) rfl (fun _ _ _ => rfl) : mo_Sim 0 533 (ma_iadd 533 534)) (mt_leaf (ms_iald (e := (.iaload, 535, 0, 0, 0)) rfl (fun _ _ _ => rfl) : mo_Sim 0 534 (ma_iald 534 535)) (mt_none)))
set_option maxRecDepth 100000 in
theorem smt0_243 (k : Nat) : ∀ f, mt0_243 k = some f → mo_Sim 0 k f := mt_node (smt0_244 k) (smt0_245 k)
set_option maxRecDepth 100000 in
theorem smt0_247 (k : Nat) : ∀ f, mt0_247 k = some f → mo_Sim 0 k f := mt_leaf (ms_invV (p := 1) (e := (.invokevirtual 65, 538, 104, 0, 661)) rfl rfl (fun _ _ _ => rfl) rfl rfl rfl (by decide) : mo_Sim 0 535 (ma_inv 104 2 3 11 538)) (mt_leaf (ms_ald (e := (.aload_n 2, 539, 0, 0, 0)) rfl (fun _ _ _ => rfl) : mo_Sim 0 538 (ma_lda 2 539)) (mt_leaf (ms_ald (e := (.aload_n 0, 540, 0, 0, 0)) rfl (fun _ _ _ => rfl) : mo_Sim 0 539 (ma_lda 0 540)) (mt_none)))
set_option maxRecDepth 100000 in
theorem smt0_248 (k : Nat) : ∀ f, mt0_248 k = some f → mo_Sim 0 k f := mt_leaf (ms_ild (e := (.iload_n 3, 541, 0, 0, 0)) rfl (fun _ _ _ => rfl) : mo_Sim 0 540 (ma_load 0 3 541)) (mt_leaf (ms_pushi (e := (.iconst 1, 542, 0, 0, 0)) rfl (fun _ _ _ => rfl) (by decide) : mo_Sim 0 541 (ma_push (ma_ci (.ofNat 1)) 542)) (mt_leaf (ms_iadd (e := (.iadd, 543, 0, 0, 0)) rfl (fun _ _ _ => rfl) : mo_Sim 0 542 (ma_iadd 542 543)) (mt_none)))
set_option maxRecDepth 100000 in
theorem smt0_246 (k : Nat) : ∀ f, mt0_246 k = some f → mo_Sim 0 k f := mt_node (smt0_247 k) (smt0_248 k)
set_option maxRecDepth 100000 in
theorem smt0_242 (k : Nat) : ∀ f, mt0_242 k = some f → mo_Sim 0 k f := mt_node (smt0_243 k) (smt0_246 k)
set_option maxRecDepth 100000 in
theorem smt0_251 (k : Nat) : ∀ f, mt0_251 k = some f → mo_Sim 0 k f := mt_leaf (ms_iald (e := (.iaload, 544, 0, 0, 0)) rfl (fun _ _ _ => rfl) : mo_Sim 0 543 (ma_iald 543 544)) (mt_leaf (ms_invV (p := 1) (e := (.invokevirtual 68, 547, 168, 0, 1208)) rfl rfl (fun _ _ _ => rfl) rfl rfl rfl (by decide) : mo_Sim 0 544 (ma_inv 168 2 2 12 547)) (mt_none))
set_option maxRecDepth 100000 in
theorem smt0_252 (k : Nat) : ∀ f, mt0_252 k = some f → mo_Sim 0 k f := mt_leaf (ms_if2 (e := (.if_icmp .eq 447, 550, 994, 0, 0)) rfl (fun _ _ _ => rfl) : mo_Sim 0 547 (ma_if2 .eq 994 547 550)) (mt_leaf (ms_pushi (e := (.iconst 0, 551, 0, 0, 0)) rfl (fun _ _ _ => rfl) (by decide) : mo_Sim 0 550 (ma_push (ma_ci (.ofNat 0)) 551)) (mt_leaf (ms_ret (e := (.ireturn, 552, 0, 0, 0)) rfl (Or.inr (Or.inl ⟨rfl, rfl, (fun _ _ _ => rfl)⟩)) : mo_Sim 0 551 (ma_ret 1)) (mt_none)))
set_option maxRecDepth 100000 in
theorem smt0_250 (k : Nat) : ∀ f, mt0_250 k = some f → mo_Sim 0 k f := mt_node (smt0_251 k) (smt0_252 k)
set_option maxRecDepth 100000 in
theorem smt0_254 (k : Nat) : ∀ f, mt0_254 k = some f → mo_Sim 0 k f := mt_leaf (ms_ald (e := (.aload_n 1, 553, 0, 0, 0)) rfl (fun _ _ _ => rfl) : mo_Sim 0 552 (ma_lda 1 553)) (mt_leaf (ms_ald (e := (.aload_n 0, 554, 0, 0, 0)) rfl (fun _ _ _ => rfl) : mo_Sim 0 553 (ma_lda 0 554)) (mt_leaf (ms_ild (e := (.iload_n 3, 555, 0, 0, 0)) rfl (fun _ _ _ => rfl) : mo_Sim 0 554 (ma_load 0 3 555)) (mt_none)))
set_option maxRecDepth 100000 in
theorem smt0_255 (k : Nat) : ∀ f, mt0_255 k = some f → mo_Sim 0 k f := mt_leaf (ms_pushi (e := (.iconst 1, 556, 0, 0, 0)) rfl (fun _ _ _ => rfl) (by decide) : mo_Sim 0 555 (ma_push (ma_ci (.ofNat 1)) 556)) (mt_leaf (ms_iadd (e := (.iadd, 557, 0, 0, 0)) rfl (fun _ _ _ => rfl) : mo_Sim 0 556 (ma_iadd 556 557)) (mt_leaf (ms_iald (e := (.iaload, 558, 0, 0, 0)) rfl (fun _ _ _ => rfl) : mo_Sim 0 557 (ma_iald 557 558)) (mt_none)))
set_option maxRecDepth 100000 in
theorem smt0_253 (k : Nat) : ∀ f, mt0_253 k = some f → mo_Sim 0 k f := mt_node (smt0_254 k) (smt0_255 k)
set_option maxRecDepth 100000 in
theorem smt0_249 (k : Nat) : ∀ f, mt0_249 k = some f → mo_Sim 0 k f := mt_node (smt0_250 k) (smt0_253 k)
set_option maxRecDepth 100000 in
theorem smt0_241 (k : Nat) : ∀ f, mt0_241 k = some f → mo_Sim 0 k f := mt_node (smt0_242 k) (smt0_249 k)
set_option maxRecDepth 100000 in
theorem smt0_225 (k : Nat) : ∀ f, mt0_225 k = some f → mo_Sim 0 k f := mt_node (smt0_226 k) (smt0_241 k)
set_option maxRecDepth 100000 in
theorem smt0_193 (k : Nat) : ∀ f, mt0_193 k = some f → mo_Sim 0 k f := mt_node (smt0_194 k) (smt0_225 k)
set_option maxRecDepth 100000 in
theorem smt0_129 (k : Nat) : ∀ f, mt0_129 k = some f → mo_Sim 0 k f := mt_node (smt0_130 k) (smt0_193 k)
set_option maxRecDepth 100000 in
theorem smt0_1 (k : Nat) : ∀ f, mt0_1 k = some f → mo_Sim 0 k f := mt_node (smt0_2 k) (smt0_129 k)
set_option maxRecDepth 100000 in
theorem smt0_263 (k : Nat) : ∀ f, mt0_263 k = some f → mo_Sim 0 k f := mt_leaf (ms_ald (e := (.aload_n 0, 559, 0, 0, 0)) rfl (fun _ _ _ => rfl) : mo_Sim 0 558 (ma_lda 0 559)) (mt_leaf (ms_ild (e := (.iload_n 3, 560, 0, 0, 0)) rfl (fun _ _ _ => rfl) : mo_Sim 0 559 (ma_load 0 3 560)) (mt_none))
set_option maxRecDepth 100000 in
theorem smt0_264 (k : Nat) : ∀ f, mt0_264 k = some f → mo_Sim 0 k f := mt_leaf (ms_pushi (e := (.iconst 2, 561, 0, 0, 0)) rfl (fun _ _ _ => rfl) (by decide) : mo_Sim 0 560 (ma_push (ma_ci (.ofNat 2)) 561)) (mt_leaf (ms_iadd (e := (.iadd, 562, 0, 0, 0)) rfl (fun _ _ _ => rfl) : mo_Sim 0 561 (ma_iadd 561 562)) (mt_leaf (ms_iald (e := (.iaload, 563, 0, 0, 0)) rfl (fun _ _ _ => rfl) : mo_Sim 0 562 (ma_iald 562 563)) (mt_none)))
set_option maxRecDepth 100000 in
theorem smt0_262 (k : Nat) : ∀ f, mt0_262 k = some f → mo_Sim 0 k f := mt_node (smt0_263 k) (smt0_264 k)
set_option maxRecDepth 100000 in
theorem smt0_266 (k : Nat) : ∀ f, mt0_266 k = some f → mo_Sim 0 k f := mt_leaf (ms_ald (e := (.aload_n 0, 564, 0, 0, 0)) rfl (fun _ _ _ => rfl) : mo_Sim 0 563 (ma_lda 0 564)) (mt_leaf (ms_ild (e := (.iload_n 3, 565, 0, 0, 0)) rfl (fun _ _ _ => rfl) : mo_Sim 0 564 (ma_load 0 3 565)) (mt_none))
set_option maxRecDepth 100000 in
theorem smt0_267 (k : Nat) : ∀ f, mt0_267 k = some f → mo_Sim 0 k f := mt_leaf (ms_pushi (e := (.iconst 3, 566, 0, 0, 0)) rfl (fun _ _ _ => rfl) (by decide) : mo_Sim 0 565 (ma_push (ma_ci (.ofNat 3)) 566)) (mt_leaf (ms_iadd (e := (.iadd, 567, 0, 0, 0)) rfl (fun _ _ _ => rfl) : mo_Sim 0 566 (ma_iadd 566 567)) (mt_leaf (ms_iald (e := (.iaload, 568, 0, 0, 0)) rfl (fun _ _ _ => rfl) : mo_Sim 0 567 (ma_iald 567 568)) (mt_none)))
set_option maxRecDepth 100000 in
theorem smt0_265 (k : Nat) : ∀ f, mt0_265 k = some f → mo_Sim 0 k f := mt_node (smt0_266 k) (smt0_267 k)
set_option maxRecDepth 100000 in
theorem smt0_261 (k : Nat) : ∀ f, mt0_261 k = some f → mo_Sim 0 k f := mt_node (smt0_262 k) (smt0_265 k)
set_option maxRecDepth 100000 in
theorem smt0_270 (k : Nat) : ∀ f, mt0_270 k = some f → mo_Sim 0 k f := mt_leaf (ms_invV (p := 3) (e := (.invokevirtual 69, 571, 105, 0, 776)) rfl rfl (fun _ _ _ => rfl) rfl rfl rfl (by decide) : mo_Sim 0 568 (ma_inv 105 4 5 11 571)) (mt_leaf (ms_ald (e := (.aload_n 2, 572, 0, 0, 0)) rfl (fun _ _ _ => rfl) : mo_Sim 0 571 (ma_lda 2 572)) (mt_none))
set_option maxRecDepth 100000 in
theorem smt0_271 (k : Nat) : ∀ f, mt0_271 k = some f → mo_Sim 0 k f := mt_leaf (ms_ald (e := (.aload_n 0, 573, 0, 0, 0)) rfl (fun _ _ _ => rfl) : mo_Sim 0 572 (ma_lda 0 573)) (mt_leaf (ms_ild (e := (.iload_n 3, 574, 0, 0, 0)) rfl (fun _ _ _ => rfl) : mo_Sim 0 573 (ma_load 0 3 574)) (mt_leaf (ms_pushi (e := (.iconst 1, 575, 0, 0, 0)) rfl (fun _ _ _ => rfl) (by decide) : mo_Sim 0 574 (ma_push (ma_ci (.ofNat 1)) 575)) (mt_none)))
set_option maxRecDepth 100000 in
theorem smt0_269 (k : Nat) : ∀ f, mt0_269 k = some f → mo_Sim 0 k f := mt_node (smt0_270 k) (smt0_271 k)
set_option maxRecDepth 100000 in
theorem smt0_273 (k : Nat) : ∀ f, mt0_273 k = some f → mo_Sim 0 k f := mt_leaf (ms_iadd (e := (.iadd, 576, 0, 0, 0)) rfl (fun _ _ _ => rfl) : mo_Sim 0 575 (ma_iadd 575 576)) (mt_leaf (ms_iald (e := (.iaload, 577, 0, 0, 0)) rfl (fun _ _ _ => rfl) : mo_Sim 0 576 (ma_iald 576 577)) (mt_leaf (ms_ald (e := (.aload_n 0, 578, 0, 0, 0)) rfl (fun _ _ _ => rfl) : mo_Sim 0 577 (ma_lda 0 578)) (mt_none)))
set_option maxRecDepth 100000 in
theorem smt0_274 (k : Nat) : ∀ f, mt0_274 k = some f → mo_Sim 0 k f := mt_leaf (ms_ild (e := (.iload_n 3, 579, 0, 0, 0)) rfl (fun _ _ _ => rfl) : mo_Sim 0 578 (ma_load 0 3 579)) (mt_leaf (ms_pushi (e := (.iconst 2, 580, 0, 0, 0)) rfl (fun _ _ _ => rfl) (by decide) : mo_Sim 0 579 (ma_push (ma_ci (.ofNat 2)) 580)) (mt_leaf (ms_iadd (e := (.iadd, 581, 0, 0, 0)) rfl (fun _ _ _ => rfl) : mo_Sim 0 580 (ma_iadd 580 581)) (mt_none)))
set_option maxRecDepth 100000 in
theorem smt0_272 (k : Nat) : ∀ f, mt0_272 k = some f → mo_Sim 0 k f := mt_node (smt0_273 k) (smt0_274 k)
set_option maxRecDepth 100000 in
theorem smt0_268 (k : Nat) : ∀ f, mt0_268 k = some f → mo_Sim 0 k f := mt_node (smt0_269 k) (smt0_272 k)
set_option maxRecDepth 100000 in
theorem smt0_260 (k : Nat) : ∀ f, mt0_260 k = some f → mo_Sim 0 k f := mt_node (smt0_261 k) (smt0_268 k)
set_option maxRecDepth 100000 in
theorem smt0_278 (k : Nat) : ∀ f, mt0_278 k = some f → mo_Sim 0 k f := mt_leaf (ms_iald (e := (.iaload, 582, 0, 0, 0)) rfl (fun _ _ _ => rfl) : mo_Sim 0 581 (ma_iald 581 582)) (mt_leaf (ms_ald (e := (.aload_n 0, 583, 0, 0, 0)) rfl (fun _ _ _ => rfl) : mo_Sim 0 582 (ma_lda 0 583)) (mt_none))
set_option maxRecDepth 100000 in
theorem smt0_279 (k : Nat) : ∀ f, mt0_279 k = some f → mo_Sim 0 k f := mt_leaf (ms_ild (e := (.iload_n 3, 584, 0, 0, 0)) rfl (fun _ _ _ => rfl) : mo_Sim 0 583 (ma_load 0 3 584)) (mt_leaf (ms_pushi (e := (.iconst 3, 585, 0, 0, 0)) rfl (fun _ _ _ => rfl) (by decide) : mo_Sim 0 584 (ma_push (ma_ci (.ofNat 3)) 585)) (mt_leaf (ms_iadd (e := (.iadd, 586, 0, 0, 0)) rfl (fun _ _ _ => rfl) : mo_Sim 0 585 (ma_iadd 585 586)) (mt_none)))
set_option maxRecDepth 100000 in
theorem smt0_277 (k : Nat) : ∀ f, mt0_277 k = some f → mo_Sim 0 k f := mt_node (smt0_278 k) (smt0_279 k)
set_option maxRecDepth 100000 in
theorem smt0_281 (k : Nat) : ∀ f, mt0_281 k = some f → mo_Sim 0 k f := mt_leaf (ms_iald (e := (.iaload, 587, 0, 0, 0)) rfl (fun _ _ _ => rfl) : mo_Sim 0 586 (ma_iald 586 587)) (mt_leaf (ms_invV (p := 3) (e := (.invokevirtual 72, 590, 169, 0, 1246)) rfl rfl (fun _ _ _ => rfl) rfl rfl rfl (by decide) : mo_Sim 0 587 (ma_inv 169 4 4 12 590)) (mt_none))
set_option maxRecDepth 100000 in
theorem smt0_282 (k : Nat) : ∀ f, mt0_282 k = some f → mo_Sim 0 k f := mt_leaf (ms_if2 (e := (.if_icmp .eq 404, 593, 994, 0, 0)) rfl (fun _ _ _ => rfl) : mo_Sim 0 590 (ma_if2 .eq 994 590 593)) (mt_leaf (ms_pushi (e := (.iconst 0, 594, 0, 0, 0)) rfl (fun _ _ _ => rfl) (by decide) : mo_Sim 0 593 (ma_push (ma_ci (.ofNat 0)) 594)) (mt_leaf (ms_ret (e := (.ireturn, 595, 0, 0, 0)) rfl (Or.inr (Or.inl ⟨rfl, rfl, (fun _ _ _ => rfl)⟩)) : mo_Sim 0 594 (ma_ret 1)) (mt_none)))
set_option maxRecDepth 100000 in
theorem smt0_280 (k : Nat) : ∀ f, mt0_280 k = some f → mo_Sim 0 k f := mt_node (smt0_281 k) (smt0_282 k)
set_option maxRecDepth 100000 in
theorem smt0_276 (k : Nat) : ∀ f, mt0_276 k = some f → mo_Sim 0 k f := mt_node (smt0_277 k) (smt0_280 k)
set_option maxRecDepth 100000 in
theorem smt0_285 (k : Nat) : ∀ f, mt0_285 k = some f → mo_Sim 0 k f := mt_leaf (ms_ald (e := (.aload_n 1, 596, 0, 0, 0)) rfl (fun _ _ _ => rfl) : mo_Sim 0 595 (ma_lda 1 596)) (mt_leaf (ms_ald (e := (.aload_n 0, 597, 0, 0, 0)) rfl (fun _ _ _ => rfl) : mo_Sim 0 596 (ma_lda 0 597)) (mt_none))
set_option maxRecDepth 100000 in
theorem smt0_286 (k : Nat) : ∀ f, mt0_286 k = some f → mo_Sim 0 k f := mt_leaf (ms_ild (e := (.iload_n 3, 598, 0, 0, 0)) rfl (fun _ _ _ => rfl) : mo_Sim 0 597 (ma_load 0 3 598)) (mt_leaf (ms_pushi (e := (.iconst 1, 599, 0, 0, 0)) rfl (fun _ _ _ => rfl) (by decide) : mo_Sim 0 598 (ma_push (ma_ci (.ofNat 1)) 599)) (mt_leaf (ms_iadd (e := (.iadd, 600, 0, 0, 0)) rfl (fun _ _ _ => rfl) : mo_Sim 0 599 (ma_iadd 599 600)) (mt_none)))
set_option maxRecDepth 100000 in
theorem smt0_284 (k : Nat) : ∀ f, mt0_284 k = some f → mo_Sim 0 k f := mt_node (smt0_285 k) (smt0_286 k)
set_option maxRecDepth 100000 in
theorem smt0_288 (k : Nat) : ∀ f, mt0_288 k = some f → mo_Sim 0 k f := mt_leaf (ms_iald (e := (.iaload, 601, 0, 0, 0)) rfl (fun _ _ _ => rfl) : mo_Sim 0 600 (ma_iald 600 601)) (mt_leaf (ms_ald (e := (.aload_n 0, 602, 0, 0, 0)) rfl (fun _ _ _ => rfl) : mo_Sim 0 601 (ma_lda 0 602)) (mt_leaf (ms_ild (e := (.iload_n 3, 603, 0, 0, 0)) rfl (fun _ _ _ => rfl) : mo_Sim 0 602 (ma_load 0 3 603)) (mt_none)))
set_option maxRecDepth 100000 in
theorem smt0_289 (k : Nat) : ∀ f, mt0_289 k = some f → mo_Sim 0 k f := mt_leaf (ms_pushi (e := (.iconst 2, 604, 0, 0, 0)) rfl (fun _ _ _ => rfl) (by decide) : mo_Sim 0 603 (ma_push (ma_ci (.ofNat 2)) 604)) (mt_leaf (ms_iadd (e := (.iadd, 605, 0, 0, 0)) rfl (fun _ _ _ => rfl) : mo_Sim 0 604 (ma_iadd 604 605)) (mt_leaf (ms_iald (e := (.iaload, 606, 0, 0, 0)) rfl (fun _ _ _ => rfl) : mo_Sim 0 605 (ma_iald 605 606)) (mt_none)))
set_option maxRecDepth 100000 in
theorem smt0_287 (k : Nat) : ∀ f, mt0_287 k = some f → mo_Sim 0 k f := mt_node (smt0_288 k) (smt0_289 k)
set_option maxRecDepth 100000 in
theorem smt0_283 (k : Nat) : ∀ f, mt0_283 k = some f → mo_Sim 0 k f := mt_node (smt0_284 k) (smt0_287 k)
set_option maxRecDepth 100000 in
theorem smt0_275 (k : Nat) : ∀ f, mt0_275 k = some f → mo_Sim 0 k f := mt_node (smt0_276 k) (smt0_283 k)
set_option maxRecDepth 100000 in
theorem smt0_259 (k : Nat) : ∀ f, mt0_259 k = some f → mo_Sim 0 k f := mt_node (smt0_260 k) (smt0_275 k)
set_option maxRecDepth 100000 in
theorem smt0_294 (k : Nat) : ∀ f, mt0_294 k = some f → mo_Sim 0 k f := mt_leaf (ms_invV (p := 2) (e := (.invokevirtual 73, 609, 106, 0, 780)) rfl rfl (fun _ _ _ => rfl) rfl rfl rfl (by decide) : mo_Sim 0 606 (ma_inv 106 3 4 11 609)) (mt_leaf (ms_ald (e := (.aload_n 2, 610, 0, 0, 0)) rfl (fun _ _ _ => rfl) : mo_Sim 0 609 (ma_lda 2 610)) (mt_none))
set_option maxRecDepth 100000 in
theorem smt0_295 (k : Nat) : ∀ f, mt0_295 k = some f → mo_Sim 0 k f := mt_leaf (ms_ald (e := (.aload_n 0, 611, 0, 0, 0)) rfl (fun _ _ _ => rfl) : mo_Sim 0 610 (ma_lda 0 611)) (mt_leaf (ms_ild (e := (.iload_n 3, 612, 0, 0, 0)) rfl (fun _ _ _ => rfl) : mo_Sim 0 611 (ma_load 0 3 612)) (mt_leaf (ms_pushi (e := (.iconst 1, 613, 0, 0, 0)) rfl (fun _ _ _ => rfl) (by decide) : mo_Sim 0 612 (ma_push (ma_ci (.ofNat 1)) 613)) (mt_none)))
set_option maxRecDepth 100000 in
theorem smt0_293 (k : Nat) : ∀ f, mt0_293 k = some f → mo_Sim 0 k f := mt_node (smt0_294 k) (smt0_295 k)
set_option maxRecDepth 100000 in
theorem smt0_297 (k : Nat) : ∀ f, mt0_297 k = some f → mo_Sim 0 k f := mt_leaf (ms_iadd (e := (.iadd, 614, 0, 0, 0)) rfl (fun _ _ _ => rfl) : mo_Sim 0 613 (ma_iadd 613 614)) (mt_leaf (ms_iald (e := (.iaload, 615, 0, 0, 0)) rfl (fun _ _ _ => rfl) : mo_Sim 0 614 (ma_iald 614 615)) (mt_none))
set_option maxRecDepth 100000 in
theorem smt0_298 (k : Nat) : ∀ f, mt0_298 k = some f → mo_Sim 0 k f := mt_leaf (ms_ald (e := (.aload_n 0, 616, 0, 0, 0)) rfl (fun _ _ _ => rfl) : mo_Sim 0 615 (ma_lda 0 616)) (mt_leaf (ms_ild (e := (.iload_n 3, 617, 0, 0, 0)) rfl (fun _ _ _ => rfl) : mo_Sim 0 616 (ma_load 0 3 617)) (mt_leaf (ms_pushi (e := (.iconst 2, 618, 0, 0, 0)) rfl (fun _ _ _ => rfl) (by decide) : mo_Sim 0 617 (ma_push (ma_ci (.ofNat 2)) 618)) (mt_none)))
set_option maxRecDepth 100000 in
theorem smt0_296 (k : Nat) : ∀ f, mt0_296 k = some f → mo_Sim 0 k f := mt_node (smt0_297 k) (smt0_298 k)
set_option maxRecDepth 100000 in
theorem smt0_292 (k : Nat) : ∀ f, mt0_292 k = some f → mo_Sim 0 k f := mt_node (smt0_293 k) (smt0_296 k)
set_option maxRecDepth 100000 in
theorem smt0_301 (k : Nat) : ∀ f, mt0_301 k = some f → mo_Sim 0 k f := mt_leaf (ms_iadd (e := (.iadd, 619, 0, 0, 0)) rfl (fun _ _ _ => rfl) : mo_Sim 0 618 (ma_iadd 618 619)) (mt_leaf (ms_iald (e := (.iaload, 620, 0, 0, 0)) rfl (fun _ _ _ => rfl) : mo_Sim 0 619 (ma_iald 619 620)) (mt_none))
set_option maxRecDepth 100000 in
theorem smt0_302 (k : Nat) : ∀ f, mt0_302 k = some f → mo_Sim 0 k f := mt_leaf (ms_invV (p := 2) (e := (.invokevirtual 76, 623, 170, 0, 1250)) rfl rfl (fun _ _ _ => rfl) rfl rfl rfl (by decide) : mo_Sim 0 620 (ma_inv 170 3 4 12 623)) (mt_leaf (ms_if2 (e := (.if_icmp .eq 371, 626, 994, 0, 0)) rfl (fun _ _ _ => rfl) : mo_Sim 0 623 (ma_if2 .eq 994 623 626)) (mt_leaf (ms_pushi (e := (.iconst 0, 627, 0, 0, 0)) rfl (fun _ _ _ => rfl) (by decide) : mo_Sim 0 626 (ma_push (ma_ci (.ofNat 0)) 627)) (mt_none)))
set_option maxRecDepth 100000 in
theorem smt0_300 (k : Nat) : ∀ f, mt0_300 k = some f → mo_Sim 0 k f := mt_node (smt0_301 k) (smt0_302 k)
set_option maxRecDepth 100000 in
theorem smt0_304 (k : Nat) : ∀ f, mt0_304 k = some f → mo_Sim 0 k f := mt_leaf (ms_ret (e := (.ireturn, 628, 0, 0, 0)) rfl (Or.inr (Or.inl ⟨rfl, rfl, (fun _ _ _ => rfl)⟩)) : mo_Sim 0 627 (ma_ret 1)) (mt_leaf (ms_ald (e := (.aload_n 1, 629, 0, 0, 0)) rfl (fun _ _ _ => rfl) : mo_Sim 0 628 (ma_lda 1 629)) (mt_leaf (ms_ald (e := (.aload_n 0, 630, 0, 0, 0)) rfl (fun _ _ _ => rfl) : mo_Sim 0 629 (ma_lda 0 630)) (mt_none)))
set_option maxRecDepth 100000 in
theorem smt0_305 (k : Nat) : ∀ f, mt0_305 k = some f → mo_Sim 0 k f := mt_leaf (ms_ild (e := (.iload_n 3, 631, 0, 0, 0)) rfl (fun _ _ _ => rfl) : mo_Sim 0 630 (ma_load 0 3 631)) (mt_leaf (ms_pushi (e := (.iconst 1, 632, 0, 0, 0)) rfl (fun _ _ _ => rfl) (by decide) : mo_Sim 0 631 (ma_push (ma_ci (.ofNat 1)) 632)) (mt_leaf (ms_iadd (e := (.iadd, 633, 0, 0, 0)) rfl (fun _ _ _ => rfl) : mo_Sim 0 632 (ma_iadd 632 633)) (mt_none)))
set_option maxRecDepth 100000 in
theorem smt0_303 (k : Nat) : ∀ f, mt0_303 k = some f → mo_Sim 0 k f := mt_node (smt0_304 k) (smt0_305 k)
set_option maxRecDepth 100000 in
theorem smt0_299 (k : Nat) : ∀ f, mt0_299 k = some f → mo_Sim 0 k f := mt_node (smt0_300 k) (smt0_303 k)
set_option maxRecDepth 100000 in
theorem smt0_291 (k : Nat) : ∀ f, mt0_291 k = some f → mo_Sim 0 k f := mt_node (smt0_292 k) (smt0_299 k)
set_option maxRecDepth 100000 in
theorem smt0_309 (k : Nat) : ∀ f, mt0_309 k = some f → mo_Sim 0 k f := mt_leaf (ms_iald (e := (.iaload, 634, 0, 0, 0)) rfl (fun _ _ _ => rfl) : mo_Sim 0 633 (ma_iald 633 634)) (mt_leaf (ms_ald (e := (.aload_n 0, 635, 0, 0, 0)) rfl (fun _ _ _ => rfl) : mo_Sim 0 634 (ma_lda 0 635)) (mt_none))
set_option maxRecDepth 100000 in
theorem smt0_310 (k : Nat) : ∀ f, mt0_310 k = some f → mo_Sim 0 k f := mt_leaf (ms_ild (e := (.iload_n 3, 636, 0, 0, 0)) rfl (fun _ _ _ => rfl) : mo_Sim 0 635 (ma_load 0 3 636)) (mt_leaf (ms_pushi (e := (.iconst 2, 637, 0, 0, 0)) rfl (fun _ _ _ => rfl) (by decide) : mo_Sim 0 636 (ma_push (ma_ci (.ofNat 2)) 637)) (mt_leaf (ms_iadd (e := (.iadd, 638, 0, 0, 0)) rfl (fun _ _ _ => rfl) : mo_Sim 0 637 (ma_iadd 637 638)) (mt_none)))
set_option maxRecDepth 100000 in
theorem smt0_308 (k : Nat) : ∀ f, mt0_308 k = some f → mo_Sim 0 k f := mt_node (smt0_309 k) (smt0_310 k)
set_option maxRecDepth 100000 in
theorem smt0_312 (k : Nat) : ∀ f, mt0_312 k = some f → mo_Sim 0 k f := mt_leaf (ms_iald (e := (.iaload, 639, 0, 0, 0)) rfl (fun _ _ _ => rfl) : mo_Sim 0 638 (ma_iald 638 639)) (mt_leaf (ms_invV (p := 2) (e := (.invokevirtual 77, 642, 107, 0, 789)) rfl rfl (fun _ _ _ => rfl) rfl rfl rfl (by decide) : mo_Sim 0 639 (ma_inv 107 3 3 11 642)) (mt_none))
set_option maxRecDepth 100000 in
theorem smt0_313 (k : Nat) : ∀ f, mt0_313 k = some f → mo_Sim 0 k f := mt_leaf (ms_ald (e := (.aload_n 2, 643, 0, 0, 0)) rfl (fun _ _ _ => rfl) : mo_Sim 0 642 (ma_lda 2 643)) (mt_leaf (ms_ald (e := (.aload_n 0, 644, 0, 0, 0)) rfl (fun _ _ _ => rfl) : mo_Sim 0 643 (ma_lda 0 644)) (mt_leaf (ms_ild (e := (.iload_n 3, 645, 0, 0, 0)) rfl (fun _ _ _ => rfl) : mo_Sim 0 644 (ma_load 0 3 645)) (mt_none)))
set_option maxRecDepth 100000 in
theorem smt0_311 (k : Nat) : ∀ f, mt0_311 k = some f → mo_Sim 0 k f := mt_node (smt0_312 k) (smt0_313 k)
set_option maxRecDepth 100000 in
theorem smt0_307 (k : Nat) : ∀ f, mt0_307 k = some f → mo_Sim 0 k f := mt_node (smt0_308 k) (smt0_311 k)
set_option maxRecDepth 100000 in
theorem smt0_316 (k : Nat) : ∀ f, mt0_316 k = some f → mo_Sim 0 k f := mt_leaf (ms_pushi (e := (.iconst 1, 646, 0, 0, 0)) rfl (fun _ _ _ => rfl) (by decide) : mo_Sim 0 645 (ma_push (ma_ci (.ofNat 1)) 646)) (mt_leaf (ms_iadd (e := (.iadd, 647, 0, 0, 0)) rfl (fun _ _ _ => rfl) : mo_Sim 0 646 (ma_iadd 646 647)) (mt_none))
set_option maxRecDepth 100000 in
theorem smt0_317 (k : Nat) : ∀ f, mt0_317 k = some f → mo_Sim 0 k f := mt_leaf (ms_iald (e := (.iaload, 648, 0, 0, 0)) rfl (fun _ _ _ => rfl) : mo_Sim 0 647 (ma_iald 647 648)) (mt_leaf (ms_ald (e := (.aload_n 0, 649, 0, 0, 0)) rfl (fun _ _ _ => rfl) : mo_Sim 0 648 (ma_lda 0 649)) (mt_leaf (ms_ild (e := (.iload_n 3, 650, 0, 0, 0)) rfl (fun _ _ _ => rfl) : mo_Sim 0 649 (ma_load 0 3 650)) (mt_none)))
set_option maxRecDepth 100000 in
theorem smt0_315 (k : Nat) : ∀ f, mt0_315 k = some f → mo_Sim 0 k f := mt_node (smt0_316 k) (smt0_317 k)
set_option maxRecDepth 100000 in
theorem smt0_319 (k : Nat) : ∀ f, mt0_319 k = some f → mo_Sim 0 k f := mt_leaf (ms_pushi (e := (.iconst 2, 651, 0, 0, 0)) rfl (fun _ _ _ => rfl) (by decide) : mo_Sim 0 650 (ma_push (ma_ci (.ofNat 2)) 651)) (mt_leaf (ms_iadd (e := (.iadd, 652, 0, 0, 0)) rfl (fun _ _ _ => rfl) : mo_Sim 0 651 (ma_iadd 651 652)) (mt_leaf (ms_iald (e := (.iaload, 653, 0, 0, 0)) rfl (fun _ _ _ => rfl) : mo_Sim 0 652 (ma_iald 652 653)) (mt_none)))
set_option maxRecDepth 100000 in
theorem smt0_320 (k : Nat) : ∀ f, mt0_320 k = some f → mo_Sim 0 k f := mt_leaf (ms_invV (p := 2) (e := (.invokevirtual 80, 656, 174, 0, 1254)) rfl rfl (fun _ _ _ => rfl) rfl rfl rfl (by decide) : mo_Sim 0 653 (ma_inv 174 3 3 12 656)) (mt_leaf (ms_if2 (e := (.if_icmp .eq 338, 659, 994, 0, 0)) rfl (fun _ _ _ => rfl) : mo_Sim 0 656 (ma_if2 .eq 994 656 659)) (mt_leaf (ms_pushi (e := (.iconst 0, 660, 0, 0, 0)) rfl (fun _ _ _ => rfl) (by decide) : mo_Sim 0 659 (ma_push (ma_ci (.ofNat 0)) 660)) (mt_none)))
set_option maxRecDepth 100000 in
theorem smt0_318 (k : Nat) : ∀ f, mt0_318 k = some f → mo_Sim 0 k f := mt_node (smt0_319 k) (smt0_320 k)
set_option maxRecDepth 100000 in
theorem smt0_314 (k : Nat) : ∀ f, mt0_314 k = some f → mo_Sim 0 k f := mt_node (smt0_315 k) (smt0_318 k)
set_option maxRecDepth 100000 in
theorem smt0_306 (k : Nat) : ∀ f, mt0_306 k = some f → mo_Sim 0 k f := mt_node (smt0_307 k) (smt0_314 k)
set_option maxRecDepth 100000 in
theorem smt0_290 (k : Nat) : ∀ f, mt0_290 k = some f → mo_Sim 0 k f := mt_node (smt0_291 k) (smt0_306 k)
set_option maxRecDepth 100000 in
theorem smt0_258 (k : Nat) : ∀ f, mt0_258 k = some f → mo_Sim 0 k f := mt_node (smt0_259 k) (smt0_290 k)
set_option maxRecDepth 100000 in
theorem smt0_326 (k : Nat) : ∀ f, mt0_326 k = some f → mo_Sim 0 k f := mt_leaf (ms_ret (e := (.ireturn, 661, 0, 0, 0)) rfl (Or.inr (Or.inl ⟨rfl, rfl, (fun _ _ _ => rfl)⟩)) : mo_Sim 0 660 (ma_ret 1)) (mt_leaf (ms_ald (e := (.aload_n 1, 662, 0, 0, 0)) rfl (fun _ _ _ => rfl) : mo_Sim 0 661 (ma_lda 1 662)) (mt_none))
set_option maxRecDepth 100000 in
theorem smt0_327 (k : Nat) : ∀ f, mt0_327 k = some f → mo_Sim 0 k f := mt_leaf (ms_ald (e := (.aload_n 0, 663, 0, 0, 0)) rfl (fun _ _ _ => rfl) : mo_Sim 0 662 (ma_lda 0 663)) (mt_leaf (ms_ild (e := (.iload_n 3, 664, 0, 0, 0)) rfl (fun _ _ _ => rfl) : mo_Sim 0 663 (ma_load 0 3 664)) (mt_leaf (ms_pushi (e := (.iconst 1, 665, 0, 0, 0)) rfl (fun _ _ _ => rfl) (by decide) : mo_Sim 0 664 (ma_push (ma_ci (.ofNat 1)) 665)) (mt_none)))
set_option maxRecDepth 100000 in
theorem smt0_325 (k : Nat) : ∀ f, mt0_325 k = some f → mo_Sim 0 k f := mt_node (smt0_326 k) (smt0_327 k)
set_option maxRecDepth 100000 in
theorem smt0_329 (k : Nat) : ∀ f, mt0_329 k = some f → mo_Sim 0 k f := mt_leaf (ms_iadd (e := (.iadd, 666, 0, 0, 0)) rfl (fun _ _ _ => rfl) : mo_Sim 0 665 (ma_iadd 665 666)) (mt_leaf (ms_iald (e := (.iaload, 667, 0, 0, 0)) rfl (fun _ _ _ => rfl) : mo_Sim 0 666 (ma_iald 666 667)) (mt_none))
set_option maxRecDepth 100000 in
theorem smt0_330 (k : Nat) : ∀ f, mt0_330 k = some f → mo_Sim 0 k f := mt_leaf (ms_ald (e := (.aload_n 0, 668, 0, 0, 0)) rfl (fun _ _ _ => rfl) : mo_Sim 0 667 (ma_lda 0 668)) (mt_leaf (ms_ild (e := (.iload_n 3, 669, 0, 0, 0)) rfl (fun _ _ _ => rfl) : mo_Sim 0 668 (ma_load 0 3 669)) (mt_leaf (ms_pushi (e := (.iconst 2, 670, 0, 0, 0)) rfl (fun _ _ _ => rfl) (by decide) : mo_Sim 0 669 (ma_push (ma_ci (.ofNat 2)) 670)) (mt_none)))
set_option maxRecDepth 100000 in
theorem smt0_328 (k : Nat) : ∀ f, mt0_328 k = some f → mo_Sim 0 k f := mt_node (smt0_329 k) (smt0_330 k)
set_option maxRecDepth 100000 in
theorem smt0_324 (k : Nat) : ∀ f, mt0_324 k = some f → mo_Sim 0 k f := mt_node (smt0_325 k) (smt0_328 k)
set_option maxRecDepth 100000 in
theorem smt0_333 (k : Nat) : ∀ f, mt0_333 k = some f → mo_Sim 0 k f := mt_leaf (ms_iadd (e := (.iadd, 671, 0, 0, 0)) rfl (fun _ _ _ => rfl) : mo_Sim 0 670 (ma_iadd 670 671)) (mt_leaf (ms_iald (e := (.iaload, 672, 0, 0, 0)) rfl (fun _ _ _ => rfl) : mo_Sim 0 671 (ma_iald 671 672)) (mt_none))
set_option maxRecDepth 100000 in
theorem smt0_334 (k : Nat) : ∀ f, mt0_334 k = some f → mo_Sim 0 k f := mt_leaf (ms_ald (e := (.aload_n 0, 673, 0, 0, 0)) rfl (fun _ _ _ => rfl) : mo_Sim 0 672 (ma_lda 0 673)) (mt_leaf (ms_ild (e := (.iload_n 3, 674, 0, 0, 0)) rfl (fun _ _ _ => rfl) : mo_Sim 0 673 (ma_load 0 3 674)) (mt_leaf (ms_pushi (e := (.iconst 3, 675, 0, 0, 0)) rfl (fun _ _ _ => rfl) (by decide) : mo_Sim 0 674 (ma_push (ma_ci (.ofNat 3)) 675)) (mt_none)))
set_option maxRecDepth 100000 in
theorem smt0_332 (k : Nat) : ∀ f, mt0_332 k = some f → mo_Sim 0 k f := mt_node (smt0_333 k) (smt0_334 k)
set_option maxRecDepth 100000 in
theorem smt0_336 (k : Nat) : ∀ f, mt0_336 k = some f → mo_Sim 0 k f := mt_leaf (ms_iadd (e := (.iadd, 676, 0, 0, 0)) rfl (fun _ _ _ => rfl) : mo_Sim 0 675 (ma_iadd 675 676)) (mt_leaf (ms_iald (e := (.iaload, 677, 0, 0, 0)) rfl (fun _ _ _ => rfl) : mo_Sim 0 676 (ma_iald 676 677)) (mt_leaf (ms_invV (p := 3) (e := (.invokevirtual 81, 680, 108, 0, 863)) rfl rfl (fun _ _ _ => rfl) rfl rfl rfl (by decide) : mo_Sim 0 677 (ma_inv 108 4 4 11 680)) (mt_none)))
set_option maxRecDepth 100000 in
theorem smt0_337 (k : Nat) : ∀ f, mt0_337 k = some f → mo_Sim 0 k f := mt_leaf (ms_ald (e := (.aload_n 2, 681, 0, 0, 0)) rfl (fun _ _ _ => rfl) : mo_Sim 0 680 (ma_lda 2 681)) (mt_leaf (ms_ald (e := (.aload_n 0, 682, 0, 0, 0)) rfl (fun _ _ _ => rfl) : mo_Sim 0 681 (ma_lda 0 682)) (mt_leaf (ms_ild (e := (.iload_n 3, 683, 0, 0, 0)) rfl (fun _ _ _ => rfl) : mo_Sim 0 682 (ma_load 0 3 683)) (mt_none)))
set_option maxRecDepth 100000 in
theorem smt0_335 (k : Nat) : ∀ f, mt0_335 k = some f → mo_Sim 0 k f := mt_node (smt0_336 k) (smt0_337 k)
set_option maxRecDepth 100000 in
theorem smt0_331 (k : Nat) : ∀ f, mt0_331 k = some f → mo_Sim 0 k f := mt_node (smt0_332 k) (smt0_335 k)
set_option maxRecDepth 100000 in
theorem smt0_323 (k : Nat) : ∀ f, mt0_323 k = some f → mo_Sim 0 k f := mt_node (smt0_324 k) (smt0_331 k)
set_option maxRecDepth 100000 in
theorem smt0_341 (k : Nat) : ∀ f, mt0_341 k = some f → mo_Sim 0 k f := mt_leaf (ms_pushi (e := (.iconst 1, 684, 0, 0, 0)) rfl (fun _ _ _ => rfl) (by decide) : mo_Sim 0 683 (ma_push (ma_ci (.ofNat 1)) 684)) (mt_leaf (ms_iadd (e := (.iadd, 685, 0, 0, 0)) rfl (fun _ _ _ => rfl) : mo_Sim 0 684 (ma_iadd 684 685)) (mt_none))
set_option maxRecDepth 100000 in
theorem smt0_342 (k : Nat) : ∀ f, mt0_342 k = some f → mo_Sim 0 k f := mt_leaf (ms_iald (e := (.iaload, 686, 0, 0, 0)) rfl (fun _ _ _ => rfl) : mo_Sim 0 685 (ma_iald 685 686)) (mt_leaf (ms_ald (e := (.aload_n 0, 687, 0, 0, 0)) rfl (fun _ _ _ => rfl) : mo_Sim 0 686 (ma_lda 0 687)) (mt_leaf (ms_ild (e := (.iload_n 3, 688, 0, 0, 0)) rfl (fun _ _ _ => rfl) : mo_Sim 0 687 (ma_load 0 3 688)) (mt_none)))
set_option maxRecDepth 100000 in
theorem smt0_340 (k : Nat) : ∀ f, mt0_340 k = some f → mo_Sim 0 k f := mt_node (smt0_341 k) (smt0_342 k)
set_option maxRecDepth 100000 in
theorem smt0_344 (k : Nat) : ∀ f, mt0_344 k = some f → mo_Sim 0 k f := mt_leaf (ms_pushi (e := (.iconst 2, 689, 0, 0, 0)) rfl (fun _ _ _ => rfl) (by decide) : mo_Sim 0 688 (ma_push (ma_ci (.ofNat 2)) 689)) (mt_leaf (ms_iadd (e := (.iadd, 690, 0, 0, 0)) rfl (fun _ _ _ => rfl) : mo_Sim 0 689 (ma_iadd 689 690)) (mt_none))
set_option maxRecDepth 100000 in
theorem smt0_345 (k : Nat) : ∀ f, mt0_345 k = some f → mo_Sim 0 k f := mt_leaf (ms_iald (e := (.iaload, 691, 0, 0, 0)) rfl (fun _ _ _ => rfl) : mo_Sim 0 690 (ma_iald 690 691)) (mt_leaf (ms_ald (e := (.aload_n 0, 692, 0, 0, 0)) rfl (fun _ _ _ => rfl) : mo_Sim 0 691 (ma_lda 0 692)) (mt_leaf (ms_ild (e := (.iload_n 3, 693, 0, 0, 0)) rfl (fun _ _ _ => rfl) : mo_Sim 0 692 (ma_load 0 3 693)) (mt_none)))
set_option maxRecDepth 100000 in
theorem smt0_343 (k : Nat) : ∀ f, mt0_343 k = some f → mo_Sim 0 k f := mt_node (smt0_344 k) (smt0_345 k)
set_option maxRecDepth 100000 in
theorem smt0_339 (k : Nat) : ∀ f, mt0_339 k = some f → mo_Sim 0 k f := mt_node (smt0_340 k) (smt0_343 k)
set_option maxRecDepth 100000 in
theorem smt0_348 (k : Nat) : ∀ f, mt0_348 k = some f → mo_Sim 0 k f := mt_leaf (ms_pushi (e := (.iconst 3, 694, 0, 0, 0)) rfl (fun _ _ _ => rfl) (by decide) : mo_Sim 0 693 (ma_push (ma_ci (.ofNat 3)) 694)) (mt_leaf (ms_iadd (e := (.iadd, 695, 0, 0, 0)) rfl (fun _ _ _ => rfl) : mo_Sim 0 694 (ma_iadd 694 695)) (mt_none))
set_option maxRecDepth 100000 in
theorem smt0_349 (k : Nat) : ∀ f, mt0_349 k = some f → mo_Sim 0 k f := mt_leaf (ms_iald (e := (.iaload, 696, 0, 0, 0)) rfl (fun _ _ _ => rfl) : mo_Sim 0 695 (ma_iald 695 696)) (mt_leaf (ms_invV (p := 3) (e := (.invokevirtual 84, 699, 175, 0, 1270)) rfl rfl (fun _ _ _ => rfl) rfl rfl rfl (by decide) : mo_Sim 0 696 (ma_inv 175 4 4 12 699)) (mt_leaf (ms_if2 (e := (.if_icmp .eq 295, 702, 994, 0, 0)) rfl (fun _ _ _ => rfl) : mo_Sim 0 699 (ma_if2 .eq 994 699 702)) (mt_none)))
set_option maxRecDepth 100000 in
theorem smt0_347 (k : Nat) : ∀ f, mt0_347 k = some f → mo_Sim 0 k f := mt_node (smt0_348 k) (smt0_349 k)
set_option maxRecDepth 100000 in
theorem smt0_351 (k : Nat) : ∀ f, mt0_351 k = some f → mo_Sim 0 k f := mt_leaf (ms_pushi (e := (.iconst 0, 703, 0, 0, 0)) rfl (fun _ _ _ => rfl) (by decide) : mo_Sim 0 702 (ma_push (ma_ci (.ofNat 0)) 703)) (mt_leaf (ms_ret (e := (.ireturn, 704, 0, 0, 0)) rfl (Or.inr (Or.inl ⟨rfl, rfl, (fun _ _ _ => rfl)⟩)) : mo_Sim 0 703 (ma_ret 1)) (mt_leaf (ms_ald (e := (.aload_n 1, 705, 0, 0, 0)) rfl (fun _ _ _ => rfl) : mo_Sim 0 704 (ma_lda 1 705)) (mt_none)))
set_option maxRecDepth 100000 in
theorem smt0_352 (k : Nat) : ∀ f, mt0_352 k = some f → mo_Sim 0 k f := mt_leaf (ms_invV (p := 0) (e := (.invokevirtual 85, 708, 109, 0, 881)) rfl rfl (fun _ _ _ => rfl) rfl rfl rfl (by decide) : mo_Sim 0 705 (ma_inv 109 1 3 11 708)) (mt_leaf (ms_ald (e := (.aload_n 2, 709, 0, 0, 0)) rfl (fun _ _ _ => rfl) : mo_Sim 0 708 (ma_lda 2 709)) (mt_leaf (ms_invV (p := 0) (e := (.invokevirtual 89, 712, 176, 0, 1274)) rfl rfl (fun _ _ _ => rfl) rfl rfl rfl (by decide) : mo_Sim 0 709 (ma_inv 176 1 3 12 712)) (mt_none)))
set_option maxRecDepth 100000 in
theorem smt0_350 (k : Nat) : ∀ f, mt0_350 k = some f → mo_Sim 0 k f := mt_node (smt0_351 k) (smt0_352 k)
set_option maxRecDepth 100000 in
theorem smt0_346 (k : Nat) : ∀ f, mt0_346 k = some f → mo_Sim 0 k f := mt_node (smt0_347 k) (smt0_350 k)
set_option maxRecDepth 100000 in
theorem smt0_338 (k : Nat) : ∀ f, mt0_338 k = some f → mo_Sim 0 k f := mt_node (smt0_339 k) (smt0_346 k)
set_option maxRecDepth 100000 in
theorem smt0_322 (k : Nat) : ∀ f, mt0_322 k = some f → mo_Sim 0 k f := mt_node (smt0_323 k) (smt0_338 k)
set_option maxRecDepth 100000 in
theorem smt0_357 (k : Nat) : ∀ f, mt0_357 k = some f → mo_Sim 0 k f := mt_leaf (ms_if2 (e := (.if_icmp .eq 282, 715, 994, 0, 0)) rfl (fun _ _ _ => rfl) : mo_Sim 0 712 (ma_if2 .eq 994 712 715)) (mt_leaf (ms_pushi (e := (.iconst 0, 716, 0, 0, 0)) rfl (fun _ _ _ => rfl) (by decide) : mo_Sim 0 715 (ma_push (ma_ci (.ofNat 0)) 716)) (mt_none))
set_option maxRecDepth 100000 in
theorem smt0_358 (k : Nat) : ∀ f, mt0_358 k = some f → mo_Sim 0 k f := mt_leaf (ms_ret (e := (.ireturn, 717, 0, 0, 0)) rfl (Or.inr (Or.inl ⟨rfl, rfl, (fun _ _ _ => rfl)⟩)) : mo_Sim 0 716 (ma_ret 1)) (mt_leaf (ms_ald (e := (.aload_n 1, 718, 0, 0, 0)) rfl (fun _ _ _ => rfl) : mo_Sim 0 717 (ma_lda 1 718)) (mt_leaf (ms_ald (e := (.aload_n 0, 719, 0, 0, 0)) rfl (fun _ _ _ => rfl) : mo_Sim 0 718 (ma_lda 0 719)) (mt_none)))
set_option maxRecDepth 100000 in
theorem smt0_356 (k : Nat) : ∀ f, mt0_356 k = some f → mo_Sim 0 k f := mt_node (smt0_357 k) (smt0_358 k)
set_option maxRecDepth 100000 in
theorem smt0_360 (k : Nat) : ∀ f, mt0_360 k = some f → mo_Sim 0 k f := mt_leaf (ms_ild (e := (.iload_n 3, 720, 0, 0, 0)) rfl (fun _ _ _ => rfl) : mo_Sim 0 719 (ma_load 0 3 720)) (mt_leaf (ms_pushi (e := (.iconst 1, 721, 0, 0, 0)) rfl (fun _ _ _ => rfl) (by decide) : mo_Sim 0 720 (ma_push (ma_ci (.ofNat 1)) 721)) (mt_none))
set_option maxRecDepth 100000 in
theorem smt0_361 (k : Nat) : ∀ f, mt0_361 k = some f → mo_Sim 0 k f := mt_leaf (ms_iadd (e := (.iadd, 722, 0, 0, 0)) rfl (fun _ _ _ => rfl) : mo_Sim 0 721 (ma_iadd 721 722)) (mt_leaf (ms_iald (e := (.iaload, 723, 0, 0, 0)) rfl (fun _ _ _ => rfl) : mo_Sim 0 722 (ma_iald 722 723)) (mt_leaf (ms_invV (p := 1) (e := (.invokevirtual 90, 726, 110, 0, 885)) rfl rfl (fun _ _ _ => rfl) rfl rfl rfl (by decide) : mo_Sim 0 723 (ma_inv 110 2 2 11 726)) (mt_none)))
set_option maxRecDepth 100000 in
theorem smt0_359 (k : Nat) : ∀ f, mt0_359 k = some f → mo_Sim 0 k f := mt_node (smt0_360 k) (smt0_361 k)
set_option maxRecDepth 100000 in
theorem smt0_355 (k : Nat) : ∀ f, mt0_355 k = some f → mo_Sim 0 k f := mt_node (smt0_356 k) (smt0_359 k)
set_option maxRecDepth 100000 in
theorem smt0_364 (k : Nat) : ∀ f, mt0_364 k = some f → mo_Sim 0 k f := mt_leaf (ms_ald (e := (.aload_n 2, 727, 0, 0, 0)) rfl (fun _ _ _ => rfl) : mo_Sim 0 726 (ma_lda 2 727)) (mt_leaf (ms_ald (e := (.aload_n 0, 728, 0, 0, 0)) rfl (fun _ _ _ => rfl) : mo_Sim 0 727 (ma_lda 0 728)) (mt_none))
set_option maxRecDepth 100000 in
theorem smt0_365 (k : Nat) : ∀ f, mt0_365 k = some f → mo_Sim 0 k f := mt_leaf (ms_ild (e := (.iload_n 3, 729, 0, 0, 0)) rfl (fun _ _ _ => rfl) : mo_Sim 0 728 (ma_load 0 3 729)) (mt_leaf (ms_pushi (e := (.iconst 1, 730, 0, 0, 0)) rfl (fun _ _ _ => rfl) (by decide) : mo_Sim 0 729 (ma_push (ma_ci (.ofNat 1)) 730)) (mt_leaf (ms_iadd (e := (.iadd, 731, 0, 0, 0)) rfl (fun _ _ _ => rfl) : mo_Sim 0 730 (ma_iadd 730 731)) (mt_none)))
set_option maxRecDepth 100000 in
theorem smt0_363 (k : Nat) : ∀ f, mt0_363 k = some f → mo_Sim 0 k f := mt_node (smt0_364 k) (smt0_365 k)
set_option maxRecDepth 100000 in
theorem smt0_367 (k : Nat) : ∀ f, mt0_367 k = some f → mo_Sim 0 k f := mt_leaf (ms_iald (e := (.iaload, 732, 0, 0, 0)) rfl (fun _ _ _ => rfl) : mo_Sim 0 731 (ma_iald 731 732)) (mt_leaf (ms_invV (p := 1) (e := (.invokevirtual 93, 735, 177, 0, 1278)) rfl rfl (fun _ _ _ => rfl) rfl rfl rfl (by decide) : mo_Sim 0 732 (ma_inv 177 2 2 12 735)) (mt_leaf (ms_if2 (e := (.if_icmp .eq 259, 738, 994, 0, 0)) rfl (fun _ _ _ => rfl) : mo_Sim 0 735 (ma_if2 .eq 994 735 738)) (mt_none)))
set_option maxRecDepth 100000 in
theorem smt0_368 (k : Nat) : ∀ f, mt0_368 k = some f → mo_Sim 0 k f := mt_leaf (ms_pushi (e := (.iconst 0, 739, 0, 0, 0)) rfl (fun _ _ _ => rfl) (by decide) : mo_Sim 0 738 (ma_push (ma_ci (.ofNat 0)) 739)) (mt_leaf (ms_ret (e := (.ireturn, 740, 0, 0, 0)) rfl (Or.inr (Or.inl ⟨rfl, rfl, (fun _ _ _ => rfl)⟩)) : mo_Sim 0 739 (ma_ret 1)) (mt_leaf (ms_ald (e := (.aload_n 1, 741, 0, 0, 0)) rfl (fun _ _ _ => rfl) : mo_Sim 0 740 (ma_lda 1 741)) (mt_none)))
set_option maxRecDepth 100000 in
theorem smt0_366 (k : Nat) : ∀ f, mt0_366 k = some f → mo_Sim 0 k f := mt_node (smt0_367 k) (smt0_368 k)
set_option maxRecDepth 100000 in
theorem smt0_362 (k : Nat) : ∀ f, mt0_362 k = some f → mo_Sim 0 k f := mt_node (smt0_363 k) (smt0_366 k)
set_option maxRecDepth 100000 in
theorem smt0_354 (k : Nat) : ∀ f, mt0_354 k = some f → mo_Sim 0 k f := mt_node (smt0_355 k) (smt0_362 k)
set_option maxRecDepth 100000 in
theorem smt0_372 (k : Nat) : ∀ f, mt0_372 k = some f → mo_Sim 0 k f := mt_leaf (ms_invV (p := 0) (e := (.invokevirtual 94, 744, 111, 0, 889)) rfl rfl (fun _ _ _ => rfl) rfl rfl rfl (by decide) : mo_Sim 0 741 (ma_inv 111 1 4 11 744)) (mt_leaf (ms_ald (e := (.aload_n 2, 745, 0, 0, 0)) rfl (fun _ _ _ => rfl) : mo_Sim 0 744 (ma_lda 2 745)) (mt_none))
set_option maxRecDepth 100000 in
theorem smt0_373 (k : Nat) : ∀ f, mt0_373 k = some f → mo_Sim 0 k f := mt_leaf (ms_invV (p := 0) (e := (.invokevirtual 97, 748, 180, 0, 1282)) rfl rfl (fun _ _ _ => rfl) rfl rfl rfl (by decide) : mo_Sim 0 745 (ma_inv 180 1 3 12 748)) (mt_leaf (ms_if2 (e := (.if_icmp .eq 246, 751, 994, 0, 0)) rfl (fun _ _ _ => rfl) : mo_Sim 0 748 (ma_if2 .eq 994 748 751)) (mt_leaf (ms_pushi (e := (.iconst 0, 752, 0, 0, 0)) rfl (fun _ _ _ => rfl) (by decide) : mo_Sim 0 751 (ma_push (ma_ci (.ofNat 0)) 752)) (mt_none)))
set_option maxRecDepth 100000 in
theorem smt0_371 (k : Nat) : ∀ f, mt0_371 k = some f → mo_Sim 0 k f := mt_node (smt0_372 k) (smt0_373 k)
set_option maxRecDepth 100000 in
theorem smt0_375 (k : Nat) : ∀ f, mt0_375 k = some f → mo_Sim 0 k f := mt_leaf (ms_ret (e := (.ireturn, 753, 0, 0, 0)) rfl (Or.inr (Or.inl ⟨rfl, rfl, (fun _ _ _ => rfl)⟩)) : mo_Sim 0 752 (ma_ret 1)) (mt_leaf (ms_ald (e := (.aload_n 1, 754, 0, 0, 0)) rfl (fun _ _ _ => rfl) : mo_Sim 0 753 (ma_lda 1 754)) (mt_leaf (ms_ald (e := (.aload_n 0, 755, 0, 0, 0)) rfl (fun _ _ _ => rfl) : mo_Sim 0 754 (ma_lda 0 755)) (mt_none)))
set_option maxRecDepth 100000 in
theorem smt0_376 (k : Nat) : ∀ f, mt0_376 k = some f → mo_Sim 0 k f := mt_leaf (ms_ild (e := (.iload_n 3, 756, 0, 0, 0)) rfl (fun _ _ _ => rfl) : mo_Sim 0 755 (ma_load 0 3 756)) (mt_leaf (ms_pushi (e := (.iconst 1, 757, 0, 0, 0)) rfl (fun _ _ _ => rfl) (by decide) : mo_Sim 0 756 (ma_push (ma_ci (.ofNat 1)) 757)) (mt_leaf (ms_iadd (e := (.iadd, 758, 0, 0, 0)) rfl (fun _ _ _ => rfl) : mo_Sim 0 757 (ma_iadd 757 758)) (mt_none)))
set_option maxRecDepth 100000 in
theorem smt0_374 (k : Nat) : ∀ f, mt0_374 k = some f → mo_Sim 0 k f := mt_node (smt0_375 k) (smt0_376 k)
set_option maxRecDepth 100000 in
theorem smt0_370 (k : Nat) : ∀ f, mt0_370 k = some f → mo_Sim 0 k f := mt_node (smt0_371 k) (smt0_374 k)
set_option maxRecDepth 100000 in
theorem smt0_379 (k : Nat) : ∀ f, mt0_379 k = some f → mo_Sim 0 k f := mt_leaf (ms_iald (e := (.iaload, 759, 0, 0, 0)) rfl (fun _ _ _ => rfl) : mo_Sim 0 758 (ma_iald 758 759)) (mt_leaf (ms_invV (p := 1) (e := (.invokevirtual 98, 762, 112, 0, 912)) rfl rfl (fun _ _ _ => rfl) rfl rfl rfl (by decide) : mo_Sim 0 759 (ma_inv 112 2 5 11 762)) (mt_none))
set_option maxRecDepth 100000 in
theorem smt0_380 (k : Nat) : ∀ f, mt0_380 k = some f → mo_Sim 0 k f := mt_leaf (ms_ald (e := (.aload_n 2, 763, 0, 0, 0)) rfl (fun _ _ _ => rfl) : mo_Sim 0 762 (ma_lda 2 763)) (mt_leaf (ms_ald (e := (.aload_n 0, 764, 0, 0, 0)) rfl (fun _ _ _ => rfl) : mo_Sim 0 763 (ma_lda 0 764)) (mt_leaf (ms_ild (e := (.iload_n 3, 765, 0, 0, 0)) rfl (fun _ _ _ => rfl) : mo_Sim 0 764 (ma_load 0 3 765)) (mt_none)))
set_option maxRecDepth 100000 in
theorem smt0_378 (k : Nat) : ∀ f, mt0_378 k = some f → mo_Sim 0 k f := mt_node (smt0_379 k) (smt0_380 k)
set_option maxRecDepth 100000 in
theorem smt0_382 (k : Nat) : ∀ f, mt0_382 k = some f → mo_Sim 0 k f := mt_leaf (ms_pushi (e := (.iconst 1, 766, 0, 0, 0)) rfl (fun _ _ _ => rfl) (by decide) : mo_Sim 0 765 (ma_push (ma_ci (.ofNat 1)) 766)) (mt_leaf (ms_iadd (e := (.iadd, 767, 0, 0, 0)) rfl (fun _ _ _ => rfl) : mo_Sim 0 766 (ma_iadd 766 767)) (mt_leaf (ms_iald (e := (.iaload, 768, 0, 0, 0)) rfl (fun _ _ _ => rfl) : mo_Sim 0 767 (ma_iald 767 768)) (mt_none)))
set_option maxRecDepth 100000 in
theorem smt0_383 (k : Nat) : ∀ f, mt0_383 k = some f → mo_Sim 0 k f := mt_leaf (ms_invV (p := 1) (e := (.invokevirtual 101, 771, 181, 0, 1294)) rfl rfl (fun _ _ _ => rfl) rfl rfl rfl (by decide) : mo_Sim 0 768 (ma_inv 181 2 4 12 771)) (mt_leaf (ms_if2 (e := (.if_icmp .eq 223, 774, 994, 0, 0)) rfl (fun _ _ _ => rfl) : mo_Sim 0 771 (ma_if2 .eq 994 771 774)) (mt_leaf (ms_pushi (e := (.iconst 0, 775, 0, 0, 0)) rfl (fun _ _ _ => rfl) (by decide) : mo_Sim 0 774 (ma_push (ma_ci (.ofNat 0)) 775)) (mt_none)))
set_option maxRecDepth 100000 in
theorem smt0_381 (k : Nat) : ∀ f, mt0_381 k = some f → mo_Sim 0 k f := mt_node (smt0_382 k) (smt0_383 k)
set_option maxRecDepth 100000 in
theorem smt0_377 (k : Nat) : ∀ f, mt0_377 k = some f → mo_Sim 0 k f := mt_node (smt0_378 k) (smt0_381 k)
set_option maxRecDepth 100000 in
theorem smt0_369 (k : Nat) : ∀ f, mt0_369 k = some f → mo_Sim 0 k f := mt_node (smt0_370 k) (smt0_377 k)
set_option maxRecDepth 100000 in
theorem smt0_353 (k : Nat) : ∀ f, mt0_353 k = some f → mo_Sim 0 k f := mt_node (smt0_354 k) (smt0_369 k)
set_option maxRecDepth 100000 in
theorem smt0_321 (k : Nat) : ∀ f, mt0_321 k = some f → mo_Sim 0 k f := mt_node (smt0_322 k) (smt0_353 k)
set_option maxRecDepth 100000 in
theorem smt0_257 (k : Nat) : ∀ f, mt0_257 k = some f → mo_Sim 0 k f := mt_node (smt0_258 k) (smt0_321 k)
set_option maxRecDepth 100000 in
theorem smt0_390 (k : Nat) : ∀ f, mt0_390 k = some f → mo_Sim 0 k f := mt_leaf (ms_ret (e := (.ireturn, 776, 0, 0, 0)) rfl (Or.inr (Or.inl ⟨rfl, rfl, (fun _ _ _ => rfl)⟩)) : mo_Sim 0 775 (ma_ret 1)) (mt_leaf (ms_ald (e := (.aload_n 1, 777, 0, 0, 0)) rfl (fun _ _ _ => rfl) : mo_Sim 0 776 (ma_lda 1 777)) (mt_none))
set_option maxRecDepth 100000 in
theorem smt0_391 (k : Nat) : ∀ f, mt0_391 k = some f → mo_Sim 0 k f := mt_leaf (ms_ald (e := (.aload_n 0, 778, 0, 0, 0)) rfl (fun _ _ _ => rfl) : mo_Sim 0 777 (ma_lda 0 778)) (mt_leaf (ms_ild (e := (.iload_n 3, 779, 0, 0, 0)) rfl (fun _ _ _ => rfl) : mo_Sim 0 778 (ma_load 0 3 779)) (mt_leaf (ms_pushi (e := (.iconst 1, 780, 0, 0, 0)) rfl (fun _ _ _ => rfl) (by decide) : mo_Sim 0 779 (ma_push (ma_ci (.ofNat 1)) 780)) (mt_none)))
set_option maxRecDepth 100000 in
theorem smt0_389 (k : Nat) : ∀ f, mt0_389 k = some f → mo_Sim 0 k f := mt_node (smt0_390 k) (smt0_391 k)
set_option maxRecDepth 100000 in
theorem smt0_393 (k : Nat) : ∀ f, mt0_393 k = some f → mo_Sim 0 k f := mt_leaf (ms_iadd (e := (.iadd, 781, 0, 0, 0)) rfl (fun _ _ _ => rfl) : mo_Sim 0 780 (ma_iadd 780 781)) (mt_leaf (ms_iald (e := (.iaload, 782, 0, 0, 0)) rfl (fun _ _ _ => rfl) : mo_Sim 0 781 (ma_iald 781 782)) (mt_none))
set_option maxRecDepth 100000 in
theorem smt0_394 (k : Nat) : ∀ f, mt0_394 k = some f → mo_Sim 0 k f := mt_leaf (ms_invV (p := 1) (e := (.invokevirtual 102, 785, 113, 0, 916)) rfl rfl (fun _ _ _ => rfl) rfl rfl rfl (by decide) : mo_Sim 0 782 (ma_inv 113 2 2 11 785)) (mt_leaf (ms_ald (e := (.aload_n 2, 786, 0, 0, 0)) rfl (fun _ _ _ => rfl) : mo_Sim 0 785 (ma_lda 2 786)) (mt_leaf (ms_ald (e := (.aload_n 0, 787, 0, 0, 0)) rfl (fun _ _ _ => rfl) : mo_Sim 0 786 (ma_lda 0 787)) (mt_none)))
set_option maxRecDepth 100000 in
theorem smt0_392 (k : Nat) : ∀ f, mt0_392 k = some f → mo_Sim 0 k f := mt_node (smt0_393 k) (smt0_394 k)
set_option maxRecDepth 100000 in
theorem smt0_388 (k : Nat) : ∀ f, mt0_388 k = some f → mo_Sim 0 k f := mt_node (smt0_389 k) (smt0_392 k)
set_option maxRecDepth 100000 in
theorem smt0_397 (k : Nat) : ∀ f, mt0_397 k = some f → mo_Sim 0 k f := mt_leaf (ms_ild (e := (.iload_n 3, 788, 0, 0, 0)) rfl (fun _ _ _ => rfl) : mo_Sim 0 787 (ma_load 0 3 788)) (mt_leaf (ms_pushi (e := (.iconst 1, 789, 0, 0, 0)) rfl (fun _ _ _ => rfl) (by decide) : mo_Sim 0 788 (ma_push (ma_ci (.ofNat 1)) 789)) (mt_none))
set_option maxRecDepth 100000 in
theorem smt0_398 (k : Nat) : ∀ f, mt0_398 k = some f → mo_Sim 0 k f := mt_leaf (ms_iadd (e := (.iadd, 790, 0, 0, 0)) rfl (fun _ _ _ => rfl) : mo_Sim 0 789 (ma_iadd 789 790)) (mt_leaf (ms_iald (e := (.iaload, 791, 0, 0, 0)) rfl (fun _ _ _ => rfl) : mo_Sim 0 790 (ma_iald 790 791)) (mt_leaf (ms_invV (p := 1) (e := (.invokevirtual 105, 794, 185, 0, 1298)) rfl rfl (fun _ _ _ => rfl) rfl rfl rfl (by decide) : mo_Sim 0 791 (ma_inv 185 2 4 12 794)) (mt_none)))
set_option maxRecDepth 100000 in
theorem smt0_396 (k : Nat) : ∀ f, mt0_396 k = some f → mo_Sim 0 k f := mt_node (smt0_397 k) (smt0_398 k)
set_option maxRecDepth 100000 in
theorem smt0_400 (k : Nat) : ∀ f, mt0_400 k = some f → mo_Sim 0 k f := mt_leaf (ms_if2 (e := (.if_icmp .eq 200, 797, 994, 0, 0)) rfl (fun _ _ _ => rfl) : mo_Sim 0 794 (ma_if2 .eq 994 794 797)) (mt_leaf (ms_pushi (e := (.iconst 0, 798, 0, 0, 0)) rfl (fun _ _ _ => rfl) (by decide) : mo_Sim 0 797 (ma_push (ma_ci (.ofNat 0)) 798)) (mt_leaf (ms_ret (e := (.ireturn, 799, 0, 0, 0)) rfl (Or.inr (Or.inl ⟨rfl, rfl, (fun _ _ _ => rfl)⟩)) : mo_Sim 0 798 (ma_ret 1)) (mt_none)))
set_option maxRecDepth 100000 in
theorem smt0_401 (k : Nat) : ∀ f, mt0_401 k = some f → mo_Sim 0 k f := mt_leaf (ms_ald (e := (.aload_n 1, 800, 0, 0, 0)) rfl (fun _ _ _ => rfl) : mo_Sim 0 799 (ma_lda 1 800)) (mt_leaf (ms_invV (p := 0) (e := (.invokevirtual 106, 803, 114, 0, 936)) rfl rfl (fun _ _ _ => rfl) rfl rfl rfl (by decide) : mo_Sim 0 800 (ma_inv 114 1 3 11 803)) (mt_leaf (ms_ald (e := (.aload_n 2, 804, 0, 0, 0)) rfl (fun _ _ _ => rfl) : mo_Sim 0 803 (ma_lda 2 804)) (mt_none)))
set_option maxRecDepth 100000 in
theorem smt0_399 (k : Nat) : ∀ f, mt0_399 k = some f → mo_Sim 0 k f := mt_node (smt0_400 k) (smt0_401 k)
set_option maxRecDepth 100000 in
theorem smt0_395 (k : Nat) : ∀ f, mt0_395 k = some f → mo_Sim 0 k f := mt_node (smt0_396 k) (smt0_399 k)
set_option maxRecDepth 100000 in
theorem smt0_387 (k : Nat) : ∀ f, mt0_387 k = some f → mo_Sim 0 k f := mt_node (smt0_388 k) (smt0_395 k)
set_option maxRecDepth 100000 in
theorem smt0_405 (k : Nat) : ∀ f, mt0_405 k = some f → mo_Sim 0 k f := mt_leaf (ms_invV (p := 0) (e := (.invokevirtual 109, 807, 186, 0, 1314)) rfl rfl (fun _ _ _ => rfl) rfl rfl rfl (by decide) : mo_Sim 0 804 (ma_inv 186 1 3 12 807)) (mt_leaf (ms_if2 (e := (.if_icmp .eq 187, 810, 994, 0, 0)) rfl (fun _ _ _ => rfl) : mo_Sim 0 807 (ma_if2 .eq 994 807 810)) (mt_none))
set_option maxRecDepth 100000 in
theorem smt0_406 (k : Nat) : ∀ f, mt0_406 k = some f → mo_Sim 0 k f := mt_leaf (ms_pushi (e := (.iconst 0, 811, 0, 0, 0)) rfl (fun _ _ _ => rfl) (by decide) : mo_Sim 0 810 (ma_push (ma_ci (.ofNat 0)) 811)) (mt_leaf (ms_ret (e := (.ireturn, 812, 0, 0, 0)) rfl (Or.inr (Or.inl ⟨rfl, rfl, (fun _ _ _ => rfl)⟩)) : mo_Sim 0 811 (ma_ret 1)) (mt_leaf (ms_ald (e := (.aload_n 1, 813, 0, 0, 0)) rfl (fun _ _ _ => rfl) : mo_Sim 0 812 (ma_lda 1 813)) (mt_none)))
set_option maxRecDepth 100000 in
theorem smt0_404 (k : Nat) : ∀ f, mt0_404 k = some f → mo_Sim 0 k f := mt_node (smt0_405 k) (smt0_406 k)
set_option maxRecDepth 100000 in
theorem smt0_408 (k : Nat) : ∀ f, mt0_408 k = some f → mo_Sim 0 k f := mt_leaf (ms_ald (e := (.aload_n 0, 814, 0, 0, 0)) rfl (fun _ _ _ => rfl) : mo_Sim 0 813 (ma_lda 0 814)) (mt_leaf (ms_ild (e := (.iload_n 3, 815, 0, 0, 0)) rfl (fun _ _ _ => rfl) : mo_Sim 0 814 (ma_load 0 3 815)) (mt_none))
set_option maxRecDepth 100000 in
theorem smt0_409 (k : Nat) : ∀ f, mt0_409 k = some f → mo_Sim 0 k f := mt_leaf (ms_pushi (e := (.iconst 1, 816, 0, 0, 0)) rfl (fun _ _ _ => rfl) (by decide) : mo_Sim 0 815 (ma_push (ma_ci (.ofNat 1)) 816)) (mt_leaf (ms_iadd (e := (.iadd, 817, 0, 0, 0)) rfl (fun _ _ _ => rfl) : mo_Sim 0 816 (ma_iadd 816 817)) (mt_leaf (ms_iald (e := (.iaload, 818, 0, 0, 0)) rfl (fun _ _ _ => rfl) : mo_Sim 0 817 (ma_iald 817 818)) (mt_none)))
set_option maxRecDepth 100000 in
theorem smt0_407 (k : Nat) : ∀ f, mt0_407 k = some f → mo_Sim 0 k f := mt_node (smt0_408 k) (smt0_409 k)
set_option maxRecDepth 100000 in
theorem smt0_403 (k : Nat) : ∀ f, mt0_403 k = some f → mo_Sim 0 k f := mt_node (smt0_404 k) (smt0_407 k)
set_option maxRecDepth 100000 in
theorem smt0_412 (k : Nat) : ∀ f, mt0_412 k = some f → mo_Sim 0 k f := mt_leaf (ms_invV (p := 1) (e := (.invokevirtual 110, 821, 115, 0, 940)) rfl rfl (fun _ _ _ => rfl) rfl rfl rfl (by decide) : mo_Sim 0 818 (ma_inv 115 2 2 11 821)) (mt_leaf (ms_ald (e := (.aload_n 2, 822, 0, 0, 0)) rfl (fun _ _ _ => rfl) : mo_Sim 0 821 (ma_lda 2 822)) (mt_none))
set_option maxRecDepth 100000 in
theorem smt0_413 (k : Nat) : ∀ f, mt0_413 k = some f → mo_Sim 0 k f := mt_leaf (ms_ald (e := (.aload_n 0, 823, 0, 0, 0)) rfl (fun _ _ _ => rfl) : mo_Sim 0 822 (ma_lda 0 823)) (mt_leaf (ms_ild (e := (.iload_n 3, 824, 0, 0, 0)) rfl (fun _ _ _ => rfl) : mo_Sim 0 823 (ma_load 0 3 824)) (mt_leaf (ms_pushi (e := (.iconst 1, 825, 0, 0, 0)) rfl (fun _ _ _ => rfl) (by decide) : mo_Sim 0 824 (ma_push (ma_ci (.ofNat 1)) 825)) (mt_none)))
set_option maxRecDepth 100000 in
theorem smt0_411 (k : Nat) : ∀ f, mt0_411 k = some f → mo_Sim 0 k f := mt_node (smt0_412 k) (smt0_413 k)
set_option maxRecDepth 100000 in
theorem smt0_415 (k : Nat) : ∀ f, mt0_415 k = some f → mo_Sim 0 k f := mt_leaf (ms_iadd (e := (.iadd, 826, 0, 0, 0)) rfl (fun _ _ _ => rfl) : mo_Sim 0 825 (ma_iadd 825 826)) (mt_leaf (ms_iald (e := (.iaload, 827, 0, 0, 0)) rfl (fun _ _ _ => rfl) : mo_Sim 0 826 (ma_iald 826 827)) (mt_leaf (ms_invV (p := 1) (e := (.invokevirtual 113, 830, 187, 0, 1319)) rfl rfl (fun _ _ _ => rfl) rfl rfl rfl (by decide) : mo_Sim 0 827 (ma_inv 187 2 2 12 830)) (mt_none)))
set_option maxRecDepth 100000 in
theorem smt0_416 (k : Nat) : ∀ f, mt0_416 k = some f → mo_Sim 0 k f := mt_leaf (ms_if2 (e := (.if_icmp .eq 164, 833, 994, 0, 0)) rfl (fun _ _ _ => rfl) : mo_Sim 0 830 (ma_if2 .eq 994 830 833)) (mt_leaf (ms_pushi (e := (.iconst 0, 834, 0, 0, 0)) rfl (fun _ _ _ => rfl) (by decide) : mo_Sim 0 833 (ma_push (ma_ci (.ofNat 0)) 834)) (mt_leaf (ms_ret (e := (.ireturn, 835, 0, 0, 0)) rfl (Or.inr (Or.inl ⟨rfl, rfl, (fun _ _ _ => rfl)⟩)) : mo_Sim 0 834 (ma_ret 1)) (mt_none)))
set_option maxRecDepth 100000 in
theorem smt0_414 (k : Nat) : ∀ f, mt0_414 k = some f → mo_Sim 0 k f := mt_node (smt0_415 k) (smt0_416 k)
set_option maxRecDepth 100000 in
theorem smt0_410 (k : Nat) : ∀ f, mt0_410 k = some f → mo_Sim 0 k f := mt_node (smt0_411 k) (smt0_414 k)
set_option maxRecDepth 100000 in
theorem smt0_402 (k : Nat) : ∀ f, mt0_402 k = some f → mo_Sim 0 k f := mt_node (smt0_403 k) (smt0_410 k)
set_option maxRecDepth 100000 in
theorem smt0_386 (k : Nat) : ∀ f, mt0_386 k = some f → mo_Sim 0 k f := mt_node (smt0_387 k) (smt0_402 k)
set_option maxRecDepth 100000 in
theorem smt0_421 (k : Nat) : ∀ f, mt0_421 k = some f → mo_Sim 0 k f := mt_leaf (ms_ald (e := (.aload_n 1, 836, 0, 0, 0)) rfl (fun _ _ _ => rfl) : mo_Sim 0 835 (ma_lda 1 836)) (mt_leaf (ms_ald (e := (.aload_n 0, 837, 0, 0, 0)) rfl (fun _ _ _ => rfl) : mo_Sim 0 836 (ma_lda 0 837)) (mt_none))
set_option maxRecDepth 100000 in
theorem smt0_422 (k : Nat) : ∀ f, mt0_422 k = some f → mo_Sim 0 k f := mt_leaf (ms_ild (e := (.iload_n 3, 838, 0, 0, 0)) rfl (fun _ _ _ => rfl) : mo_Sim 0 837 (ma_load 0 3 838)) (mt_leaf (ms_pushi (e := (.iconst 1, 839, 0, 0, 0)) rfl (fun _ _ _ => rfl) (by decide) : mo_Sim 0 838 (ma_push (ma_ci (.ofNat 1)) 839)) (mt_leaf (ms_iadd (e := (.iadd, 840, 0, 0, 0)) rfl (fun _ _ _ => rfl) : mo_Sim 0 839 (ma_iadd 839 840)) (mt_none)))
set_option maxRecDepth 100000 in
theorem smt0_420 (k : Nat) : ∀ f, mt0_420 k = some f → mo_Sim 0 k f := mt_node (smt0_421 k) (smt0_422 k)
set_option maxRecDepth 100000 in
theorem smt0_424 (k : Nat) : ∀ f, mt0_424 k = some f → mo_Sim 0 k f := mt_leaf (ms_iald (e := (.iaload, 841, 0, 0, 0)) rfl (fun _ _ _ => rfl) : mo_Sim 0 840 (ma_iald 840 841)) (mt_leaf (ms_ald (e := (.aload_n 0, 842, 0, 0, 0)) rfl (fun _ _ _ => rfl) : mo_Sim 0 841 (ma_lda 0 842)) (mt_none))
set_option maxRecDepth 100000 in
theorem smt0_425 (k : Nat) : ∀ f, mt0_425 k = some f → mo_Sim 0 k f := mt_leaf (ms_ild (e := (.iload_n 3, 843, 0, 0, 0)) rfl (fun _ _ _ => rfl) : mo_Sim 0 842 (ma_load 0 3 843)) (mt_leaf (ms_pushi (e := (.iconst 2, 844, 0, 0, 0)) rfl (fun _ _ _ => rfl) (by decide) : mo_Sim 0 843 (ma_push (ma_ci (.ofNat 2)) 844)) (mt_leaf (ms_iadd (e := (.iadd, 845, 0, 0, 0)) rfl (fun _ _ _ => rfl) : mo_Sim 0 844 (ma_iadd 844 845)) (mt_none)))
set_option maxRecDepth 100000 in
theorem smt0_423 (k : Nat) : ∀ f, mt0_423 k = some f → mo_Sim 0 k f := mt_node (smt0_424 k) (smt0_425 k)
set_option maxRecDepth 100000 in
theorem smt0_419 (k : Nat) : ∀ f, mt0_419 k = some f → mo_Sim 0 k f := mt_node (smt0_420 k) (smt0_423 k)
set_option maxRecDepth 100000 in
theorem smt0_428 (k : Nat) : ∀ f, mt0_428 k = some f → mo_Sim 0 k f := mt_leaf (ms_iald (e := (.iaload, 846, 0, 0, 0)) rfl (fun _ _ _ => rfl) : mo_Sim 0 845 (ma_iald 845 846)) (mt_leaf (ms_ald (e := (.aload_n 0, 847, 0, 0, 0)) rfl (fun _ _ _ => rfl) : mo_Sim 0 846 (ma_lda 0 847)) (mt_none))
set_option maxRecDepth 100000 in
theorem smt0_429 (k : Nat) : ∀ f, mt0_429 k = some f → mo_Sim 0 k f := mt_leaf (ms_ild (e := (.iload_n 3, 848, 0, 0, 0)) rfl (fun _ _ _ => rfl) : mo_Sim 0 847 (ma_load 0 3 848)) (mt_leaf (ms_pushi (e := (.iconst 3, 849, 0, 0, 0)) rfl (fun _ _ _ => rfl) (by decide) : mo_Sim 0 848 (ma_push (ma_ci (.ofNat 3)) 849)) (mt_leaf (ms_iadd (e := (.iadd, 850, 0, 0, 0)) rfl (fun _ _ _ => rfl) : mo_Sim 0 849 (ma_iadd 849 850)) (mt_none)))
set_option maxRecDepth 100000 in
theorem smt0_427 (k : Nat) : ∀ f, mt0_427 k = some f → mo_Sim 0 k f := mt_node (smt0_428 k) (smt0_429 k)
set_option maxRecDepth 100000 in
theorem smt0_431 (k : Nat) : ∀ f, mt0_431 k = some f → mo_Sim 0 k f := mt_leaf (ms_iald (e := (.iaload, 851, 0, 0, 0)) rfl (fun _ _ _ => rfl) : mo_Sim 0 850 (ma_iald 850 851)) (mt_leaf (ms_ald (e := (.aload_n 0, 852, 0, 0, 0)) rfl (fun _ _ _ => rfl) : mo_Sim 0 851 (ma_lda 0 852)) (mt_leaf (ms_ild (e := (.iload_n 3, 853, 0, 0, 0)) rfl (fun _ _ _ => rfl) : mo_Sim 0 852 (ma_load 0 3 853)) (mt_none)))
set_option maxRecDepth 100000 in
theorem smt0_432 (k : Nat) : ∀ f, mt0_432 k = some f → mo_Sim 0 k f := mt_leaf (ms_pushi (e := (.iconst 4, 854, 0, 0, 0)) rfl (fun _ _ _ => rfl) (by decide) : mo_Sim 0 853 (ma_push (ma_ci (.ofNat 4)) 854)) (mt_leaf (ms_iadd (e := (.iadd, 855, 0, 0, 0)) rfl (fun _ _ _ => rfl) : mo_Sim 0 854 (ma_iadd 854 855)) (mt_leaf (ms_iald (e := (.iaload, 856, 0, 0, 0)) rfl (fun _ _ _ => rfl) : mo_Sim 0 855 (ma_iald 855 856)) (mt_none)))
set_option maxRecDepth 100000 in
theorem smt0_430 (k : Nat) : ∀ f, mt0_430 k = some f → mo_Sim 0 k f := mt_node (smt0_431 k) (smt0_432 k)
set_option maxRecDepth 100000 in
theorem smt0_426 (k : Nat) : ∀ f, mt0_426 k = some f → mo_Sim 0 k f := mt_node (smt0_427 k) (smt0_430 k)
set_option maxRecDepth 100000 in
theorem smt0_418 (k : Nat) : ∀ f, mt0_418 k = some f → mo_Sim 0 k f := mt_node (smt0_419 k) (smt0_426 k)
set_option maxRecDepth 100000 in
theorem smt0_436 (k : Nat) : ∀ f, mt0_436 k = some f → mo_Sim 0 k f := mt_leaf (ms_invV (p := 4) (e := (.invokevirtual 114, 859, 116, 0, 944)) rfl rfl (fun _ _ _ => rfl) rfl rfl rfl (by decide) : mo_Sim 0 856 (ma_inv 116 5 8 11 859)) (mt_leaf (ms_ald (e := (.aload_n 2, 860, 0, 0, 0)) rfl (fun _ _ _ => rfl) : mo_Sim 0 859 (ma_lda 2 860)) (mt_none))
set_option maxRecDepth 100000 in
theorem smt0_437 (k : Nat) : ∀ f, mt0_437 k = some f → mo_Sim 0 k f := mt_leaf (ms_ald (e := (.aload_n 0, 861, 0, 0, 0)) rfl (fun _ _ _ => rfl) : mo_Sim 0 860 (ma_lda 0 861)) (mt_leaf (ms_ild (e := (.iload_n 3, 862, 0, 0, 0)) rfl (fun _ _ _ => rfl) : mo_Sim 0 861 (ma_load 0 3 862)) (mt_leaf (ms_pushi (e := (.iconst 1, 863, 0, 0, 0)) rfl (fun _ _ _ => rfl) (by decide) : mo_Sim 0 862 (ma_push (ma_ci (.ofNat 1)) 863)) (mt_none)))
set_option maxRecDepth 100000 in
theorem smt0_435 (k : Nat) : ∀ f, mt0_435 k = some f → mo_Sim 0 k f := mt_node (smt0_436 k) (smt0_437 k)
set_option maxRecDepth 100000 in
theorem smt0_439 (k : Nat) : ∀ f, mt0_439 k = some f → mo_Sim 0 k f := mt_leaf (ms_iadd (e := (.iadd, 864, 0, 0, 0)) rfl (fun _ _ _ => rfl) : mo_Sim 0 863 (ma_iadd 863 864)) (mt_leaf (ms_iald (e := (.iaload, 865, 0, 0, 0)) rfl (fun _ _ _ => rfl) : mo_Sim 0 864 (ma_iald 864 865)) (mt_none))
set_option maxRecDepth 100000 in
theorem smt0_440 (k : Nat) : ∀ f, mt0_440 k = some f → mo_Sim 0 k f := mt_leaf (ms_ald (e := (.aload_n 0, 866, 0, 0, 0)) rfl (fun _ _ _ => rfl) : mo_Sim 0 865 (ma_lda 0 866)) (mt_leaf (ms_ild (e := (.iload_n 3, 867, 0, 0, 0)) rfl (fun _ _ _ => rfl) : mo_Sim 0 866 (ma_load 0 3 867)) (mt_leaf (ms_pushi (e := (.iconst 2, 868, 0, 0, 0)) rfl (fun _ _ _ => rfl) (by decide) : mo_Sim 0 867 (ma_push (ma_ci (.ofNat 2)) 868)) (mt_none)))
set_option maxRecDepth 100000 in
theorem smt0_438 (k : Nat) : ∀ f, mt0_438 k = some f → mo_Sim 0 k f := mt_node (smt0_439 k) (smt0_440 k)
set_option maxRecDepth 100000 in
theorem smt0_434 (k : Nat) : ∀ f, mt0_434 k = some f → mo_Sim 0 k f := mt_node (smt0_435 k) (smt0_438 k)
set_option maxRecDepth 100000 in
theorem smt0_443 (k : Nat) : ∀ f, mt0_443 k = some f → mo_Sim 0 k f := mt_leaf (ms_iadd (e := (.iadd, 869, 0, 0, 0)) rfl (fun _ _ _ => rfl) : mo_Sim 0 868 (ma_iadd 868 869)) (mt_leaf (ms_iald (e := (.iaload, 870, 0, 0, 0)) rfl (fun _ _ _ => rfl) : mo_Sim 0 869 (ma_iald 869 870)) (mt_none))
set_option maxRecDepth 100000 in
theorem smt0_444 (k : Nat) : ∀ f, mt0_444 k = some f → mo_Sim 0 k f := mt_leaf (ms_ald (e := (.aload_n 0, 871, 0, 0, 0)) rfl (fun _ _ _ => rfl) : mo_Sim 0 870 (ma_lda 0 871)) (mt_leaf (ms_ild (e := (.iload_n 3, 872, 0, 0, 0)) rfl (fun _ _ _ => rfl) : mo_Sim 0 871 (ma_load 0 3 872)) (mt_leaf (ms_pushi (e := (.iconst 3, 873, 0, 0, 0)) rfl (fun _ _ _ => rfl) (by decide) : mo_Sim 0 872 (ma_push (ma_ci (.ofNat 3)) 873)) (mt_none)))
set_option maxRecDepth 100000 in
theorem smt0_442 (k : Nat) : ∀ f, mt0_442 k = some f → mo_Sim 0 k f := mt_node (smt0_443 k) (smt0_444 k)
set_option maxRecDepth 100000 in
theorem smt0_446 (k : Nat) : ∀ f, mt0_446 k = some f → mo_Sim 0 k f := mt_leaf (ms_iadd (e := (.iadd, 874, 0, 0, 0)) rfl (fun _ _ _ => rfl) : mo_Sim 0 873 (ma_iadd 873 874)) (mt_leaf (ms_iald (e := (.iaload, 875, 0, 0, 0)) rfl (fun _ _ _ => rfl) : mo_Sim 0 874 (ma_iald 874 875)) (mt_leaf (ms_ald (e := (.aload_n 0, 876, 0, 0, 0)) rfl (fun _ _ _ => rfl) : mo_Sim 0 875 (ma_lda 0 876)) (mt_none)))
set_option maxRecDepth 100000 in
theorem smt0_447 (k : Nat) : ∀ f, mt0_447 k = some f → mo_Sim 0 k f := mt_leaf (ms_ild (e := (.iload_n 3, 877, 0, 0, 0)) rfl (fun _ _ _ => rfl) : mo_Sim 0 876 (ma_load 0 3 877)) (mt_leaf (ms_pushi (e := (.iconst 4, 878, 0, 0, 0)) rfl (fun _ _ _ => rfl) (by decide) : mo_Sim 0 877 (ma_push (ma_ci (.ofNat 4)) 878)) (mt_leaf (ms_iadd (e := (.iadd, 879, 0, 0, 0)) rfl (fun _ _ _ => rfl) : mo_Sim 0 878 (ma_iadd 878 879)) (mt_none)))
set_option maxRecDepth 100000 in
theorem smt0_445 (k : Nat) : ∀ f, mt0_445 k = some f → mo_Sim 0 k f := mt_node (smt0_446 k) (smt0_447 k)
set_option maxRecDepth 100000 in
theorem smt0_441 (k : Nat) : ∀ f, mt0_441 k = some f → mo_Sim 0 k f := mt_node (smt0_442 k) (smt0_445 k)
set_option maxRecDepth 100000 in
theorem smt0_433 (k : Nat) : ∀ f, mt0_433 k = some f → mo_Sim 0 k f := mt_node (smt0_434 k) (smt0_441 k)
set_option maxRecDepth 100000 in
theorem smt0_417 (k : Nat) : ∀ f, mt0_417 k = some f → mo_Sim 0 k f := mt_node (smt0_418 k) (smt0_433 k)
set_option maxRecDepth 100000 in
theorem smt0_385 (k : Nat) : ∀ f, mt0_385 k = some f → mo_Sim 0 k f := mt_node (smt0_386 k) (smt0_417 k)
set_option maxRecDepth 100000 in
theorem smt0_453 (k : Nat) : ∀ f, mt0_453 k = some f → mo_Sim 0 k f := mt_leaf (ms_iald (e := (.iaload, 880, 0, 0, 0)) rfl (fun _ _ _ => rfl) : mo_Sim 0 879 (ma_iald 879 880)) (mt_leaf (ms_invV (p := 4) (e := (.invokevirtual 118, 883, 189, 0, 1323)) rfl rfl (fun _ _ _ => rfl) rfl rfl rfl (by decide) : mo_Sim 0 880 (ma_inv 189 5 5 12 883)) (mt_none))
set_option maxRecDepth 100000 in
theorem smt0_454 (k : Nat) : ∀ f, mt0_454 k = some f → mo_Sim 0 k f := mt_leaf (ms_if2 (e := (.if_icmp .eq 111, 886, 994, 0, 0)) rfl (fun _ _ _ => rfl) : mo_Sim 0 883 (ma_if2 .eq 994 883 886)) (mt_leaf (ms_pushi (e := (.iconst 0, 887, 0, 0, 0)) rfl (fun _ _ _ => rfl) (by decide) : mo_Sim 0 886 (ma_push (ma_ci (.ofNat 0)) 887)) (mt_leaf (ms_ret (e := (.ireturn, 888, 0, 0, 0)) rfl (Or.inr (Or.inl ⟨rfl, rfl, (fun _ _ _ => rfl)⟩)) : mo_Sim 0 887 (ma_ret 1)) (mt_none)))
set_option maxRecDepth 100000 in
theorem smt0_452 (k : Nat) : ∀ f, mt0_452 k = some f → mo_Sim 0 k f := mt_node (smt0_453 k) (smt0_454 k)
set_option maxRecDepth 100000 in
theorem smt0_456 (k : Nat) : ∀ f, mt0_456 k = some f → mo_Sim 0 k f := mt_leaf (ms_ald (e := (.aload_n 1, 889, 0, 0, 0)) rfl (fun _ _ _ => rfl) : mo_Sim 0 888 (ma_lda 1 889)) (mt_leaf (ms_ald (e := (.aload_n 0, 890, 0, 0, 0)) rfl (fun _ _ _ => rfl) : mo_Sim 0 889 (ma_lda 0 890)) (mt_none))
set_option maxRecDepth 100000 in
theorem smt0_457 (k : Nat) : ∀ f, mt0_457 k = some f → mo_Sim 0 k f := mt_leaf (ms_ild (e := (.iload_n 3, 891, 0, 0, 0)) rfl (fun _ _ _ => rfl) : mo_Sim 0 890 (ma_load 0 3 891)) (mt_leaf (ms_pushi (e := (.iconst 1, 892, 0, 0, 0)) rfl (fun _ _ _ => rfl) (by decide) : mo_Sim 0 891 (ma_push (ma_ci (.ofNat 1)) 892)) (mt_leaf (ms_iadd (e := (.iadd, 893, 0, 0, 0)) rfl (fun _ _ _ => rfl) : mo_Sim 0 892 (ma_iadd 892 893)) (mt_none)))
set_option maxRecDepth 100000 in
theorem smt0_455 (k : Nat) : ∀ f, mt0_455 k = some f → mo_Sim 0 k f := mt_node (smt0_456 k) (smt0_457 k)
set_option maxRecDepth 100000 in
theorem smt0_451 (k : Nat) : ∀ f, mt0_451 k = some f → mo_Sim 0 k f := mt_node (smt0_452 k) (smt0_455 k)
set_option maxRecDepth 100000 in
theorem smt0_460 (k : Nat) : ∀ f, mt0_460 k = some f → mo_Sim 0 k f := mt_leaf (ms_iald (e := (.iaload, 894, 0, 0, 0)) rfl (fun _ _ _ => rfl) : mo_Sim 0 893 (ma_iald 893 894)) (mt_leaf (ms_invV (p := 1) (e := (.invokevirtual 119, 897, 117, 0, 956)) rfl rfl (fun _ _ _ => rfl) rfl rfl rfl (by decide) : mo_Sim 0 894 (ma_inv 117 2 2 11 897)) (mt_none))
set_option maxRecDepth 100000 in
theorem smt0_461 (k : Nat) : ∀ f, mt0_461 k = some f → mo_Sim 0 k f := mt_leaf (ms_ald (e := (.aload_n 2, 898, 0, 0, 0)) rfl (fun _ _ _ => rfl) : mo_Sim 0 897 (ma_lda 2 898)) (mt_leaf (ms_ald (e := (.aload_n 0, 899, 0, 0, 0)) rfl (fun _ _ _ => rfl) : mo_Sim 0 898 (ma_lda 0 899)) (mt_leaf (ms_ild (e := (.iload_n 3, 900, 0, 0, 0)) rfl (fun _ _ _ => rfl) : mo_Sim 0 899 (ma_load 0 3 900)) (mt_none)))
set_option maxRecDepth 100000 in
theorem smt0_459 (k : Nat) : ∀ f, mt0_459 k = some f → mo_Sim 0 k f := mt_node (smt0_460 k) (smt0_461 k)
set_option maxRecDepth 100000 in
theorem smt0_463 (k : Nat) : ∀ f, mt0_463 k = some f → mo_Sim 0 k f := mt_leaf (ms_pushi (e := (.iconst 1, 901, 0, 0, 0)) rfl (fun _ _ _ => rfl) (by decide) : mo_Sim 0 900 (ma_push (ma_ci (.ofNat 1)) 901)) (mt_leaf (ms_iadd (e := (.iadd, 902, 0, 0, 0)) rfl (fun _ _ _ => rfl) : mo_Sim 0 901 (ma_iadd 901 902)) (mt_leaf (ms_iald (e := (.iaload, 903, 0, 0, 0)) rfl (fun _ _ _ => rfl) : mo_Sim 0 902 (ma_iald 902 903)) (mt_none)))
set_option maxRecDepth 100000 in
theorem smt0_464 (k : Nat) : ∀ f, mt0_464 k = some f → mo_Sim 0 k f := mt_leaf (ms_invV (p := 1) (e := (.invokevirtual 122, 906, 192, 0, 1331)) rfl rfl (fun _ _ _ => rfl) rfl rfl rfl (by decide) : mo_Sim 0 903 (ma_inv 192 2 2 12 906)) (mt_leaf (ms_if2 (e := (.if_icmp .eq 88, 909, 994, 0, 0)) rfl (fun _ _ _ => rfl) : mo_Sim 0 906 (ma_if2 .eq 994 906 909)) (mt_leaf (ms_pushi (e := (.iconst 0, 910, 0, 0, 0)) rfl (fun _ _ _ => rfl) (by decide) : mo_Sim 0 909 (ma_push (ma_ci (.ofNat 0)) 910)) (mt_none)))
set_option maxRecDepth 100000 in
theorem smt0_462 (k : Nat) : ∀ f, mt0_462 k = some f → mo_Sim 0 k f := mt_node (smt0_463 k) (smt0_464 k)
set_option maxRecDepth 100000 in
theorem smt0_458 (k : Nat) : ∀ f, mt0_458 k = some f → mo_Sim 0 k f := mt_node (smt0_459 k) (smt0_462 k)
set_option maxRecDepth 100000 in
theorem smt0_450 (k : Nat) : ∀ f, mt0_450 k = some f → mo_Sim 0 k f := mt_node (smt0_451 k) (smt0_458 k)
set_option maxRecDepth 100000 in
theorem smt0_468 (k : Nat) : ∀ f, mt0_468 k = some f → mo_Sim 0 k f := mt_leaf (ms_ret (e := (.ireturn, 911, 0, 0, 0)) rfl (Or.inr (Or.inl ⟨rfl, rfl, (fun _ _ _ => rfl)⟩)) : mo_Sim 0 910 (ma_ret 1)) (mt_leaf (ms_ald (e := (.aload_n 1, 912, 0, 0, 0)) rfl (fun _ _ _ => rfl) : mo_Sim 0 911 (ma_lda 1 912)) (mt_none))
set_option maxRecDepth 100000 in
theorem smt0_469 (k : Nat) : ∀ f, mt0_469 k = some f → mo_Sim 0 k f := mt_leaf (ms_invV (p := 0) (e := (.invokevirtual 123, 915, 118, 0, 982)) rfl rfl (fun _ _ _ => rfl) rfl rfl rfl (by decide) : mo_Sim 0 912 (ma_inv 118 1 1 11 915)) (mt_leaf (ms_ald (e := (.aload_n 2, 916, 0, 0, 0)) rfl (fun _ _ _ => rfl) : mo_Sim 0 915 (ma_lda 2 916)) (mt_leaf (ms_invV (p := 0) (e := (.invokevirtual 126, 919, 194, 0, 1343)) rfl rfl (fun _ _ _ => rfl) rfl rfl rfl (by decide) : mo_Sim 0 916 (ma_inv 194 1 3 12 919)) (mt_none)))
set_option maxRecDepth 100000 in
theorem smt0_467 (k : Nat) : ∀ f, mt0_467 k = some f → mo_Sim 0 k f := mt_node (smt0_468 k) (smt0_469 k)
set_option maxRecDepth 100000 in
theorem smt0_471 (k : Nat) : ∀ f, mt0_471 k = some f → mo_Sim 0 k f := mt_leaf (ms_if2 (e := (.if_icmp .eq 75, 922, 994, 0, 0)) rfl (fun _ _ _ => rfl) : mo_Sim 0 919 (ma_if2 .eq 994 919 922)) (mt_leaf (ms_pushi (e := (.iconst 0, 923, 0, 0, 0)) rfl (fun _ _ _ => rfl) (by decide) : mo_Sim 0 922 (ma_push (ma_ci (.ofNat 0)) 923)) (mt_none))
set_option maxRecDepth 100000 in
theorem smt0_472 (k : Nat) : ∀ f, mt0_472 k = some f → mo_Sim 0 k f := mt_leaf (ms_ret (e := (.ireturn, 924, 0, 0, 0)) rfl (Or.inr (Or.inl ⟨rfl, rfl, (fun _ _ _ => rfl)⟩)) : mo_Sim 0 923 (ma_ret 1)) (mt_leaf (ms_ald (e := (.aload_n 1, 925, 0, 0, 0)) rfl (fun _ _ _ => rfl) : mo_Sim 0 924 (ma_lda 1 925)) (mt_leaf (ms_ald (e := (.aload_n 0, 926, 0, 0, 0)) rfl (fun _ _ _ => rfl) : mo_Sim 0 925 (ma_lda 0 926)) (mt_none)))
set_option maxRecDepth 100000 in
theorem smt0_470 (k : Nat) : ∀ f, mt0_470 k = some f → mo_Sim 0 k f := mt_node (smt0_471 k) (smt0_472 k)
set_option maxRecDepth 100000 in
theorem smt0_466 (k : Nat) : ∀ f, mt0_466 k = some f → mo_Sim 0 k f := mt_node (smt0_467 k) (smt0_470 k)
set_option maxRecDepth 100000 in
theorem smt0_475 (k : Nat) : ∀ f, mt0_475 k = some f → mo_Sim 0 k f := mt_leaf (ms_ild (e := (.iload_n 3, 927, 0, 0, 0)) rfl (fun _ _ _ => rfl) : mo_Sim 0 926 (ma_load 0 3 927)) (mt_leaf (ms_pushi (e := (.iconst 1, 928, 0, 0, 0)) rfl (fun _ _ _ => rfl) (by decide) : mo_Sim 0 927 (ma_push (ma_ci (.ofNat 1)) 928)) (mt_none))
set_option maxRecDepth 100000 in
theorem smt0_476 (k : Nat) : ∀ f, mt0_476 k = some f → mo_Sim 0 k f := mt_leaf (ms_iadd (e := (.iadd, 929, 0, 0, 0)) rfl (fun _ _ _ => rfl) : mo_Sim 0 928 (ma_iadd 928 929)) (mt_leaf (ms_iald (e := (.iaload, 930, 0, 0, 0)) rfl (fun _ _ _ => rfl) : mo_Sim 0 929 (ma_iald 929 930)) (mt_leaf (ms_invV (p := 1) (e := (.invokevirtual 127, 933, 119, 0, 991)) rfl rfl (fun _ _ _ => rfl) rfl rfl rfl (by decide) : mo_Sim 0 930 (ma_inv 119 2 2 11 933)) (mt_none)))
set_option maxRecDepth 100000 in
theorem smt0_474 (k : Nat) : ∀ f, mt0_474 k = some f → mo_Sim 0 k f := mt_node (smt0_475 k) (smt0_476 k)
set_option maxRecDepth 100000 in
theorem smt0_478 (k : Nat) : ∀ f, mt0_478 k = some f → mo_Sim 0 k f := mt_leaf (ms_ald (e := (.aload_n 2, 934, 0, 0, 0)) rfl (fun _ _ _ => rfl) : mo_Sim 0 933 (ma_lda 2 934)) (mt_leaf (ms_ald (e := (.aload_n 0, 935, 0, 0, 0)) rfl (fun _ _ _ => rfl) : mo_Sim 0 934 (ma_lda 0 935)) (mt_leaf (ms_ild (e := (.iload_n 3, 936, 0, 0, 0)) rfl (fun _ _ _ => rfl) : mo_Sim 0 935 (ma_load 0 3 936)) (mt_none)))
set_option maxRecDepth 100000 in
theorem smt0_479 (k : Nat) : ∀ f, mt0_479 k = some f → mo_Sim 0 k f := mt_leaf (ms_pushi (e := (.iconst 1, 937, 0, 0, 0)) rfl (fun _ _ _ => rfl) (by decide) : mo_Sim 0 936 (ma_push (ma_ci (.ofNat 1)) 937)) (mt_leaf (ms_iadd (e := (.iadd, 938, 0, 0, 0)) rfl (fun _ _ _ => rfl) : mo_Sim 0 937 (ma_iadd 937 938)) (mt_leaf (ms_iald (e := (.iaload, 939, 0, 0, 0)) rfl (fun _ _ _ => rfl) : mo_Sim 0 938 (ma_iald 938 939)) (mt_none)))
set_option maxRecDepth 100000 in
theorem smt0_477 (k : Nat) : ∀ f, mt0_477 k = some f → mo_Sim 0 k f := mt_node (smt0_478 k) (smt0_479 k)
set_option maxRecDepth 100000 in
theorem smt0_473 (k : Nat) : ∀ f, mt0_473 k = some f → mo_Sim 0 k f := mt_node (smt0_474 k) (smt0_477 k)
set_option maxRecDepth 100000 in
theorem smt0_465 (k : Nat) : ∀ f, mt0_465 k = some f → mo_Sim 0 k f := mt_node (smt0_466 k) (smt0_473 k)
set_option maxRecDepth 100000 in
theorem smt0_449 (k : Nat) : ∀ f, mt0_449 k = some f → mo_Sim 0 k f := mt_node (smt0_450 k) (smt0_465 k)
set_option maxRecDepth 100000 in
theorem smt0_484 (k : Nat) : ∀ f, mt0_484 k = some f → mo_Sim 0 k f := mt_leaf (ms_invV (p := 1) (e := (.invokevirtual 130, 942, 195, 0, 1351)) rfl rfl (fun _ _ _ => rfl) rfl rfl rfl (by decide) : mo_Sim 0 939 (ma_inv 195 2 4 12 942)) (mt_leaf (ms_if2 (e := (.if_icmp .eq 52, 945, 994, 0, 0)) rfl (fun _ _ _ => rfl) : mo_Sim 0 942 (ma_if2 .eq 994 942 945)) (mt_none))
set_option maxRecDepth 100000 in
theorem smt0_485 (k : Nat) : ∀ f, mt0_485 k = some f → mo_Sim 0 k f := mt_leaf (ms_pushi (e := (.iconst 0, 946, 0, 0, 0)) rfl (fun _ _ _ => rfl) (by decide) : mo_Sim 0 945 (ma_push (ma_ci (.ofNat 0)) 946)) (mt_leaf (ms_ret (e := (.ireturn, 947, 0, 0, 0)) rfl (Or.inr (Or.inl ⟨rfl, rfl, (fun _ _ _ => rfl)⟩)) : mo_Sim 0 946 (ma_ret 1)) (mt_leaf (ms_ald (e := (.aload_n 1, 948, 0, 0, 0)) rfl (fun _ _ _ => rfl) : mo_Sim 0 947 (ma_lda 1 948)) (mt_none)))
set_option maxRecDepth 100000 in
theorem smt0_483 (k : Nat) : ∀ f, mt0_483 k = some f → mo_Sim 0 k f := mt_node (smt0_484 k) (smt0_485 k)
set_option maxRecDepth 100000 in
theorem smt0_487 (k : Nat) : ∀ f, mt0_487 k = some f → mo_Sim 0 k f := mt_leaf (ms_ald (e := (.aload_n 0, 949, 0, 0, 0)) rfl (fun _ _ _ => rfl) : mo_Sim 0 948 (ma_lda 0 949)) (mt_leaf (ms_ild (e := (.iload_n 3, 950, 0, 0, 0)) rfl (fun _ _ _ => rfl) : mo_Sim 0 949 (ma_load 0 3 950)) (mt_none))
set_option maxRecDepth 100000 in
theorem smt0_488 (k : Nat) : ∀ f, mt0_488 k = some f → mo_Sim 0 k f := mt_leaf (ms_pushi (e := (.iconst 1, 951, 0, 0, 0)) rfl (fun _ _ _ => rfl) (by decide) : mo_Sim 0 950 (ma_push (ma_ci (.ofNat 1)) 951)) (mt_leaf (ms_iadd (e := (.iadd, 952, 0, 0, 0)) rfl (fun _ _ _ => rfl) : mo_Sim 0 951 (ma_iadd 951 952)) (mt_leaf (ms_iald (e := (.iaload, 953, 0, 0, 0)) rfl (fun _ _ _ => rfl) : mo_Sim 0 952 (ma_iald 952 953)) (mt_none)))
set_option maxRecDepth 100000 in
theorem smt0_486 (k : Nat) : ∀ f, mt0_486 k = some f → mo_Sim 0 k f := mt_node (smt0_487 k) (smt0_488 k)
set_option maxRecDepth 100000 in
theorem smt0_482 (k : Nat) : ∀ f, mt0_482 k = some f → mo_Sim 0 k f := mt_node (smt0_483 k) (smt0_486 k)
set_option maxRecDepth 100000 in
theorem smt0_491 (k : Nat) : ∀ f, mt0_491 k = some f → mo_Sim 0 k f := mt_leaf (ms_invV (p := 1) (e := (.invokevirtual 131, 956, 120, 0, 995)) rfl rfl (fun _ _ _ => rfl) rfl rfl rfl (by decide) : mo_Sim 0 953 (ma_inv 120 2 2 11 956)) (mt_leaf (ms_ald (e := (.aload_n 2, 957, 0, 0, 0)) rfl (fun _ _ _ => rfl) : mo_Sim 0 956 (ma_lda 2 957)) (mt_none))
set_option maxRecDepth 100000 in
theorem smt0_492 (k : Nat) : ∀ f, mt0_492 k = some f → mo_Sim 0 k f := mt_leaf (ms_ald (e := (.aload_n 0, 958, 0, 0, 0)) rfl (fun _ _ _ => rfl) : mo_Sim 0 957 (ma_lda 0 958)) (mt_leaf (ms_ild (e := (.iload_n 3, 959, 0, 0, 0)) rfl (fun _ _ _ => rfl) : mo_Sim 0 958 (ma_load 0 3 959)) (mt_leaf (ms_pushi (e := (.iconst 1, 960, 0, 0, 0)) rfl (fun _ _ _ => rfl) (by decide) : mo_Sim 0 959 (ma_push (ma_ci (.ofNat 1)) 960)) (mt_none)))
set_option maxRecDepth 100000 in
theorem smt0_490 (k : Nat) : ∀ f, mt0_490 k = some f → mo_Sim 0 k f := mt_node (smt0_491 k) (smt0_492 k)
set_option maxRecDepth 100000 in
theorem smt0_494 (k : Nat) : ∀ f, mt0_494 k = some f → mo_Sim 0 k f := mt_leaf (ms_iadd (e := (.iadd, 961, 0, 0, 0)) rfl (fun _ _ _ => rfl) : mo_Sim 0 960 (ma_iadd 960 961)) (mt_leaf (ms_iald (e := (.iaload, 962, 0, 0, 0)) rfl (fun _ _ _ => rfl) : mo_Sim 0 961 (ma_iald 961 962)) (mt_leaf (ms_invV (p := 1) (e := (.invokevirtual 134, 965, 200, 0, 1355)) rfl rfl (fun _ _ _ => rfl) rfl rfl rfl (by decide) : mo_Sim 0 962 (ma_inv 200 2 4 12 965)) (mt_none)))
set_option maxRecDepth 100000 in
theorem smt0_495 (k : Nat) : ∀ f, mt0_495 k = some f → mo_Sim 0 k f := mt_leaf (ms_lcmp (e := (.lcmp, 966, 0, 0, 0)) rfl (fun _ _ _ => rfl) : mo_Sim 0 965 (ma_lcmp 966)) (mt_leaf (ms_if0 (e := (.ifCond .eq 28, 969, 994, 0, 0)) rfl (fun _ _ _ => rfl) : mo_Sim 0 966 (ma_if0 .eq 994 966 969)) (mt_leaf (ms_pushi (e := (.iconst 0, 970, 0, 0, 0)) rfl (fun _ _ _ => rfl) (by decide) : mo_Sim 0 969 (ma_push (ma_ci (.ofNat 0)) 970)) (mt_none)))
set_option maxRecDepth 100000 in
theorem smt0_493 (k : Nat) : ∀ f, mt0_493 k = some f → mo_Sim 0 k f := mt_node (smt0_494 k) (smt0_495 k)
set_option maxRecDepth 100000 in
theorem smt0_489 (k : Nat) : ∀ f, mt0_489 k = some f → mo_Sim 0 k f := mt_node (smt0_490 k) (smt0_493 k)
set_option maxRecDepth 100000 in
theorem smt0_481 (k : Nat) : ∀ f, mt0_481 k = some f → mo_Sim 0 k f := mt_node (smt0_482 k) (smt0_489 k)
set_option maxRecDepth 100000 in
theorem smt0_499 (k : Nat) : ∀ f, mt0_499 k = some f → mo_Sim 0 k f := mt_leaf (ms_ret (e := (.ireturn, 971, 0, 0, 0)) rfl (Or.inr (Or.inl ⟨rfl, rfl, (fun _ _ _ => rfl)⟩)) : mo_Sim 0 970 (ma_ret 1)) (mt_leaf (ms_ald (e := (.aload_n 1, 972, 0, 0, 0)) rfl (fun _ _ _ => rfl) : mo_Sim 0 971 (ma_lda 1 972)) (mt_none))
set_option maxRecDepth 100000 in
theorem smt0_500 (k : Nat) : ∀ f, mt0_500 k = some f → mo_Sim 0 k f := mt_leaf (ms_ald (e := (.aload_n 0, 973, 0, 0, 0)) rfl (fun _ _ _ => rfl) : mo_Sim 0 972 (ma_lda 0 973)) (mt_leaf (ms_ild (e := (.iload_n 3, 974, 0, 0, 0)) rfl (fun _ _ _ => rfl) : mo_Sim 0 973 (ma_load 0 3 974)) (mt_leaf (ms_pushi (e := (.iconst 1, 975, 0, 0, 0)) rfl (fun _ _ _ => rfl) (by decide) : mo_Sim 0 974 (ma_push (ma_ci (.ofNat 1)) 975)) (mt_none)))
set_option maxRecDepth 100000 in
theorem smt0_498 (k : Nat) : ∀ f, mt0_498 k = some f → mo_Sim 0 k f := mt_node (smt0_499 k) (smt0_500 k)
set_option maxRecDepth 100000 in
theorem smt0_502 (k : Nat) : ∀ f, mt0_502 k = some f → mo_Sim 0 k f := mt_leaf (ms_iadd (e := (.iadd, 976, 0, 0, 0)) rfl (fun _ _ _ => rfl) : mo_Sim 0 975 (ma_iadd 975 976)) (mt_leaf (ms_iald (e := (.iaload, 977, 0, 0, 0)) rfl (fun _ _ _ => rfl) : mo_Sim 0 976 (ma_iald 976 977)) (mt_leaf (ms_invV (p := 1) (e := (.invokevirtual 135, 980, 121, 0, 1038)) rfl rfl (fun _ _ _ => rfl) rfl rfl rfl (by decide) : mo_Sim 0 977 (ma_inv 121 2 2 11 980)) (mt_none)))
set_option maxRecDepth 100000 in
theorem smt0_503 (k : Nat) : ∀ f, mt0_503 k = some f → mo_Sim 0 k f := mt_leaf (ms_ald (e := (.aload_n 2, 981, 0, 0, 0)) rfl (fun _ _ _ => rfl) : mo_Sim 0 980 (ma_lda 2 981)) (mt_leaf (ms_ald (e := (.aload_n 0, 982, 0, 0, 0)) rfl (fun _ _ _ => rfl) : mo_Sim 0 981 (ma_lda 0 982)) (mt_leaf (ms_ild (e := (.iload_n 3, 983, 0, 0, 0)) rfl (fun _ _ _ => rfl) : mo_Sim 0 982 (ma_load 0 3 983)) (mt_none)))
set_option maxRecDepth 100000 in
theorem smt0_501 (k : Nat) : ∀ f, mt0_501 k = some f → mo_Sim 0 k f := mt_node (smt0_502 k) (smt0_503 k)
set_option maxRecDepth 100000 in
theorem smt0_497 (k : Nat) : ∀ f, mt0_497 k = some f → mo_Sim 0 k f := mt_node (smt0_498 k) (smt0_501 k)
set_option maxRecDepth 100000 in
theorem smt0_506 (k : Nat) : ∀ f, mt0_506 k = some f → mo_Sim 0 k f := mt_leaf (ms_pushi (e := (.iconst 1, 984, 0, 0, 0)) rfl (fun _ _ _ => rfl) (by decide) : mo_Sim 0 983 (ma_push (ma_ci (.ofNat 1)) 984)) (mt_leaf (ms_iadd (e := (.iadd, 985, 0, 0, 0)) rfl (fun _ _ _ => rfl) : mo_Sim 0 984 (ma_iadd 984 985)) (mt_none))
set_option maxRecDepth 100000 in
theorem smt0_507 (k : Nat) : ∀ f, mt0_507 k = some f → mo_Sim 0 k f := mt_leaf (ms_iald (e := (.iaload, 986, 0, 0, 0)) rfl (fun _ _ _ => rfl) : mo_Sim 0 985 (ma_iald 985 986)) (mt_leaf (ms_invV (p := 1) (e := (.invokevirtual 138, 989, 201, 0, 1376)) rfl rfl (fun _ _ _ => rfl) rfl rfl rfl (by decide) : mo_Sim 0 986 (ma_inv 201 2 4 12 989)) (mt_leaf (ms_if2 (e := (.if_icmp .eq 5, 992, 994, 0, 0)) rfl (fun _ _ _ => rfl) : mo_Sim 0 989 (ma_if2 .eq 994 989 992)) (mt_none)))
set_option maxRecDepth 100000 in
theorem smt0_505 (k : Nat) : ∀ f, mt0_505 k = some f → mo_Sim 0 k f := mt_node (smt0_506 k) (smt0_507 k)
set_option maxRecDepth 100000 in
theorem smt0_509 (k : Nat) : ∀ f, mt0_509 k = some f → mo_Sim 0 k f := mt_leaf (ms_pushi (e := (.iconst 0, 993, 0, 0, 0)) rfl (fun _ _ _ => rfl) (by decide) : mo_Sim 0 992 (ma_push (ma_ci (.ofNat 0)) 993)) (mt_leaf (ms_ret (e := (.ireturn, 994, 0, 0, 0)) rfl (Or.inr (Or.inl ⟨rfl, rfl, (fun _ _ _ => rfl)⟩)) : mo_Sim 0 993 (ma_ret 1)) (mt_leaf (ms_iinc (e := (.iinc 3 5, 997, 0, 0, 0)) rfl (fun _ _ _ => rfl) (by decide) : mo_Sim 0 994 (ma_iinc 3 (.ofNat 5) 994 997)) (mt_none)))
set_option maxRecDepth 100000 in
theorem smt0_510 (k : Nat) : ∀ f, mt0_510 k = some f → mo_Sim 0 k f := mt_leaf (ms_goto (e := (.goto (-979), 1000, 18, 0, 0)) rfl (fun _ _ _ => rfl) : mo_Sim 0 997 (ma_goto 18)) (mt_leaf (ms_pushi (e := (.iconst 1, 1001, 0, 0, 0)) rfl (fun _ _ _ => rfl) (by decide) : mo_Sim 0 1000 (ma_push (ma_ci (.ofNat 1)) 1001)) (mt_leaf (ms_ret (e := (.ireturn, 1002, 0, 0, 0)) rfl (Or.inr (Or.inl ⟨rfl, rfl, (fun _ _ _ => rfl)⟩)) : mo_Sim 0 1001 (ma_ret 1)) (mt_none)))
set_option maxRecDepth 100000 in
theorem smt0_508 (k : Nat) : ∀ f, mt0_508 k = some f → mo_Sim 0 k f := mt_node (smt0_509 k) (smt0_510 k)
set_option maxRecDepth 100000 in
theorem smt0_504 (k : Nat) : ∀ f, mt0_504 k = some f → mo_Sim 0 k f := mt_node (smt0_505 k) (smt0_508 k)
set_option maxRecDepth 100000 in
theorem smt0_496 (k : Nat) : ∀ f, mt0_496 k = some f → mo_Sim 0 k f := mt_node (smt0_497 k) (smt0_504 k)
set_option maxRecDepth 100000 in
theorem smt0_480 (k : Nat) : ∀ f, mt0_480 k = some f → mo_Sim 0 k f := mt_node (smt0_481 k) (smt0_496 k)
set_option maxRecDepth 100000 in
theorem smt0_448 (k : Nat) : ∀ f, mt0_448 k = some f → mo_Sim 0 k f := mt_node (smt0_449 k) (smt0_480 k)
set_option maxRecDepth 100000 in
theorem smt0_384 (k : Nat) : ∀ f, mt0_384 k = some f → mo_Sim 0 k f := mt_node (smt0_385 k) (smt0_448 k)
set_option maxRecDepth 100000 in
theorem smt0_256 (k : Nat) : ∀ f, mt0_256 k = some f → mo_Sim 0 k f := mt_node (smt0_257 k) (smt0_384 k)
set_option maxRecDepth 100000 in
theorem smt0_0 (k : Nat) : ∀ f, mt0_0 k = some f → mo_Sim 0 k f := mt_node (smt0_1 k) (smt0_256 k)
set_option maxRecDepth 100000 in
theorem smt1_2 (k : Nat) : ∀ f, mt1_2 k = some f → mo_Sim 1 k f := mt_leaf (ms_ald (e := (.aload_n 0, 1, 0, 0, 0)) rfl (fun _ _ _ => rfl) : mo_Sim 1 0 (ma_lda 0 1)) (mt_leaf (ms_obj (e := (.invokespecial 3, 4, 0, 4, 388)) rfl (fun _ _ _ => rfl) : mo_Sim 1 1 (ma_obj 4)) (mt_none))
set_option maxRecDepth 100000 in
theorem smt1_3 (k : Nat) : ∀ f, mt1_3 k = some f → mo_Sim 1 k f := mt_leaf (ms_ald (e := (.aload_n 0, 5, 0, 0, 0)) rfl (fun _ _ _ => rfl) : mo_Sim 1 4 (ma_lda 0 5)) (mt_leaf (ms_pushi (e := (.bipush 27, 7, 0, 0, 0)) rfl (fun _ _ _ => rfl) (by decide) : mo_Sim 1 5 (ma_push (ma_ci (.ofNat 27)) 7)) (mt_leaf (ms_newaI (e := (.newarray .int, 9, 0, 0, 0)) rfl rfl (fun _ _ _ => rfl) : mo_Sim 1 7 (ma_newa 13 (ma_ci (.ofNat 0)) 9)) (mt_none)))
set_option maxRecDepth 100000 in
theorem smt1_1 (k : Nat) : ∀ f, mt1_1 k = some f → mo_Sim 1 k f := mt_node (smt1_2 k) (smt1_3 k)
set_option maxRecDepth 100000 in
theorem smt1_5 (k : Nat) : ∀ f, mt1_5 k = some f → mo_Sim 1 k f := mt_leaf (ms_putf (e := (.putfield 9, 12, 0, 2, 395)) rfl rfl (fun _ _ _ => rfl) (Or.inr (Or.inr (Or.inl ⟨rfl, Or.inr ⟨_, rfl⟩⟩))) : mo_Sim 1 9 (ma_putf 0 2 2 12)) (mt_leaf (ms_ald (e := (.aload_n 0, 13, 0, 0, 0)) rfl (fun _ _ _ => rfl) : mo_Sim 1 12 (ma_lda 0 13)) (mt_leaf (ms_pushi (e := (.bipush 27, 15, 0, 0, 0)) rfl (fun _ _ _ => rfl) (by decide) : mo_Sim 1 13 (ma_push (ma_ci (.ofNat 27)) 15)) (mt_none)))
set_option maxRecDepth 100000 in
theorem smt1_6 (k : Nat) : ∀ f, mt1_6 k = some f → mo_Sim 1 k f := mt_leaf (ms_newaI (e := (.newarray .int, 17, 0, 0, 0)) rfl rfl (fun _ _ _ => rfl) : mo_Sim 1 15 (ma_newa 13 (ma_ci (.ofNat 0)) 17)) (mt_leaf (ms_putf (e := (.putfield 15, 20, 0, 3, 399)) rfl rfl (fun _ _ _ => rfl) (Or.inr (Or.inr (Or.inl ⟨rfl, Or.inr ⟨_, rfl⟩⟩))) : mo_Sim 1 17 (ma_putf 0 3 2 20)) (mt_leaf (ms_retv (e := (.return_, 21, 0, 0, 0)) rfl rfl (fun _ _ _ => rfl) : mo_Sim 1 20 (ma_retv)) (mt_none)))
set_option maxRecDepth 100000 in
theorem smt1_4 (k : Nat) : ∀ f, mt1_4 k = some f → mo_Sim 1 k f := mt_node (smt1_5 k) (smt1_6 k)
set_option maxRecDepth 100000 in
theorem smt1_0 (k : Nat) : ∀ f, mt1_0 k = some f → mo_Sim 1 k f := mt_node (smt1_1 k) (smt1_4 k)
set_option maxRecDepth 100000 in
theorem smt2_4 (k : Nat) : ∀ f, mt2_4 k = some f → mo_Sim 2 k f := mt_leaf (ms_ald (e := (.aload_n 0, 1, 0, 0, 0)) rfl (fun _ _ _ => rfl) : mo_Sim 2 0 (ma_lda 0 1)) (mt_leaf (ms_ild (e := (.iload_n 1, 2, 0, 0, 0)) rfl (fun _ _ _ => rfl) : mo_Sim 2 1 (ma_load 0 1 2)) (mt_leaf (ms_putf (e := (.putfield 18, 5, 0, 0, 389)) rfl rfl (fun _ _ _ => rfl) (Or.inl ⟨rfl, rfl⟩) : mo_Sim 2 2 (ma_putf 0 0 0 5)) (mt_leaf (ms_ald (e := (.aload_n 0, 6, 0, 0, 0)) rfl (fun _ _ _ => rfl) : mo_Sim 2 5 (ma_lda 0 6)) (mt_none))))
set_option maxRecDepth 100000 in
theorem smt2_6 (k : Nat) : ∀ f, mt2_6 k = some f → mo_Sim 2 k f := mt_leaf (ms_ald (e := (.aload_n 3, 7, 0, 0, 0)) rfl (fun _ _ _ => rfl) : mo_Sim 2 6 (ma_lda 3 7)) (mt_leaf (ms_ild (e := (.iload_n 1, 8, 0, 0, 0)) rfl (fun _ _ _ => rfl) : mo_Sim 2 7 (ma_load 0 1 8)) (mt_none))
set_option maxRecDepth 100000 in
theorem smt2_7 (k : Nat) : ∀ f, mt2_7 k = some f → mo_Sim 2 k f := mt_leaf (ms_invV (p := 1) (e := (.invokevirtual 22, 11, 12, 0, 583)) rfl rfl (fun _ _ _ => rfl) rfl rfl rfl (by decide) : mo_Sim 2 8 (ma_inv 12 2 4 1 11)) (mt_leaf (ms_putf (e := (.putfield 28, 14, 0, 1, 393)) rfl rfl (fun _ _ _ => rfl) (Or.inl ⟨rfl, rfl⟩) : mo_Sim 2 11 (ma_putf 0 1 0 14)) (mt_leaf (ms_pushi (e := (.iconst 0, 15, 0, 0, 0)) rfl (fun _ _ _ => rfl) (by decide) : mo_Sim 2 14 (ma_push (ma_ci (.ofNat 0)) 15)) (mt_none)))
set_option maxRecDepth 100000 in
theorem smt2_5 (k : Nat) : ∀ f, mt2_5 k = some f → mo_Sim 2 k f := mt_node (smt2_6 k) (smt2_7 k)
set_option maxRecDepth 100000 in
theorem smt2_3 (k : Nat) : ∀ f, mt2_3 k = some f → mo_Sim 2 k f := mt_node (smt2_4 k) (smt2_5 k)
set_option maxRecDepth 100000 in
theorem smt2_9 (k : Nat) : ∀ f, mt2_9 k = some f → mo_Sim 2 k f := mt_leaf (ms_ist (e := (.istore 4, 17, 0, 0, 0)) rfl (fun _ _ _ => rfl) : mo_Sim 2 15 (ma_stor 0 4 17)) (mt_leaf (ms_pushi (e := (.iconst 0, 18, 0, 0, 0)) rfl (fun _ _ _ => rfl) (by decide) : mo_Sim 2 17 (ma_push (ma_ci (.ofNat 0)) 18)) (mt_leaf (ms_ist (e := (.istore 5, 20, 0, 0, 0)) rfl (fun _ _ _ => rfl) : mo_Sim 2 18 (ma_stor 0 5 20)) (mt_leaf (ms_ild (e := (.iload 5, 22, 0, 0, 0)) rfl (fun _ _ _ => rfl) : mo_Sim 2 20 (ma_load 0 5 22)) (mt_none))))
set_option maxRecDepth 100000 in
theorem smt2_11 (k : Nat) : ∀ f, mt2_11 k = some f → mo_Sim 2 k f := mt_leaf (ms_ald (e := (.aload_n 3, 23, 0, 0, 0)) rfl (fun _ _ _ => rfl) : mo_Sim 2 22 (ma_lda 3 23)) (mt_leaf (ms_getf (e := (.getfield 31, 26, 1, 1, 114)) rfl (fun _ _ _ => rfl) : mo_Sim 2 23 (ma_getf 1 1 26)) (mt_none))
set_option maxRecDepth 100000 in
theorem smt2_12 (k : Nat) : ∀ f, mt2_12 k = some f → mo_Sim 2 k f := mt_leaf (ms_if2 (e := (.if_icmp .ge 41, 29, 67, 0, 0)) rfl (fun _ _ _ => rfl) : mo_Sim 2 26 (ma_if2 .ge 67 26 29)) (mt_leaf (ms_ald (e := (.aload_n 0, 30, 0, 0, 0)) rfl (fun _ _ _ => rfl) : mo_Sim 2 29 (ma_lda 0 30)) (mt_leaf (ms_getf (e := (.getfield 9, 33, 0, 2, 395)) rfl (fun _ _ _ => rfl) : mo_Sim 2 30 (ma_getf 0 2 33)) (mt_none)))
set_option maxRecDepth 100000 in
theorem smt2_10 (k : Nat) : ∀ f, mt2_10 k = some f → mo_Sim 2 k f := mt_node (smt2_11 k) (smt2_12 k)
set_option maxRecDepth 100000 in
theorem smt2_8 (k : Nat) : ∀ f, mt2_8 k = some f → mo_Sim 2 k f := mt_node (smt2_9 k) (smt2_10 k)
set_option maxRecDepth 100000 in
theorem smt2_2 (k : Nat) : ∀ f, mt2_2 k = some f → mo_Sim 2 k f := mt_node (smt2_3 k) (smt2_8 k)
set_option maxRecDepth 100000 in
theorem smt2_15 (k : Nat) : ∀ f, mt2_15 k = some f → mo_Sim 2 k f := mt_leaf (ms_ild (e := (.iload 5, 35, 0, 0, 0)) rfl (fun _ _ _ => rfl) : mo_Sim 2 33 (ma_load 0 5 35)) (mt_leaf (ms_ald (e := (.aload_n 2, 36, 0, 0, 0)) rfl (fun _ _ _ => rfl) : mo_Sim 2 35 (ma_lda 2 36)) (mt_leaf (ms_ild (e := (.iload 4, 38, 0, 0, 0)) rfl (fun _ _ _ => rfl) : mo_Sim 2 36 (ma_load 0 4 38)) (mt_leaf (ms_iald (e := (.iaload, 39, 0, 0, 0)) rfl (fun _ _ _ => rfl) : mo_Sim 2 38 (ma_iald 38 39)) (mt_none))))
set_option maxRecDepth 100000 in
theorem smt2_17 (k : Nat) : ∀ f, mt2_17 k = some f → mo_Sim 2 k f := mt_leaf (ms_iast (e := (.iastore, 40, 0, 0, 0)) rfl rfl (fun _ _ _ => rfl) : mo_Sim 2 39 (ma_ast 13 0 39 40)) (mt_leaf (ms_ild (e := (.iload 4, 42, 0, 0, 0)) rfl (fun _ _ _ => rfl) : mo_Sim 2 40 (ma_load 0 4 42)) (mt_none))
set_option maxRecDepth 100000 in
theorem smt2_18 (k : Nat) : ∀ f, mt2_18 k = some f → mo_Sim 2 k f := mt_leaf (ms_pushi (e := (.iconst 1, 43, 0, 0, 0)) rfl (fun _ _ _ => rfl) (by decide) : mo_Sim 2 42 (ma_push (ma_ci (.ofNat 1)) 43)) (mt_leaf (ms_iadd (e := (.iadd, 44, 0, 0, 0)) rfl (fun _ _ _ => rfl) : mo_Sim 2 43 (ma_iadd 43 44)) (mt_leaf (ms_ald (e := (.aload_n 0, 45, 0, 0, 0)) rfl (fun _ _ _ => rfl) : mo_Sim 2 44 (ma_lda 0 45)) (mt_none)))
set_option maxRecDepth 100000 in
theorem smt2_16 (k : Nat) : ∀ f, mt2_16 k = some f → mo_Sim 2 k f := mt_node (smt2_17 k) (smt2_18 k)
set_option maxRecDepth 100000 in
theorem smt2_14 (k : Nat) : ∀ f, mt2_14 k = some f → mo_Sim 2 k f := mt_node (smt2_15 k) (smt2_16 k)
set_option maxRecDepth 100000 in
theorem smt2_21 (k : Nat) : ∀ f, mt2_21 k = some f → mo_Sim 2 k f := mt_leaf (ms_getf (e := (.getfield 28, 48, 0, 1, 393)) rfl (fun _ _ _ => rfl) : mo_Sim 2 45 (ma_getf 0 1 48)) (mt_leaf (ms_if2 (e := (.if_icmp .ge 10, 51, 58, 0, 0)) rfl (fun _ _ _ => rfl) : mo_Sim 2 48 (ma_if2 .ge 58 48 51)) (mt_none))
set_option maxRecDepth 100000 in
theorem smt2_22 (k : Nat) : ∀ f, mt2_22 k = some f → mo_Sim 2 k f := mt_leaf (ms_ild (e := (.iload 4, 53, 0, 0, 0)) rfl (fun _ _ _ => rfl) : mo_Sim 2 51 (ma_load 0 4 53)) (mt_leaf (ms_pushi (e := (.iconst 1, 54, 0, 0, 0)) rfl (fun _ _ _ => rfl) (by decide) : mo_Sim 2 53 (ma_push (ma_ci (.ofNat 1)) 54)) (mt_leaf (ms_iadd (e := (.iadd, 55, 0, 0, 0)) rfl (fun _ _ _ => rfl) : mo_Sim 2 54 (ma_iadd 54 55)) (mt_none)))
set_option maxRecDepth 100000 in
theorem smt2_20 (k : Nat) : ∀ f, mt2_20 k = some f → mo_Sim 2 k f := mt_node (smt2_21 k) (smt2_22 k)
set_option maxRecDepth 100000 in
theorem smt2_24 (k : Nat) : ∀ f, mt2_24 k = some f → mo_Sim 2 k f := mt_leaf (ms_goto (e := (.goto 4, 58, 59, 0, 0)) rfl (fun _ _ _ => rfl) : mo_Sim 2 55 (ma_goto 59)) (mt_leaf (ms_pushi (e := (.iconst 0, 59, 0, 0, 0)) rfl (fun _ _ _ => rfl) (by decide) : mo_Sim 2 58 (ma_push (ma_ci (.ofNat 0)) 59)) (mt_none))
set_option maxRecDepth 100000 in
theorem smt2_25 (k : Nat) : ∀ f, mt2_25 k = some f → mo_Sim 2 k f := mt_leaf (ms_ist (e := (.istore 4, 61, 0, 0, 0)) rfl (fun _ _ _ => rfl) : mo_Sim 2 59 (ma_stor 0 4 61)) (mt_leaf (ms_iinc (e := (.iinc 5 1, 64, 0, 0, 0)) rfl (fun _ _ _ => rfl) (by decide) : mo_Sim 2 61 (ma_iinc 5 (.ofNat 1) 61 64)) (mt_leaf (ms_goto (e := (.goto (-44), 67, 20, 0, 0)) rfl (fun _ _ _ => rfl) : mo_Sim 2 64 (ma_goto 20)) (mt_none)))
set_option maxRecDepth 100000 in
theorem smt2_23 (k : Nat) : ∀ f, mt2_23 k = some f → mo_Sim 2 k f := mt_node (smt2_24 k) (smt2_25 k)
set_option maxRecDepth 100000 in
theorem smt2_19 (k : Nat) : ∀ f, mt2_19 k = some f → mo_Sim 2 k f := mt_node (smt2_20 k) (smt2_23 k)
set_option maxRecDepth 100000 in
theorem smt2_13 (k : Nat) : ∀ f, mt2_13 k = some f → mo_Sim 2 k f := mt_node (smt2_14 k) (smt2_19 k)
set_option maxRecDepth 100000 in
theorem smt2_1 (k : Nat) : ∀ f, mt2_1 k = some f → mo_Sim 2 k f := mt_node (smt2_2 k) (smt2_13 k)
set_option maxRecDepth 100000 in
theorem smt2_29 (k : Nat) : ∀ f, mt2_29 k = some f → mo_Sim 2 k f := mt_leaf (ms_pushi (e := (.iconst 0, 68, 0, 0, 0)) rfl (fun _ _ _ => rfl) (by decide) : mo_Sim 2 67 (ma_push (ma_ci (.ofNat 0)) 68)) (mt_leaf (ms_ist (e := (.istore 5, 70, 0, 0, 0)) rfl (fun _ _ _ => rfl) : mo_Sim 2 68 (ma_stor 0 5 70)) (mt_leaf (ms_ild (e := (.iload 5, 72, 0, 0, 0)) rfl (fun _ _ _ => rfl) : mo_Sim 2 70 (ma_load 0 5 72)) (mt_leaf (ms_ald (e := (.aload_n 3, 73, 0, 0, 0)) rfl (fun _ _ _ => rfl) : mo_Sim 2 72 (ma_lda 3 73)) (mt_none))))
set_option maxRecDepth 100000 in
theorem smt2_31 (k : Nat) : ∀ f, mt2_31 k = some f → mo_Sim 2 k f := mt_leaf (ms_getf (e := (.getfield 31, 76, 1, 1, 114)) rfl (fun _ _ _ => rfl) : mo_Sim 2 73 (ma_getf 1 1 76)) (mt_leaf (ms_if2 (e := (.if_icmp .ge 58, 79, 134, 0, 0)) rfl (fun _ _ _ => rfl) : mo_Sim 2 76 (ma_if2 .ge 134 76 79)) (mt_none))
set_option maxRecDepth 100000 in
theorem smt2_32 (k : Nat) : ∀ f, mt2_32 k = some f → mo_Sim 2 k f := mt_leaf (ms_ald (e := (.aload_n 3, 80, 0, 0, 0)) rfl (fun _ _ _ => rfl) : mo_Sim 2 79 (ma_lda 3 80)) (mt_leaf (ms_getf (e := (.getfield 34, 83, 1, 2, 117)) rfl (fun _ _ _ => rfl) : mo_Sim 2 80 (ma_getf 1 2 83)) (mt_leaf (ms_ild (e := (.iload 5, 85, 0, 0, 0)) rfl (fun _ _ _ => rfl) : mo_Sim 2 83 (ma_load 0 5 85)) (mt_none)))
set_option maxRecDepth 100000 in
theorem smt2_30 (k : Nat) : ∀ f, mt2_30 k = some f → mo_Sim 2 k f := mt_node (smt2_31 k) (smt2_32 k)
set_option maxRecDepth 100000 in
theorem smt2_28 (k : Nat) : ∀ f, mt2_28 k = some f → mo_Sim 2 k f := mt_node (smt2_29 k) (smt2_30 k)
set_option maxRecDepth 100000 in
theorem smt2_35 (k : Nat) : ∀ f, mt2_35 k = some f → mo_Sim 2 k f := mt_leaf (ms_iald (e := (.iaload, 86, 0, 0, 0)) rfl (fun _ _ _ => rfl) : mo_Sim 2 85 (ma_iald 85 86)) (mt_leaf (ms_ald (e := (.aload_n 3, 87, 0, 0, 0)) rfl (fun _ _ _ => rfl) : mo_Sim 2 86 (ma_lda 3 87)) (mt_none))
set_option maxRecDepth 100000 in
theorem smt2_36 (k : Nat) : ∀ f, mt2_36 k = some f → mo_Sim 2 k f := mt_leaf (ms_getf (e := (.getfield 37, 90, 1, 0, 108)) rfl (fun _ _ _ => rfl) : mo_Sim 2 87 (ma_getf 1 0 90)) (mt_leaf (ms_i2 (e := (.imul, 91, 0, 0, 0)) rfl (fun _ _ _ => rfl) hf_mul : mo_Sim 2 90 (ma_i2 ma_fmul 90 91)) (mt_leaf (ms_ald (e := (.aload_n 3, 92, 0, 0, 0)) rfl (fun _ _ _ => rfl) : mo_Sim 2 91 (ma_lda 3 92)) (mt_none)))
set_option maxRecDepth 100000 in
theorem smt2_34 (k : Nat) : ∀ f, mt2_34 k = some f → mo_Sim 2 k f := mt_node (smt2_35 k) (smt2_36 k)
set_option maxRecDepth 100000 in
theorem smt2_38 (k : Nat) : ∀ f, mt2_38 k = some f → mo_Sim 2 k f := mt_leaf (ms_getf (e := (.getfield 40, 95, 1, 4, 131)) rfl (fun _ _ _ => rfl) : mo_Sim 2 92 (ma_getf 1 4 95)) (mt_leaf (ms_ild (e := (.iload 5, 97, 0, 0, 0)) rfl (fun _ _ _ => rfl) : mo_Sim 2 95 (ma_load 0 5 97)) (mt_none))
set_option maxRecDepth 100000 in
theorem smt2_39 (k : Nat) : ∀ f, mt2_39 k = some f → mo_Sim 2 k f := mt_leaf (ms_iald (e := (.iaload, 98, 0, 0, 0)) rfl (fun _ _ _ => rfl) : mo_Sim 2 97 (ma_iald 97 98)) (mt_leaf (ms_iadd (e := (.iadd, 99, 0, 0, 0)) rfl (fun _ _ _ => rfl) : mo_Sim 2 98 (ma_iadd 98 99)) (mt_leaf (ms_ald (e := (.aload_n 3, 100, 0, 0, 0)) rfl (fun _ _ _ => rfl) : mo_Sim 2 99 (ma_lda 3 100)) (mt_none)))
set_option maxRecDepth 100000 in
theorem smt2_37 (k : Nat) : ∀ f, mt2_37 k = some f → mo_Sim 2 k f := mt_node (smt2_38 k) (smt2_39 k)
set_option maxRecDepth 100000 in
theorem smt2_33 (k : Nat) : ∀ f, mt2_33 k = some f → mo_Sim 2 k f := mt_node (smt2_34 k) (smt2_37 k)
set_option maxRecDepth 100000 in
theorem smt2_27 (k : Nat) : ∀ f, mt2_27 k = some f → mo_Sim 2 k f := mt_node (smt2_28 k) (smt2_33 k)
set_option maxRecDepth 100000 in
theorem smt2_42 (k : Nat) : ∀ f, mt2_42 k = some f → mo_Sim 2 k f := mt_leaf (ms_getf (e := (.getfield 37, 103, 1, 0, 108)) rfl (fun _ _ _ => rfl) : mo_Sim 2 100 (ma_getf 1 0 103)) (mt_leaf (ms_i2 (e := (.imul, 104, 0, 0, 0)) rfl (fun _ _ _ => rfl) hf_mul : mo_Sim 2 103 (ma_i2 ma_fmul 103 104)) (mt_leaf (ms_ald (e := (.aload_n 3, 105, 0, 0, 0)) rfl (fun _ _ _ => rfl) : mo_Sim 2 104 (ma_lda 3 105)) (mt_leaf (ms_getf (e := (.getfield 43, 108, 1, 3, 124)) rfl (fun _ _ _ => rfl) : mo_Sim 2 105 (ma_getf 1 3 108)) (mt_none))))
set_option maxRecDepth 100000 in
theorem smt2_44 (k : Nat) : ∀ f, mt2_44 k = some f → mo_Sim 2 k f := mt_leaf (ms_ild (e := (.iload 5, 110, 0, 0, 0)) rfl (fun _ _ _ => rfl) : mo_Sim 2 108 (ma_load 0 5 110)) (mt_leaf (ms_iald (e := (.iaload, 111, 0, 0, 0)) rfl (fun _ _ _ => rfl) : mo_Sim 2 110 (ma_iald 110 111)) (mt_none))
set_option maxRecDepth 100000 in
theorem smt2_45 (k : Nat) : ∀ f, mt2_45 k = some f → mo_Sim 2 k f := mt_leaf (ms_iadd (e := (.iadd, 112, 0, 0, 0)) rfl (fun _ _ _ => rfl) : mo_Sim 2 111 (ma_iadd 111 112)) (mt_leaf (ms_ist (e := (.istore 6, 114, 0, 0, 0)) rfl (fun _ _ _ => rfl) : mo_Sim 2 112 (ma_stor 0 6 114)) (mt_leaf (ms_ald (e := (.aload_n 0, 115, 0, 0, 0)) rfl (fun _ _ _ => rfl) : mo_Sim 2 114 (ma_lda 0 115)) (mt_none)))
set_option maxRecDepth 100000 in
theorem smt2_43 (k : Nat) : ∀ f, mt2_43 k = some f → mo_Sim 2 k f := mt_node (smt2_44 k) (smt2_45 k)
set_option maxRecDepth 100000 in
theorem smt2_41 (k : Nat) : ∀ f, mt2_41 k = some f → mo_Sim 2 k f := mt_node (smt2_42 k) (smt2_43 k)
set_option maxRecDepth 100000 in
theorem smt2_48 (k : Nat) : ∀ f, mt2_48 k = some f → mo_Sim 2 k f := mt_leaf (ms_getf (e := (.getfield 15, 118, 0, 3, 399)) rfl (fun _ _ _ => rfl) : mo_Sim 2 115 (ma_getf 0 3 118)) (mt_leaf (ms_ild (e := (.iload 5, 120, 0, 0, 0)) rfl (fun _ _ _ => rfl) : mo_Sim 2 118 (ma_load 0 5 120)) (mt_none))
set_option maxRecDepth 100000 in
theorem smt2_49 (k : Nat) : ∀ f, mt2_49 k = some f → mo_Sim 2 k f := mt_leaf (ms_ald (e := (.aload_n 0, 121, 0, 0, 0)) rfl (fun _ _ _ => rfl) : mo_Sim 2 120 (ma_lda 0 121)) (mt_leaf (ms_getf (e := (.getfield 9, 124, 0, 2, 395)) rfl (fun _ _ _ => rfl) : mo_Sim 2 121 (ma_getf 0 2 124)) (mt_leaf (ms_ild (e := (.iload 6, 126, 0, 0, 0)) rfl (fun _ _ _ => rfl) : mo_Sim 2 124 (ma_load 0 6 126)) (mt_none)))
set_option maxRecDepth 100000 in
theorem smt2_47 (k : Nat) : ∀ f, mt2_47 k = some f → mo_Sim 2 k f := mt_node (smt2_48 k) (smt2_49 k)
set_option maxRecDepth 100000 in
theorem smt2_51 (k : Nat) : ∀ f, mt2_51 k = some f → mo_Sim 2 k f := mt_leaf (ms_iald (e := (.iaload, 127, 0, 0, 0)) rfl (fun _ _ _ => rfl) : mo_Sim 2 126 (ma_iald 126 127)) (mt_leaf (ms_iast (e := (.iastore, 128, 0, 0, 0)) rfl rfl (fun _ _ _ => rfl) : mo_Sim 2 127 (ma_ast 13 0 127 128)) (mt_none))
set_option maxRecDepth 100000 in
theorem smt2_52 (k : Nat) : ∀ f, mt2_52 k = some f → mo_Sim 2 k f := mt_leaf (ms_iinc (e := (.iinc 5 1, 131, 0, 0, 0)) rfl (fun _ _ _ => rfl) (by decide) : mo_Sim 2 128 (ma_iinc 5 (.ofNat 1) 128 131)) (mt_leaf (ms_goto (e := (.goto (-61), 134, 70, 0, 0)) rfl (fun _ _ _ => rfl) : mo_Sim 2 131 (ma_goto 70)) (mt_leaf (ms_retv (e := (.return_, 135, 0, 0, 0)) rfl rfl (fun _ _ _ => rfl) : mo_Sim 2 134 (ma_retv)) (mt_none)))
set_option maxRecDepth 100000 in
theorem smt2_50 (k : Nat) : ∀ f, mt2_50 k = some f → mo_Sim 2 k f := mt_node (smt2_51 k) (smt2_52 k)
set_option maxRecDepth 100000 in
theorem smt2_46 (k : Nat) : ∀ f, mt2_46 k = some f → mo_Sim 2 k f := mt_node (smt2_47 k) (smt2_50 k)
set_option maxRecDepth 100000 in
theorem smt2_40 (k : Nat) : ∀ f, mt2_40 k = some f → mo_Sim 2 k f := mt_node (smt2_41 k) (smt2_46 k)
set_option maxRecDepth 100000 in
theorem smt2_26 (k : Nat) : ∀ f, mt2_26 k = some f → mo_Sim 2 k f := mt_node (smt2_27 k) (smt2_40 k)
set_option maxRecDepth 100000 in
theorem smt2_0 (k : Nat) : ∀ f, mt2_0 k = some f → mo_Sim 2 k f := mt_node (smt2_1 k) (smt2_26 k)
set_option maxRecDepth 100000 in
theorem smt3_3 (k : Nat) : ∀ f, mt3_3 k = some f → mo_Sim 3 k f := mt_leaf (ms_pushi (e := (.iconst 0, 1, 0, 0, 0)) rfl (fun _ _ _ => rfl) (by decide) : mo_Sim 3 0 (ma_push (ma_ci (.ofNat 0)) 1)) (mt_leaf (ms_ist (e := (.istore_n 3, 2, 0, 0, 0)) rfl (fun _ _ _ => rfl) : mo_Sim 3 1 (ma_stor 0 3 2)) (mt_leaf (ms_ild (e := (.iload_n 3, 3, 0, 0, 0)) rfl (fun _ _ _ => rfl) : mo_Sim 3 2 (ma_load 0 3 3)) (mt_leaf (ms_ald (e := (.aload_n 0, 4, 0, 0, 0)) rfl (fun _ _ _ => rfl) : mo_Sim 3 3 (ma_lda 0 4)) (mt_none))))
set_option maxRecDepth 100000 in
theorem smt3_4 (k : Nat) : ∀ f, mt3_4 k = some f → mo_Sim 3 k f := mt_leaf (ms_getf (e := (.getfield 28, 7, 0, 1, 393)) rfl (fun _ _ _ => rfl) : mo_Sim 3 4 (ma_getf 0 1 7)) (mt_leaf (ms_if2 (e := (.if_icmp .ge 44, 10, 51, 0, 0)) rfl (fun _ _ _ => rfl) : mo_Sim 3 7 (ma_if2 .ge 51 7 10)) (mt_leaf (ms_ald (e := (.aload_n 2, 11, 0, 0, 0)) rfl (fun _ _ _ => rfl) : mo_Sim 3 10 (ma_lda 2 11)) (mt_leaf (ms_ild (e := (.iload_n 3, 12, 0, 0, 0)) rfl (fun _ _ _ => rfl) : mo_Sim 3 11 (ma_load 0 3 12)) (mt_none))))
set_option maxRecDepth 100000 in
theorem smt3_2 (k : Nat) : ∀ f, mt3_2 k = some f → mo_Sim 3 k f := mt_node (smt3_3 k) (smt3_4 k)
set_option maxRecDepth 100000 in
theorem smt3_6 (k : Nat) : ∀ f, mt3_6 k = some f → mo_Sim 3 k f := mt_leaf (ms_ald (e := (.aload_n 0, 13, 0, 0, 0)) rfl (fun _ _ _ => rfl) : mo_Sim 3 12 (ma_lda 0 13)) (mt_leaf (ms_getf (e := (.getfield 18, 16, 0, 0, 389)) rfl (fun _ _ _ => rfl) : mo_Sim 3 13 (ma_getf 0 0 16)) (mt_leaf (ms_invV (p := 2) (e := (.invokevirtual 46, 19, 16, 0, 697)) rfl rfl (fun _ _ _ => rfl) rfl rfl rfl (by decide) : mo_Sim 3 16 (ma_inv 16 3 4 1 19)) (mt_leaf (ms_ist (e := (.istore 4, 21, 0, 0, 0)) rfl (fun _ _ _ => rfl) : mo_Sim 3 19 (ma_stor 0 4 21)) (mt_none))))
set_option maxRecDepth 100000 in
theorem smt3_7 (k : Nat) : ∀ f, mt3_7 k = some f → mo_Sim 3 k f := mt_leaf (ms_ild (e := (.iload 4, 23, 0, 0, 0)) rfl (fun _ _ _ => rfl) : mo_Sim 3 21 (ma_load 0 4 23)) (mt_leaf (ms_ild (e := (.iload_n 1, 24, 0, 0, 0)) rfl (fun _ _ _ => rfl) : mo_Sim 3 23 (ma_load 0 1 24)) (mt_leaf (ms_iand (e := (.iand, 25, 0, 0, 0)) rfl (fun _ _ _ => rfl) : mo_Sim 3 24 (ma_iand 24 25)) (mt_leaf (ms_ild (e := (.iload 4, 27, 0, 0, 0)) rfl (fun _ _ _ => rfl) : mo_Sim 3 25 (ma_load 0 4 27)) (mt_none))))
set_option maxRecDepth 100000 in
theorem smt3_5 (k : Nat) : ∀ f, mt3_5 k = some f → mo_Sim 3 k f := mt_node (smt3_6 k) (smt3_7 k)
set_option maxRecDepth 100000 in
theorem smt3_1 (k : Nat) : ∀ f, mt3_1 k = some f → mo_Sim 3 k f := mt_node (smt3_2 k) (smt3_5 k)
set_option maxRecDepth 100000 in
theorem smt3_10 (k : Nat) : ∀ f, mt3_10 k = some f → mo_Sim 3 k f := mt_leaf (ms_if2 (e := (.if_icmp .ne 18, 30, 45, 0, 0)) rfl (fun _ _ _ => rfl) : mo_Sim 3 27 (ma_if2 .ne 45 27 30)) (mt_leaf (ms_ild (e := (.iload_n 1, 31, 0, 0, 0)) rfl (fun _ _ _ => rfl) : mo_Sim 3 30 (ma_load 0 1 31)) (mt_leaf (ms_ald (e := (.aload_n 0, 32, 0, 0, 0)) rfl (fun _ _ _ => rfl) : mo_Sim 3 31 (ma_lda 0 32)) (mt_leaf (ms_getf (e := (.getfield 9, 35, 0, 2, 395)) rfl (fun _ _ _ => rfl) : mo_Sim 3 32 (ma_getf 0 2 35)) (mt_none))))
set_option maxRecDepth 100000 in
theorem smt3_11 (k : Nat) : ∀ f, mt3_11 k = some f → mo_Sim 3 k f := mt_leaf (ms_ild (e := (.iload_n 3, 36, 0, 0, 0)) rfl (fun _ _ _ => rfl) : mo_Sim 3 35 (ma_load 0 3 36)) (mt_leaf (ms_iald (e := (.iaload, 37, 0, 0, 0)) rfl (fun _ _ _ => rfl) : mo_Sim 3 36 (ma_iald 36 37)) (mt_leaf (ms_i2 (e := (.ishr, 38, 0, 0, 0)) rfl (fun _ _ _ => rfl) hf_shr : mo_Sim 3 37 (ma_i2 ma_fshr 37 38)) (mt_leaf (ms_pushi (e := (.iconst 1, 39, 0, 0, 0)) rfl (fun _ _ _ => rfl) (by decide) : mo_Sim 3 38 (ma_push (ma_ci (.ofNat 1)) 39)) (mt_none))))
set_option maxRecDepth 100000 in
theorem smt3_9 (k : Nat) : ∀ f, mt3_9 k = some f → mo_Sim 3 k f := mt_node (smt3_10 k) (smt3_11 k)
set_option maxRecDepth 100000 in
theorem smt3_13 (k : Nat) : ∀ f, mt3_13 k = some f → mo_Sim 3 k f := mt_leaf (ms_iand (e := (.iand, 40, 0, 0, 0)) rfl (fun _ _ _ => rfl) : mo_Sim 3 39 (ma_iand 39 40)) (mt_leaf (ms_if0 (e := (.ifCond .ne 5, 43, 45, 0, 0)) rfl (fun _ _ _ => rfl) : mo_Sim 3 40 (ma_if0 .ne 45 40 43)) (mt_leaf (ms_pushi (e := (.iconst 0, 44, 0, 0, 0)) rfl (fun _ _ _ => rfl) (by decide) : mo_Sim 3 43 (ma_push (ma_ci (.ofNat 0)) 44)) (mt_leaf (ms_ret (e := (.ireturn, 45, 0, 0, 0)) rfl (Or.inr (Or.inl ⟨rfl, rfl, (fun _ _ _ => rfl)⟩)) : mo_Sim 3 44 (ma_ret 1)) (mt_none))))
set_option maxRecDepth 100000 in
theorem smt3_14 (k : Nat) : ∀ f, mt3_14 k = some f → mo_Sim 3 k f := mt_leaf (ms_iinc (e := (.iinc 3 1, 48, 0, 0, 0)) rfl (fun _ _ _ => rfl) (by decide) : mo_Sim 3 45 (ma_iinc 3 (.ofNat 1) 45 48)) (mt_leaf (ms_goto (e := (.goto (-46), 51, 2, 0, 0)) rfl (fun _ _ _ => rfl) : mo_Sim 3 48 (ma_goto 2)) (mt_leaf (ms_pushi (e := (.iconst 1, 52, 0, 0, 0)) rfl (fun _ _ _ => rfl) (by decide) : mo_Sim 3 51 (ma_push (ma_ci (.ofNat 1)) 52)) (mt_leaf (ms_ret (e := (.ireturn, 53, 0, 0, 0)) rfl (Or.inr (Or.inl ⟨rfl, rfl, (fun _ _ _ => rfl)⟩)) : mo_Sim 3 52 (ma_ret 1)) (mt_none))))
set_option maxRecDepth 100000 in
theorem smt3_12 (k : Nat) : ∀ f, mt3_12 k = some f → mo_Sim 3 k f := mt_node (smt3_13 k) (smt3_14 k)
set_option maxRecDepth 100000 in
theorem smt3_8 (k : Nat) : ∀ f, mt3_8 k = some f → mo_Sim 3 k f := mt_node (smt3_9 k) (smt3_12 k)
set_option maxRecDepth 100000 in
theorem smt3_0 (k : Nat) : ∀ f, mt3_0 k = some f → mo_Sim 3 k f := mt_node (smt3_1 k) (smt3_8 k)
set_option maxRecDepth 100000 in
theorem smt4_4 (k : Nat) : ∀ f, mt4_4 k = some f → mo_Sim 4 k f := mt_leaf (ms_pushi (e := (.iconst 0, 1, 0, 0, 0)) rfl (fun _ _ _ => rfl) (by decide) : mo_Sim 4 0 (ma_push (ma_ci (.ofNat 0)) 1)) (mt_leaf (ms_ist (e := (.istore_n 3, 2, 0, 0, 0)) rfl (fun _ _ _ => rfl) : mo_Sim 4 1 (ma_stor 0 3 2)) (mt_leaf (ms_ild (e := (.iload_n 3, 3, 0, 0, 0)) rfl (fun _ _ _ => rfl) : mo_Sim 4 2 (ma_load 0 3 3)) (mt_none)))
set_option maxRecDepth 100000 in
theorem smt4_5 (k : Nat) : ∀ f, mt4_5 k = some f → mo_Sim 4 k f := mt_leaf (ms_ald (e := (.aload_n 0, 4, 0, 0, 0)) rfl (fun _ _ _ => rfl) : mo_Sim 4 3 (ma_lda 0 4)) (mt_leaf (ms_getf (e := (.getfield 28, 7, 0, 1, 393)) rfl (fun _ _ _ => rfl) : mo_Sim 4 4 (ma_getf 0 1 7)) (mt_leaf (ms_if2 (e := (.if_icmp .ge 83, 10, 90, 0, 0)) rfl (fun _ _ _ => rfl) : mo_Sim 4 7 (ma_if2 .ge 90 7 10)) (mt_none)))
set_option maxRecDepth 100000 in
theorem smt4_3 (k : Nat) : ∀ f, mt4_3 k = some f → mo_Sim 4 k f := mt_node (smt4_4 k) (smt4_5 k)
set_option maxRecDepth 100000 in
theorem smt4_7 (k : Nat) : ∀ f, mt4_7 k = some f → mo_Sim 4 k f := mt_leaf (ms_ild (e := (.iload_n 1, 11, 0, 0, 0)) rfl (fun _ _ _ => rfl) : mo_Sim 4 10 (ma_load 0 1 11)) (mt_leaf (ms_ald (e := (.aload_n 2, 12, 0, 0, 0)) rfl (fun _ _ _ => rfl) : mo_Sim 4 11 (ma_lda 2 12)) (mt_leaf (ms_getf (e := (.getfield 34, 15, 1, 2, 117)) rfl (fun _ _ _ => rfl) : mo_Sim 4 12 (ma_getf 1 2 15)) (mt_none)))
set_option maxRecDepth 100000 in
theorem smt4_8 (k : Nat) : ∀ f, mt4_8 k = some f → mo_Sim 4 k f := mt_leaf (ms_ild (e := (.iload_n 3, 16, 0, 0, 0)) rfl (fun _ _ _ => rfl) : mo_Sim 4 15 (ma_load 0 3 16)) (mt_leaf (ms_iald (e := (.iaload, 17, 0, 0, 0)) rfl (fun _ _ _ => rfl) : mo_Sim 4 16 (ma_iald 16 17)) (mt_leaf (ms_invS (e := (.invokestatic 50, 20, 6, 1, 909)) rfl rfl (fun _ _ _ => rfl) rfl rfl : mo_Sim 4 17 (ma_inv 6 2 2 20 20)) (mt_leaf (ms_ald (e := (.aload_n 2, 21, 0, 0, 0)) rfl (fun _ _ _ => rfl) : mo_Sim 4 20 (ma_lda 2 21)) (mt_none))))
set_option maxRecDepth 100000 in
theorem smt4_6 (k : Nat) : ∀ f, mt4_6 k = some f → mo_Sim 4 k f := mt_node (smt4_7 k) (smt4_8 k)
set_option maxRecDepth 100000 in
theorem smt4_2 (k : Nat) : ∀ f, mt4_2 k = some f → mo_Sim 4 k f := mt_node (smt4_3 k) (smt4_6 k)
set_option maxRecDepth 100000 in
theorem smt4_11 (k : Nat) : ∀ f, mt4_11 k = some f → mo_Sim 4 k f := mt_leaf (ms_getf (e := (.getfield 37, 24, 1, 0, 108)) rfl (fun _ _ _ => rfl) : mo_Sim 4 21 (ma_getf 1 0 24)) (mt_leaf (ms_i2 (e := (.imul, 25, 0, 0, 0)) rfl (fun _ _ _ => rfl) hf_mul : mo_Sim 4 24 (ma_i2 ma_fmul 24 25)) (mt_leaf (ms_ild (e := (.iload_n 1, 26, 0, 0, 0)) rfl (fun _ _ _ => rfl) : mo_Sim 4 25 (ma_load 0 1 26)) (mt_none)))
set_option maxRecDepth 100000 in
theorem smt4_12 (k : Nat) : ∀ f, mt4_12 k = some f → mo_Sim 4 k f := mt_leaf (ms_ald (e := (.aload_n 2, 27, 0, 0, 0)) rfl (fun _ _ _ => rfl) : mo_Sim 4 26 (ma_lda 2 27)) (mt_leaf (ms_getf (e := (.getfield 43, 30, 1, 3, 124)) rfl (fun _ _ _ => rfl) : mo_Sim 4 27 (ma_getf 1 3 30)) (mt_leaf (ms_ild (e := (.iload_n 3, 31, 0, 0, 0)) rfl (fun _ _ _ => rfl) : mo_Sim 4 30 (ma_load 0 3 31)) (mt_leaf (ms_iald (e := (.iaload, 32, 0, 0, 0)) rfl (fun _ _ _ => rfl) : mo_Sim 4 31 (ma_iald 31 32)) (mt_none))))
set_option maxRecDepth 100000 in
theorem smt4_10 (k : Nat) : ∀ f, mt4_10 k = some f → mo_Sim 4 k f := mt_node (smt4_11 k) (smt4_12 k)
set_option maxRecDepth 100000 in
theorem smt4_14 (k : Nat) : ∀ f, mt4_14 k = some f → mo_Sim 4 k f := mt_leaf (ms_invS (e := (.invokestatic 50, 35, 6, 1, 909)) rfl rfl (fun _ _ _ => rfl) rfl rfl : mo_Sim 4 32 (ma_inv 6 2 2 20 35)) (mt_leaf (ms_iadd (e := (.iadd, 36, 0, 0, 0)) rfl (fun _ _ _ => rfl) : mo_Sim 4 35 (ma_iadd 35 36)) (mt_leaf (ms_ist (e := (.istore 4, 38, 0, 0, 0)) rfl (fun _ _ _ => rfl) : mo_Sim 4 36 (ma_stor 0 4 38)) (mt_none)))
set_option maxRecDepth 100000 in
theorem smt4_15 (k : Nat) : ∀ f, mt4_15 k = some f → mo_Sim 4 k f := mt_leaf (ms_ild (e := (.iload 4, 40, 0, 0, 0)) rfl (fun _ _ _ => rfl) : mo_Sim 4 38 (ma_load 0 4 40)) (mt_leaf (ms_ald (e := (.aload_n 2, 41, 0, 0, 0)) rfl (fun _ _ _ => rfl) : mo_Sim 4 40 (ma_lda 2 41)) (mt_leaf (ms_getf (e := (.getfield 37, 44, 1, 0, 108)) rfl (fun _ _ _ => rfl) : mo_Sim 4 41 (ma_getf 1 0 44)) (mt_leaf (ms_i2 (e := (.imul, 45, 0, 0, 0)) rfl (fun _ _ _ => rfl) hf_mul : mo_Sim 4 44 (ma_i2 ma_fmul 44 45)) (mt_none))))
set_option maxRecDepth 100000 in
theorem smt4_13 (k : Nat) : ∀ f, mt4_13 k = some f → mo_Sim 4 k f := mt_node (smt4_14 k) (smt4_15 k)
set_option maxRecDepth 100000 in
theorem smt4_9 (k : Nat) : ∀ f, mt4_9 k = some f → mo_Sim 4 k f := mt_node (smt4_10 k) (smt4_13 k)
set_option maxRecDepth 100000 in
theorem smt4_1 (k : Nat) : ∀ f, mt4_1 k = some f → mo_Sim 4 k f := mt_node (smt4_2 k) (smt4_9 k)
set_option maxRecDepth 100000 in
theorem smt4_19 (k : Nat) : ∀ f, mt4_19 k = some f → mo_Sim 4 k f := mt_leaf (ms_ild (e := (.iload_n 1, 46, 0, 0, 0)) rfl (fun _ _ _ => rfl) : mo_Sim 4 45 (ma_load 0 1 46)) (mt_leaf (ms_ald (e := (.aload_n 2, 47, 0, 0, 0)) rfl (fun _ _ _ => rfl) : mo_Sim 4 46 (ma_lda 2 47)) (mt_leaf (ms_getf (e := (.getfield 40, 50, 1, 4, 131)) rfl (fun _ _ _ => rfl) : mo_Sim 4 47 (ma_getf 1 4 50)) (mt_none)))
set_option maxRecDepth 100000 in
theorem smt4_20 (k : Nat) : ∀ f, mt4_20 k = some f → mo_Sim 4 k f := mt_leaf (ms_ild (e := (.iload_n 3, 51, 0, 0, 0)) rfl (fun _ _ _ => rfl) : mo_Sim 4 50 (ma_load 0 3 51)) (mt_leaf (ms_iald (e := (.iaload, 52, 0, 0, 0)) rfl (fun _ _ _ => rfl) : mo_Sim 4 51 (ma_iald 51 52)) (mt_leaf (ms_invS (e := (.invokestatic 50, 55, 6, 1, 909)) rfl rfl (fun _ _ _ => rfl) rfl rfl : mo_Sim 4 52 (ma_inv 6 2 2 20 55)) (mt_none)))
set_option maxRecDepth 100000 in
theorem smt4_18 (k : Nat) : ∀ f, mt4_18 k = some f → mo_Sim 4 k f := mt_node (smt4_19 k) (smt4_20 k)
set_option maxRecDepth 100000 in
theorem smt4_22 (k : Nat) : ∀ f, mt4_22 k = some f → mo_Sim 4 k f := mt_leaf (ms_iadd (e := (.iadd, 56, 0, 0, 0)) rfl (fun _ _ _ => rfl) : mo_Sim 4 55 (ma_iadd 55 56)) (mt_leaf (ms_ist (e := (.istore 4, 58, 0, 0, 0)) rfl (fun _ _ _ => rfl) : mo_Sim 4 56 (ma_stor 0 4 58)) (mt_leaf (ms_ild (e := (.iload_n 1, 59, 0, 0, 0)) rfl (fun _ _ _ => rfl) : mo_Sim 4 58 (ma_load 0 1 59)) (mt_none)))
set_option maxRecDepth 100000 in
theorem smt4_23 (k : Nat) : ∀ f, mt4_23 k = some f → mo_Sim 4 k f := mt_leaf (ms_ald (e := (.aload_n 0, 60, 0, 0, 0)) rfl (fun _ _ _ => rfl) : mo_Sim 4 59 (ma_lda 0 60)) (mt_leaf (ms_getf (e := (.getfield 9, 63, 0, 2, 395)) rfl (fun _ _ _ => rfl) : mo_Sim 4 60 (ma_getf 0 2 63)) (mt_leaf (ms_ild (e := (.iload_n 3, 64, 0, 0, 0)) rfl (fun _ _ _ => rfl) : mo_Sim 4 63 (ma_load 0 3 64)) (mt_leaf (ms_iald (e := (.iaload, 65, 0, 0, 0)) rfl (fun _ _ _ => rfl) : mo_Sim 4 64 (ma_iald 64 65)) (mt_none))))
set_option maxRecDepth 100000 in
theorem smt4_21 (k : Nat) : ∀ f, mt4_21 k = some f → mo_Sim 4 k f := mt_node (smt4_22 k) (smt4_23 k)
set_option maxRecDepth 100000 in
theorem smt4_17 (k : Nat) : ∀ f, mt4_17 k = some f → mo_Sim 4 k f := mt_node (smt4_18 k) (smt4_21 k)
set_option maxRecDepth 100000 in
theorem smt4_26 (k : Nat) : ∀ f, mt4_26 k = some f → mo_Sim 4 k f := mt_leaf (ms_invS (e := (.invokestatic 50, 68, 6, 1, 909)) rfl rfl (fun _ _ _ => rfl) rfl rfl : mo_Sim 4 65 (ma_inv 6 2 2 20 68)) (mt_leaf (ms_ild (e := (.iload_n 1, 69, 0, 0, 0)) rfl (fun _ _ _ => rfl) : mo_Sim 4 68 (ma_load 0 1 69)) (mt_leaf (ms_ald (e := (.aload_n 0, 70, 0, 0, 0)) rfl (fun _ _ _ => rfl) : mo_Sim 4 69 (ma_lda 0 70)) (mt_none)))
set_option maxRecDepth 100000 in
theorem smt4_27 (k : Nat) : ∀ f, mt4_27 k = some f → mo_Sim 4 k f := mt_leaf (ms_getf (e := (.getfield 9, 73, 0, 2, 395)) rfl (fun _ _ _ => rfl) : mo_Sim 4 70 (ma_getf 0 2 73)) (mt_leaf (ms_ild (e := (.iload 4, 75, 0, 0, 0)) rfl (fun _ _ _ => rfl) : mo_Sim 4 73 (ma_load 0 4 75)) (mt_leaf (ms_iald (e := (.iaload, 76, 0, 0, 0)) rfl (fun _ _ _ => rfl) : mo_Sim 4 75 (ma_iald 75 76)) (mt_leaf (ms_invS (e := (.invokestatic 50, 79, 6, 1, 909)) rfl rfl (fun _ _ _ => rfl) rfl rfl : mo_Sim 4 76 (ma_inv 6 2 2 20 79)) (mt_none))))
set_option maxRecDepth 100000 in
theorem smt4_25 (k : Nat) : ∀ f, mt4_25 k = some f → mo_Sim 4 k f := mt_node (smt4_26 k) (smt4_27 k)
set_option maxRecDepth 100000 in
theorem smt4_29 (k : Nat) : ∀ f, mt4_29 k = some f → mo_Sim 4 k f := mt_leaf (ms_if2 (e := (.if_icmp .eq 5, 82, 84, 0, 0)) rfl (fun _ _ _ => rfl) : mo_Sim 4 79 (ma_if2 .eq 84 79 82)) (mt_leaf (ms_pushi (e := (.iconst 0, 83, 0, 0, 0)) rfl (fun _ _ _ => rfl) (by decide) : mo_Sim 4 82 (ma_push (ma_ci (.ofNat 0)) 83)) (mt_leaf (ms_ret (e := (.ireturn, 84, 0, 0, 0)) rfl (Or.inr (Or.inl ⟨rfl, rfl, (fun _ _ _ => rfl)⟩)) : mo_Sim 4 83 (ma_ret 1)) (mt_none)))
set_option maxRecDepth 100000 in
theorem smt4_30 (k : Nat) : ∀ f, mt4_30 k = some f → mo_Sim 4 k f := mt_leaf (ms_iinc (e := (.iinc 3 1, 87, 0, 0, 0)) rfl (fun _ _ _ => rfl) (by decide) : mo_Sim 4 84 (ma_iinc 3 (.ofNat 1) 84 87)) (mt_leaf (ms_goto (e := (.goto (-85), 90, 2, 0, 0)) rfl (fun _ _ _ => rfl) : mo_Sim 4 87 (ma_goto 2)) (mt_leaf (ms_pushi (e := (.iconst 1, 91, 0, 0, 0)) rfl (fun _ _ _ => rfl) (by decide) : mo_Sim 4 90 (ma_push (ma_ci (.ofNat 1)) 91)) (mt_leaf (ms_ret (e := (.ireturn, 92, 0, 0, 0)) rfl (Or.inr (Or.inl ⟨rfl, rfl, (fun _ _ _ => rfl)⟩)) : mo_Sim 4 91 (ma_ret 1)) (mt_none))))
set_option maxRecDepth 100000 in
theorem smt4_28 (k : Nat) : ∀ f, mt4_28 k = some f → mo_Sim 4 k f := mt_node (smt4_29 k) (smt4_30 k)
set_option maxRecDepth 100000 in
theorem smt4_24 (k : Nat) : ∀ f, mt4_24 k = some f → mo_Sim 4 k f := mt_node (smt4_25 k) (smt4_28 k)
set_option maxRecDepth 100000 in
theorem smt4_16 (k : Nat) : ∀ f, mt4_16 k = some f → mo_Sim 4 k f := mt_node (smt4_17 k) (smt4_24 k)
set_option maxRecDepth 100000 in
theorem smt4_0 (k : Nat) : ∀ f, mt4_0 k = some f → mo_Sim 4 k f := mt_node (smt4_1 k) (smt4_16 k)
set_option maxRecDepth 100000 in
theorem smt5_4 (k : Nat) : ∀ f, mt5_4 k = some f → mo_Sim 5 k f := mt_leaf (ms_pushi (e := (.iconst 0, 1, 0, 0, 0)) rfl (fun _ _ _ => rfl) (by decide) : mo_Sim 5 0 (ma_push (ma_ci (.ofNat 0)) 1)) (mt_leaf (ms_ist (e := (.istore_n 1, 2, 0, 0, 0)) rfl (fun _ _ _ => rfl) : mo_Sim 5 1 (ma_stor 0 1 2)) (mt_none))
set_option maxRecDepth 100000 in
theorem smt5_5 (k : Nat) : ∀ f, mt5_5 k = some f → mo_Sim 5 k f := mt_leaf (ms_ald (e := (.aload_n 0, 3, 0, 0, 0)) rfl (fun _ _ _ => rfl) : mo_Sim 5 2 (ma_lda 0 3)) (mt_leaf (ms_getf (e := (.getfield 9, 6, 0, 2, 395)) rfl (fun _ _ _ => rfl) : mo_Sim 5 3 (ma_getf 0 2 6)) (mt_leaf (ms_pushi (e := (.iconst 0, 7, 0, 0, 0)) rfl (fun _ _ _ => rfl) (by decide) : mo_Sim 5 6 (ma_push (ma_ci (.ofNat 0)) 7)) (mt_none)))
set_option maxRecDepth 100000 in
theorem smt5_3 (k : Nat) : ∀ f, mt5_3 k = some f → mo_Sim 5 k f := mt_node (smt5_4 k) (smt5_5 k)
set_option maxRecDepth 100000 in
theorem smt5_7 (k : Nat) : ∀ f, mt5_7 k = some f → mo_Sim 5 k f := mt_leaf (ms_iald (e := (.iaload, 8, 0, 0, 0)) rfl (fun _ _ _ => rfl) : mo_Sim 5 7 (ma_iald 7 8)) (mt_leaf (ms_if0 (e := (.ifCond .ne 7, 11, 15, 0, 0)) rfl (fun _ _ _ => rfl) : mo_Sim 5 8 (ma_if0 .ne 15 8 11)) (mt_leaf (ms_ild (e := (.iload_n 1, 12, 0, 0, 0)) rfl (fun _ _ _ => rfl) : mo_Sim 5 11 (ma_load 0 1 12)) (mt_none)))
set_option maxRecDepth 100000 in
theorem smt5_8 (k : Nat) : ∀ f, mt5_8 k = some f → mo_Sim 5 k f := mt_leaf (ms_pushi (e := (.iconst 1, 13, 0, 0, 0)) rfl (fun _ _ _ => rfl) (by decide) : mo_Sim 5 12 (ma_push (ma_ci (.ofNat 1)) 13)) (mt_leaf (ms_i2 (e := (.ior, 14, 0, 0, 0)) rfl (fun _ _ _ => rfl) hf_or : mo_Sim 5 13 (ma_i2 ma_for 13 14)) (mt_leaf (ms_ist (e := (.istore_n 1, 15, 0, 0, 0)) rfl (fun _ _ _ => rfl) : mo_Sim 5 14 (ma_stor 0 1 15)) (mt_none)))
set_option maxRecDepth 100000 in
theorem smt5_6 (k : Nat) : ∀ f, mt5_6 k = some f → mo_Sim 5 k f := mt_node (smt5_7 k) (smt5_8 k)
set_option maxRecDepth 100000 in
theorem smt5_2 (k : Nat) : ∀ f, mt5_2 k = some f → mo_Sim 5 k f := mt_node (smt5_3 k) (smt5_6 k)
set_option maxRecDepth 100000 in
theorem smt5_11 (k : Nat) : ∀ f, mt5_11 k = some f → mo_Sim 5 k f := mt_leaf (ms_ald (e := (.aload_n 0, 16, 0, 0, 0)) rfl (fun _ _ _ => rfl) : mo_Sim 5 15 (ma_lda 0 16)) (mt_leaf (ms_getf (e := (.getfield 9, 19, 0, 2, 395)) rfl (fun _ _ _ => rfl) : mo_Sim 5 16 (ma_getf 0 2 19)) (mt_leaf (ms_ald (e := (.aload_n 0, 20, 0, 0, 0)) rfl (fun _ _ _ => rfl) : mo_Sim 5 19 (ma_lda 0 20)) (mt_none)))
set_option maxRecDepth 100000 in
theorem smt5_12 (k : Nat) : ∀ f, mt5_12 k = some f → mo_Sim 5 k f := mt_leaf (ms_getf (e := (.getfield 28, 23, 0, 1, 393)) rfl (fun _ _ _ => rfl) : mo_Sim 5 20 (ma_getf 0 1 23)) (mt_leaf (ms_pushi (e := (.iconst 1, 24, 0, 0, 0)) rfl (fun _ _ _ => rfl) (by decide) : mo_Sim 5 23 (ma_push (ma_ci (.ofNat 1)) 24)) (mt_leaf (ms_isub (e := (.isub, 25, 0, 0, 0)) rfl (fun _ _ _ => rfl) : mo_Sim 5 24 (ma_isub 24 25)) (mt_none)))
set_option maxRecDepth 100000 in
theorem smt5_10 (k : Nat) : ∀ f, mt5_10 k = some f → mo_Sim 5 k f := mt_node (smt5_11 k) (smt5_12 k)
set_option maxRecDepth 100000 in
theorem smt5_14 (k : Nat) : ∀ f, mt5_14 k = some f → mo_Sim 5 k f := mt_leaf (ms_iald (e := (.iaload, 26, 0, 0, 0)) rfl (fun _ _ _ => rfl) : mo_Sim 5 25 (ma_iald 25 26)) (mt_leaf (ms_pushi (e := (.iconst 1, 27, 0, 0, 0)) rfl (fun _ _ _ => rfl) (by decide) : mo_Sim 5 26 (ma_push (ma_ci (.ofNat 1)) 27)) (mt_leaf (ms_if2 (e := (.if_icmp .ne 7, 30, 34, 0, 0)) rfl (fun _ _ _ => rfl) : mo_Sim 5 27 (ma_if2 .ne 34 27 30)) (mt_none)))
set_option maxRecDepth 100000 in
theorem smt5_15 (k : Nat) : ∀ f, mt5_15 k = some f → mo_Sim 5 k f := mt_leaf (ms_ild (e := (.iload_n 1, 31, 0, 0, 0)) rfl (fun _ _ _ => rfl) : mo_Sim 5 30 (ma_load 0 1 31)) (mt_leaf (ms_pushi (e := (.iconst 2, 32, 0, 0, 0)) rfl (fun _ _ _ => rfl) (by decide) : mo_Sim 5 31 (ma_push (ma_ci (.ofNat 2)) 32)) (mt_leaf (ms_i2 (e := (.ior, 33, 0, 0, 0)) rfl (fun _ _ _ => rfl) hf_or : mo_Sim 5 32 (ma_i2 ma_for 32 33)) (mt_none)))
set_option maxRecDepth 100000 in
theorem smt5_13 (k : Nat) : ∀ f, mt5_13 k = some f → mo_Sim 5 k f := mt_node (smt5_14 k) (smt5_15 k)
set_option maxRecDepth 100000 in
theorem smt5_9 (k : Nat) : ∀ f, mt5_9 k = some f → mo_Sim 5 k f := mt_node (smt5_10 k) (smt5_13 k)
set_option maxRecDepth 100000 in
theorem smt5_1 (k : Nat) : ∀ f, mt5_1 k = some f → mo_Sim 5 k f := mt_node (smt5_2 k) (smt5_9 k)
set_option maxRecDepth 100000 in
theorem smt5_19 (k : Nat) : ∀ f, mt5_19 k = some f → mo_Sim 5 k f := mt_leaf (ms_ist (e := (.istore_n 1, 34, 0, 0, 0)) rfl (fun _ _ _ => rfl) : mo_Sim 5 33 (ma_stor 0 1 34)) (mt_leaf (ms_ald (e := (.aload_n 0, 35, 0, 0, 0)) rfl (fun _ _ _ => rfl) : mo_Sim 5 34 (ma_lda 0 35)) (mt_leaf (ms_invV (p := 0) (e := (.invokevirtual 53, 38, 7, 0, 924)) rfl rfl (fun _ _ _ => rfl) rfl rfl rfl (by decide) : mo_Sim 5 35 (ma_inv 7 1 3 0 38)) (mt_none)))
set_option maxRecDepth 100000 in
theorem smt5_20 (k : Nat) : ∀ f, mt5_20 k = some f → mo_Sim 5 k f := mt_leaf (ms_if0 (e := (.ifCond .eq 7, 41, 45, 0, 0)) rfl (fun _ _ _ => rfl) : mo_Sim 5 38 (ma_if0 .eq 45 38 41)) (mt_leaf (ms_ild (e := (.iload_n 1, 42, 0, 0, 0)) rfl (fun _ _ _ => rfl) : mo_Sim 5 41 (ma_load 0 1 42)) (mt_leaf (ms_pushi (e := (.iconst 4, 43, 0, 0, 0)) rfl (fun _ _ _ => rfl) (by decide) : mo_Sim 5 42 (ma_push (ma_ci (.ofNat 4)) 43)) (mt_none)))
set_option maxRecDepth 100000 in
theorem smt5_18 (k : Nat) : ∀ f, mt5_18 k = some f → mo_Sim 5 k f := mt_node (smt5_19 k) (smt5_20 k)
set_option maxRecDepth 100000 in
theorem smt5_22 (k : Nat) : ∀ f, mt5_22 k = some f → mo_Sim 5 k f := mt_leaf (ms_i2 (e := (.ior, 44, 0, 0, 0)) rfl (fun _ _ _ => rfl) hf_or : mo_Sim 5 43 (ma_i2 ma_for 43 44)) (mt_leaf (ms_ist (e := (.istore_n 1, 45, 0, 0, 0)) rfl (fun _ _ _ => rfl) : mo_Sim 5 44 (ma_stor 0 1 45)) (mt_leaf (ms_ald (e := (.aload_n 0, 46, 0, 0, 0)) rfl (fun _ _ _ => rfl) : mo_Sim 5 45 (ma_lda 0 46)) (mt_none)))
set_option maxRecDepth 100000 in
theorem smt5_23 (k : Nat) : ∀ f, mt5_23 k = some f → mo_Sim 5 k f := mt_leaf (ms_invV (p := 0) (e := (.invokevirtual 57, 49, 8, 0, 928)) rfl rfl (fun _ _ _ => rfl) rfl rfl rfl (by decide) : mo_Sim 5 46 (ma_inv 8 1 2 0 49)) (mt_leaf (ms_if0 (e := (.ifCond .eq 8, 52, 57, 0, 0)) rfl (fun _ _ _ => rfl) : mo_Sim 5 49 (ma_if0 .eq 57 49 52)) (mt_leaf (ms_ild (e := (.iload_n 1, 53, 0, 0, 0)) rfl (fun _ _ _ => rfl) : mo_Sim 5 52 (ma_load 0 1 53)) (mt_none)))
set_option maxRecDepth 100000 in
theorem smt5_21 (k : Nat) : ∀ f, mt5_21 k = some f → mo_Sim 5 k f := mt_node (smt5_22 k) (smt5_23 k)
set_option maxRecDepth 100000 in
theorem smt5_17 (k : Nat) : ∀ f, mt5_17 k = some f → mo_Sim 5 k f := mt_node (smt5_18 k) (smt5_21 k)
set_option maxRecDepth 100000 in
theorem smt5_26 (k : Nat) : ∀ f, mt5_26 k = some f → mo_Sim 5 k f := mt_leaf (ms_pushi (e := (.bipush 8, 55, 0, 0, 0)) rfl (fun _ _ _ => rfl) (by decide) : mo_Sim 5 53 (ma_push (ma_ci (.ofNat 8)) 55)) (mt_leaf (ms_i2 (e := (.ior, 56, 0, 0, 0)) rfl (fun _ _ _ => rfl) hf_or : mo_Sim 5 55 (ma_i2 ma_for 55 56)) (mt_leaf (ms_ist (e := (.istore_n 1, 57, 0, 0, 0)) rfl (fun _ _ _ => rfl) : mo_Sim 5 56 (ma_stor 0 1 57)) (mt_none)))
set_option maxRecDepth 100000 in
theorem smt5_27 (k : Nat) : ∀ f, mt5_27 k = some f → mo_Sim 5 k f := mt_leaf (ms_ald (e := (.aload_n 0, 58, 0, 0, 0)) rfl (fun _ _ _ => rfl) : mo_Sim 5 57 (ma_lda 0 58)) (mt_leaf (ms_invV (p := 0) (e := (.invokevirtual 60, 61, 9, 0, 932)) rfl rfl (fun _ _ _ => rfl) rfl rfl rfl (by decide) : mo_Sim 5 58 (ma_inv 9 1 4 0 61)) (mt_leaf (ms_if0 (e := (.ifCond .eq 8, 64, 69, 0, 0)) rfl (fun _ _ _ => rfl) : mo_Sim 5 61 (ma_if0 .eq 69 61 64)) (mt_none)))
set_option maxRecDepth 100000 in
theorem smt5_25 (k : Nat) : ∀ f, mt5_25 k = some f → mo_Sim 5 k f := mt_node (smt5_26 k) (smt5_27 k)
set_option maxRecDepth 100000 in
theorem smt5_29 (k : Nat) : ∀ f, mt5_29 k = some f → mo_Sim 5 k f := mt_leaf (ms_ild (e := (.iload_n 1, 65, 0, 0, 0)) rfl (fun _ _ _ => rfl) : mo_Sim 5 64 (ma_load 0 1 65)) (mt_leaf (ms_pushi (e := (.bipush 16, 67, 0, 0, 0)) rfl (fun _ _ _ => rfl) (by decide) : mo_Sim 5 65 (ma_push (ma_ci (.ofNat 16)) 67)) (mt_leaf (ms_i2 (e := (.ior, 68, 0, 0, 0)) rfl (fun _ _ _ => rfl) hf_or : mo_Sim 5 67 (ma_i2 ma_for 67 68)) (mt_none)))
set_option maxRecDepth 100000 in
theorem smt5_30 (k : Nat) : ∀ f, mt5_30 k = some f → mo_Sim 5 k f := mt_leaf (ms_ist (e := (.istore_n 1, 69, 0, 0, 0)) rfl (fun _ _ _ => rfl) : mo_Sim 5 68 (ma_stor 0 1 69)) (mt_leaf (ms_ild (e := (.iload_n 1, 70, 0, 0, 0)) rfl (fun _ _ _ => rfl) : mo_Sim 5 69 (ma_load 0 1 70)) (mt_leaf (ms_ret (e := (.ireturn, 71, 0, 0, 0)) rfl (Or.inl ⟨rfl, rfl, (fun _ _ _ => rfl)⟩) : mo_Sim 5 70 (ma_ret 0)) (mt_none)))
set_option maxRecDepth 100000 in
theorem smt5_28 (k : Nat) : ∀ f, mt5_28 k = some f → mo_Sim 5 k f := mt_node (smt5_29 k) (smt5_30 k)
set_option maxRecDepth 100000 in
theorem smt5_24 (k : Nat) : ∀ f, mt5_24 k = some f → mo_Sim 5 k f := mt_node (smt5_25 k) (smt5_28 k)
set_option maxRecDepth 100000 in
theorem smt5_16 (k : Nat) : ∀ f, mt5_16 k = some f → mo_Sim 5 k f := mt_node (smt5_17 k) (smt5_24 k)
set_option maxRecDepth 100000 in
theorem smt5_0 (k : Nat) : ∀ f, mt5_0 k = some f → mo_Sim 5 k f := mt_node (smt5_1 k) (smt5_16 k)
set_option maxRecDepth 100000 in
theorem smt6_1 (k : Nat) : ∀ f, mt6_1 k = some f → mo_Sim 6 k f := mt_leaf (ms_ild (e := (.iload_n 0, 1, 0, 0, 0)) rfl (fun _ _ _ => rfl) : mo_Sim 6 0 (ma_load 0 0 1)) (mt_leaf (ms_pushi (e := (.iconst 2, 2, 0, 0, 0)) rfl (fun _ _ _ => rfl) (by decide) : mo_Sim 6 1 (ma_push (ma_ci (.ofNat 2)) 2)) (mt_leaf (ms_ild (e := (.iload_n 1, 3, 0, 0, 0)) rfl (fun _ _ _ => rfl) : mo_Sim 6 2 (ma_load 0 1 3)) (mt_leaf (ms_i2 (e := (.imul, 4, 0, 0, 0)) rfl (fun _ _ _ => rfl) hf_mul : mo_Sim 6 3 (ma_i2 ma_fmul 3 4)) (mt_none))))
set_option maxRecDepth 100000 in
theorem smt6_2 (k : Nat) : ∀ f, mt6_2 k = some f → mo_Sim 6 k f := mt_leaf (ms_i2 (e := (.ishr, 5, 0, 0, 0)) rfl (fun _ _ _ => rfl) hf_shr : mo_Sim 6 4 (ma_i2 ma_fshr 4 5)) (mt_leaf (ms_pushi (e := (.iconst 3, 6, 0, 0, 0)) rfl (fun _ _ _ => rfl) (by decide) : mo_Sim 6 5 (ma_push (ma_ci (.ofNat 3)) 6)) (mt_leaf (ms_iand (e := (.iand, 7, 0, 0, 0)) rfl (fun _ _ _ => rfl) : mo_Sim 6 6 (ma_iand 6 7)) (mt_leaf (ms_ret (e := (.ireturn, 8, 0, 0, 0)) rfl (Or.inl ⟨rfl, rfl, (fun _ _ _ => rfl)⟩) : mo_Sim 6 7 (ma_ret 0)) (mt_none))))
set_option maxRecDepth 100000 in
theorem smt6_0 (k : Nat) : ∀ f, mt6_0 k = some f → mo_Sim 6 k f := mt_node (smt6_1 k) (smt6_2 k)
set_option maxRecDepth 100000 in
theorem smt7_3 (k : Nat) : ∀ f, mt7_3 k = some f → mo_Sim 7 k f := mt_leaf (ms_pushi (e := (.iconst 0, 1, 0, 0, 0)) rfl (fun _ _ _ => rfl) (by decide) : mo_Sim 7 0 (ma_push (ma_ci (.ofNat 0)) 1)) (mt_leaf (ms_ist (e := (.istore_n 1, 2, 0, 0, 0)) rfl (fun _ _ _ => rfl) : mo_Sim 7 1 (ma_stor 0 1 2)) (mt_leaf (ms_ild (e := (.iload_n 1, 3, 0, 0, 0)) rfl (fun _ _ _ => rfl) : mo_Sim 7 2 (ma_load 0 1 3)) (mt_leaf (ms_ald (e := (.aload_n 0, 4, 0, 0, 0)) rfl (fun _ _ _ => rfl) : mo_Sim 7 3 (ma_lda 0 4)) (mt_none))))
set_option maxRecDepth 100000 in
theorem smt7_4 (k : Nat) : ∀ f, mt7_4 k = some f → mo_Sim 7 k f := mt_leaf (ms_getf (e := (.getfield 28, 7, 0, 1, 393)) rfl (fun _ _ _ => rfl) : mo_Sim 7 4 (ma_getf 0 1 7)) (mt_leaf (ms_if2 (e := (.if_icmp .ge 45, 10, 52, 0, 0)) rfl (fun _ _ _ => rfl) : mo_Sim 7 7 (ma_if2 .ge 52 7 10)) (mt_leaf (ms_pushi (e := (.iconst 1, 11, 0, 0, 0)) rfl (fun _ _ _ => rfl) (by decide) : mo_Sim 7 10 (ma_push (ma_ci (.ofNat 1)) 11)) (mt_leaf (ms_ist (e := (.istore_n 2, 12, 0, 0, 0)) rfl (fun _ _ _ => rfl) : mo_Sim 7 11 (ma_stor 0 2 12)) (mt_none))))
set_option maxRecDepth 100000 in
theorem smt7_2 (k : Nat) : ∀ f, mt7_2 k = some f → mo_Sim 7 k f := mt_node (smt7_3 k) (smt7_4 k)
set_option maxRecDepth 100000 in
theorem smt7_6 (k : Nat) : ∀ f, mt7_6 k = some f → mo_Sim 7 k f := mt_leaf (ms_ild (e := (.iload_n 2, 13, 0, 0, 0)) rfl (fun _ _ _ => rfl) : mo_Sim 7 12 (ma_load 0 2 13)) (mt_leaf (ms_ald (e := (.aload_n 0, 14, 0, 0, 0)) rfl (fun _ _ _ => rfl) : mo_Sim 7 13 (ma_lda 0 14)) (mt_leaf (ms_getf (e := (.getfield 28, 17, 0, 1, 393)) rfl (fun _ _ _ => rfl) : mo_Sim 7 14 (ma_getf 0 1 17)) (mt_leaf (ms_if2 (e := (.if_icmp .ge 29, 20, 46, 0, 0)) rfl (fun _ _ _ => rfl) : mo_Sim 7 17 (ma_if2 .ge 46 17 20)) (mt_none))))
set_option maxRecDepth 100000 in
theorem smt7_8 (k : Nat) : ∀ f, mt7_8 k = some f → mo_Sim 7 k f := mt_leaf (ms_ald (e := (.aload_n 0, 21, 0, 0, 0)) rfl (fun _ _ _ => rfl) : mo_Sim 7 20 (ma_lda 0 21)) (mt_leaf (ms_getf (e := (.getfield 9, 24, 0, 2, 395)) rfl (fun _ _ _ => rfl) : mo_Sim 7 21 (ma_getf 0 2 24)) (mt_none))
set_option maxRecDepth 100000 in
theorem smt7_9 (k : Nat) : ∀ f, mt7_9 k = some f → mo_Sim 7 k f := mt_leaf (ms_ild (e := (.iload_n 1, 25, 0, 0, 0)) rfl (fun _ _ _ => rfl) : mo_Sim 7 24 (ma_load 0 1 25)) (mt_leaf (ms_iald (e := (.iaload, 26, 0, 0, 0)) rfl (fun _ _ _ => rfl) : mo_Sim 7 25 (ma_iald 25 26)) (mt_leaf (ms_ald (e := (.aload_n 0, 27, 0, 0, 0)) rfl (fun _ _ _ => rfl) : mo_Sim 7 26 (ma_lda 0 27)) (mt_none)))
set_option maxRecDepth 100000 in
theorem smt7_7 (k : Nat) : ∀ f, mt7_7 k = some f → mo_Sim 7 k f := mt_node (smt7_8 k) (smt7_9 k)
set_option maxRecDepth 100000 in
theorem smt7_5 (k : Nat) : ∀ f, mt7_5 k = some f → mo_Sim 7 k f := mt_node (smt7_6 k) (smt7_7 k)
set_option maxRecDepth 100000 in
theorem smt7_1 (k : Nat) : ∀ f, mt7_1 k = some f → mo_Sim 7 k f := mt_node (smt7_2 k) (smt7_5 k)
set_option maxRecDepth 100000 in
theorem smt7_12 (k : Nat) : ∀ f, mt7_12 k = some f → mo_Sim 7 k f := mt_leaf (ms_getf (e := (.getfield 9, 30, 0, 2, 395)) rfl (fun _ _ _ => rfl) : mo_Sim 7 27 (ma_getf 0 2 30)) (mt_leaf (ms_ild (e := (.iload_n 1, 31, 0, 0, 0)) rfl (fun _ _ _ => rfl) : mo_Sim 7 30 (ma_load 0 1 31)) (mt_leaf (ms_ild (e := (.iload_n 2, 32, 0, 0, 0)) rfl (fun _ _ _ => rfl) : mo_Sim 7 31 (ma_load 0 2 32)) (mt_leaf (ms_i2 (e := (.ior, 33, 0, 0, 0)) rfl (fun _ _ _ => rfl) hf_or : mo_Sim 7 32 (ma_i2 ma_for 32 33)) (mt_none))))
set_option maxRecDepth 100000 in
theorem smt7_13 (k : Nat) : ∀ f, mt7_13 k = some f → mo_Sim 7 k f := mt_leaf (ms_iald (e := (.iaload, 34, 0, 0, 0)) rfl (fun _ _ _ => rfl) : mo_Sim 7 33 (ma_iald 33 34)) (mt_leaf (ms_if2 (e := (.if_icmp .le 5, 37, 39, 0, 0)) rfl (fun _ _ _ => rfl) : mo_Sim 7 34 (ma_if2 .le 39 34 37)) (mt_leaf (ms_pushi (e := (.iconst 0, 38, 0, 0, 0)) rfl (fun _ _ _ => rfl) (by decide) : mo_Sim 7 37 (ma_push (ma_ci (.ofNat 0)) 38)) (mt_leaf (ms_ret (e := (.ireturn, 39, 0, 0, 0)) rfl (Or.inr (Or.inl ⟨rfl, rfl, (fun _ _ _ => rfl)⟩)) : mo_Sim 7 38 (ma_ret 1)) (mt_none))))
set_option maxRecDepth 100000 in
theorem smt7_11 (k : Nat) : ∀ f, mt7_11 k = some f → mo_Sim 7 k f := mt_node (smt7_12 k) (smt7_13 k)
set_option maxRecDepth 100000 in
theorem smt7_15 (k : Nat) : ∀ f, mt7_15 k = some f → mo_Sim 7 k f := mt_leaf (ms_ild (e := (.iload_n 2, 40, 0, 0, 0)) rfl (fun _ _ _ => rfl) : mo_Sim 7 39 (ma_load 0 2 40)) (mt_leaf (ms_pushi (e := (.iconst 2, 41, 0, 0, 0)) rfl (fun _ _ _ => rfl) (by decide) : mo_Sim 7 40 (ma_push (ma_ci (.ofNat 2)) 41)) (mt_leaf (ms_i2 (e := (.imul, 42, 0, 0, 0)) rfl (fun _ _ _ => rfl) hf_mul : mo_Sim 7 41 (ma_i2 ma_fmul 41 42)) (mt_leaf (ms_ist (e := (.istore_n 2, 43, 0, 0, 0)) rfl (fun _ _ _ => rfl) : mo_Sim 7 42 (ma_stor 0 2 43)) (mt_none))))
set_option maxRecDepth 100000 in
theorem smt7_17 (k : Nat) : ∀ f, mt7_17 k = some f → mo_Sim 7 k f := mt_leaf (ms_goto (e := (.goto (-31), 46, 12, 0, 0)) rfl (fun _ _ _ => rfl) : mo_Sim 7 43 (ma_goto 12)) (mt_leaf (ms_iinc (e := (.iinc 1 1, 49, 0, 0, 0)) rfl (fun _ _ _ => rfl) (by decide) : mo_Sim 7 46 (ma_iinc 1 (.ofNat 1) 46 49)) (mt_none))
set_option maxRecDepth 100000 in
theorem smt7_18 (k : Nat) : ∀ f, mt7_18 k = some f → mo_Sim 7 k f := mt_leaf (ms_goto (e := (.goto (-47), 52, 2, 0, 0)) rfl (fun _ _ _ => rfl) : mo_Sim 7 49 (ma_goto 2)) (mt_leaf (ms_pushi (e := (.iconst 1, 53, 0, 0, 0)) rfl (fun _ _ _ => rfl) (by decide) : mo_Sim 7 52 (ma_push (ma_ci (.ofNat 1)) 53)) (mt_leaf (ms_ret (e := (.ireturn, 54, 0, 0, 0)) rfl (Or.inr (Or.inl ⟨rfl, rfl, (fun _ _ _ => rfl)⟩)) : mo_Sim 7 53 (ma_ret 1)) (mt_none)))
set_option maxRecDepth 100000 in
theorem smt7_16 (k : Nat) : ∀ f, mt7_16 k = some f → mo_Sim 7 k f := mt_node (smt7_17 k) (smt7_18 k)
set_option maxRecDepth 100000 in
theorem smt7_14 (k : Nat) : ∀ f, mt7_14 k = some f → mo_Sim 7 k f := mt_node (smt7_15 k) (smt7_16 k)
set_option maxRecDepth 100000 in
theorem smt7_10 (k : Nat) : ∀ f, mt7_10 k = some f → mo_Sim 7 k f := mt_node (smt7_11 k) (smt7_14 k)
set_option maxRecDepth 100000 in
theorem smt7_0 (k : Nat) : ∀ f, mt7_0 k = some f → mo_Sim 7 k f := mt_node (smt7_1 k) (smt7_10 k)
set_option maxRecDepth 100000 in
theorem smt8_3 (k : Nat) : ∀ f, mt8_3 k = some f → mo_Sim 8 k f := mt_leaf (ms_pushi (e := (.iconst 0, 1, 0, 0, 0)) rfl (fun _ _ _ => rfl) (by decide) : mo_Sim 8 0 (ma_push (ma_ci (.ofNat 0)) 1)) (mt_leaf (ms_ist (e := (.istore_n 1, 2, 0, 0, 0)) rfl (fun _ _ _ => rfl) : mo_Sim 8 1 (ma_stor 0 1 2)) (mt_leaf (ms_ild (e := (.iload_n 1, 3, 0, 0, 0)) rfl (fun _ _ _ => rfl) : mo_Sim 8 2 (ma_load 0 1 3)) (mt_none)))
set_option maxRecDepth 100000 in
theorem smt8_4 (k : Nat) : ∀ f, mt8_4 k = some f → mo_Sim 8 k f := mt_leaf (ms_ald (e := (.aload_n 0, 4, 0, 0, 0)) rfl (fun _ _ _ => rfl) : mo_Sim 8 3 (ma_lda 0 4)) (mt_leaf (ms_getf (e := (.getfield 28, 7, 0, 1, 393)) rfl (fun _ _ _ => rfl) : mo_Sim 8 4 (ma_getf 0 1 7)) (mt_leaf (ms_if2 (e := (.if_icmp .ge 33, 10, 40, 0, 0)) rfl (fun _ _ _ => rfl) : mo_Sim 8 7 (ma_if2 .ge 40 7 10)) (mt_none)))
set_option maxRecDepth 100000 in
theorem smt8_2 (k : Nat) : ∀ f, mt8_2 k = some f → mo_Sim 8 k f := mt_node (smt8_3 k) (smt8_4 k)
set_option maxRecDepth 100000 in
theorem smt8_6 (k : Nat) : ∀ f, mt8_6 k = some f → mo_Sim 8 k f := mt_leaf (ms_ald (e := (.aload_n 0, 11, 0, 0, 0)) rfl (fun _ _ _ => rfl) : mo_Sim 8 10 (ma_lda 0 11)) (mt_leaf (ms_getf (e := (.getfield 9, 14, 0, 2, 395)) rfl (fun _ _ _ => rfl) : mo_Sim 8 11 (ma_getf 0 2 14)) (mt_leaf (ms_ild (e := (.iload_n 1, 15, 0, 0, 0)) rfl (fun _ _ _ => rfl) : mo_Sim 8 14 (ma_load 0 1 15)) (mt_none)))
set_option maxRecDepth 100000 in
theorem smt8_7 (k : Nat) : ∀ f, mt8_7 k = some f → mo_Sim 8 k f := mt_leaf (ms_iald (e := (.iaload, 16, 0, 0, 0)) rfl (fun _ _ _ => rfl) : mo_Sim 8 15 (ma_iald 15 16)) (mt_leaf (ms_ald (e := (.aload_n 0, 17, 0, 0, 0)) rfl (fun _ _ _ => rfl) : mo_Sim 8 16 (ma_lda 0 17)) (mt_leaf (ms_getf (e := (.getfield 9, 20, 0, 2, 395)) rfl (fun _ _ _ => rfl) : mo_Sim 8 17 (ma_getf 0 2 20)) (mt_leaf (ms_ald (e := (.aload_n 0, 21, 0, 0, 0)) rfl (fun _ _ _ => rfl) : mo_Sim 8 20 (ma_lda 0 21)) (mt_none))))
set_option maxRecDepth 100000 in
theorem smt8_5 (k : Nat) : ∀ f, mt8_5 k = some f → mo_Sim 8 k f := mt_node (smt8_6 k) (smt8_7 k)
set_option maxRecDepth 100000 in
theorem smt8_1 (k : Nat) : ∀ f, mt8_1 k = some f → mo_Sim 8 k f := mt_node (smt8_2 k) (smt8_5 k)
set_option maxRecDepth 100000 in
theorem smt8_10 (k : Nat) : ∀ f, mt8_10 k = some f → mo_Sim 8 k f := mt_leaf (ms_getf (e := (.getfield 28, 24, 0, 1, 393)) rfl (fun _ _ _ => rfl) : mo_Sim 8 21 (ma_getf 0 1 24)) (mt_leaf (ms_pushi (e := (.iconst 1, 25, 0, 0, 0)) rfl (fun _ _ _ => rfl) (by decide) : mo_Sim 8 24 (ma_push (ma_ci (.ofNat 1)) 25)) (mt_leaf (ms_isub (e := (.isub, 26, 0, 0, 0)) rfl (fun _ _ _ => rfl) : mo_Sim 8 25 (ma_isub 25 26)) (mt_none)))
set_option maxRecDepth 100000 in
theorem smt8_11 (k : Nat) : ∀ f, mt8_11 k = some f → mo_Sim 8 k f := mt_leaf (ms_ild (e := (.iload_n 1, 27, 0, 0, 0)) rfl (fun _ _ _ => rfl) : mo_Sim 8 26 (ma_load 0 1 27)) (mt_leaf (ms_isub (e := (.isub, 28, 0, 0, 0)) rfl (fun _ _ _ => rfl) : mo_Sim 8 27 (ma_isub 27 28)) (mt_leaf (ms_iald (e := (.iaload, 29, 0, 0, 0)) rfl (fun _ _ _ => rfl) : mo_Sim 8 28 (ma_iald 28 29)) (mt_none)))
set_option maxRecDepth 100000 in
theorem smt8_9 (k : Nat) : ∀ f, mt8_9 k = some f → mo_Sim 8 k f := mt_node (smt8_10 k) (smt8_11 k)
set_option maxRecDepth 100000 in
theorem smt8_13 (k : Nat) : ∀ f, mt8_13 k = some f → mo_Sim 8 k f := mt_leaf (ms_if2 (e := (.if_icmp .ne 5, 32, 34, 0, 0)) rfl (fun _ _ _ => rfl) : mo_Sim 8 29 (ma_if2 .ne 34 29 32)) (mt_leaf (ms_pushi (e := (.iconst 0, 33, 0, 0, 0)) rfl (fun _ _ _ => rfl) (by decide) : mo_Sim 8 32 (ma_push (ma_ci (.ofNat 0)) 33)) (mt_leaf (ms_ret (e := (.ireturn, 34, 0, 0, 0)) rfl (Or.inr (Or.inl ⟨rfl, rfl, (fun _ _ _ => rfl)⟩)) : mo_Sim 8 33 (ma_ret 1)) (mt_none)))
set_option maxRecDepth 100000 in
theorem smt8_14 (k : Nat) : ∀ f, mt8_14 k = some f → mo_Sim 8 k f := mt_leaf (ms_iinc (e := (.iinc 1 1, 37, 0, 0, 0)) rfl (fun _ _ _ => rfl) (by decide) : mo_Sim 8 34 (ma_iinc 1 (.ofNat 1) 34 37)) (mt_leaf (ms_goto (e := (.goto (-35), 40, 2, 0, 0)) rfl (fun _ _ _ => rfl) : mo_Sim 8 37 (ma_goto 2)) (mt_leaf (ms_pushi (e := (.iconst 1, 41, 0, 0, 0)) rfl (fun _ _ _ => rfl) (by decide) : mo_Sim 8 40 (ma_push (ma_ci (.ofNat 1)) 41)) (mt_leaf (ms_ret (e := (.ireturn, 42, 0, 0, 0)) rfl (Or.inr (Or.inl ⟨rfl, rfl, (fun _ _ _ => rfl)⟩)) : mo_Sim 8 41 (ma_ret 1)) (mt_none))))
set_option maxRecDepth 100000 in
theorem smt8_12 (k : Nat) : ∀ f, mt8_12 k = some f → mo_Sim 8 k f := mt_node (smt8_13 k) (smt8_14 k)
set_option maxRecDepth 100000 in
theorem smt8_8 (k : Nat) : ∀ f, mt8_8 k = some f → mo_Sim 8 k f := mt_node (smt8_9 k) (smt8_12 k)
set_option maxRecDepth 100000 in
theorem smt8_0 (k : Nat) : ∀ f, mt8_0 k = some f → mo_Sim 8 k f := mt_node (smt8_1 k) (smt8_8 k)
set_option maxRecDepth 100000 in
theorem smt9_4 (k : Nat) : ∀ f, mt9_4 k = some f → mo_Sim 9 k f := mt_leaf (ms_pushi (e := (.iconst 0, 1, 0, 0, 0)) rfl (fun _ _ _ => rfl) (by decide) : mo_Sim 9 0 (ma_push (ma_ci (.ofNat 0)) 1)) (mt_leaf (ms_ist (e := (.istore_n 1, 2, 0, 0, 0)) rfl (fun _ _ _ => rfl) : mo_Sim 9 1 (ma_stor 0 1 2)) (mt_leaf (ms_ild (e := (.iload_n 1, 3, 0, 0, 0)) rfl (fun _ _ _ => rfl) : mo_Sim 9 2 (ma_load 0 1 3)) (mt_none)))
set_option maxRecDepth 100000 in
theorem smt9_5 (k : Nat) : ∀ f, mt9_5 k = some f → mo_Sim 9 k f := mt_leaf (ms_ald (e := (.aload_n 0, 4, 0, 0, 0)) rfl (fun _ _ _ => rfl) : mo_Sim 9 3 (ma_lda 0 4)) (mt_leaf (ms_getf (e := (.getfield 28, 7, 0, 1, 393)) rfl (fun _ _ _ => rfl) : mo_Sim 9 4 (ma_getf 0 1 7)) (mt_leaf (ms_if2 (e := (.if_icmp .ge 67, 10, 74, 0, 0)) rfl (fun _ _ _ => rfl) : mo_Sim 9 7 (ma_if2 .ge 74 7 10)) (mt_none)))
set_option maxRecDepth 100000 in
theorem smt9_3 (k : Nat) : ∀ f, mt9_3 k = some f → mo_Sim 9 k f := mt_node (smt9_4 k) (smt9_5 k)
set_option maxRecDepth 100000 in
theorem smt9_7 (k : Nat) : ∀ f, mt9_7 k = some f → mo_Sim 9 k f := mt_leaf (ms_ald (e := (.aload_n 0, 11, 0, 0, 0)) rfl (fun _ _ _ => rfl) : mo_Sim 9 10 (ma_lda 0 11)) (mt_leaf (ms_getf (e := (.getfield 9, 14, 0, 2, 395)) rfl (fun _ _ _ => rfl) : mo_Sim 9 11 (ma_getf 0 2 14)) (mt_leaf (ms_pushi (e := (.iconst 0, 15, 0, 0, 0)) rfl (fun _ _ _ => rfl) (by decide) : mo_Sim 9 14 (ma_push (ma_ci (.ofNat 0)) 15)) (mt_none)))
set_option maxRecDepth 100000 in
theorem smt9_8 (k : Nat) : ∀ f, mt9_8 k = some f → mo_Sim 9 k f := mt_leaf (ms_iald (e := (.iaload, 16, 0, 0, 0)) rfl (fun _ _ _ => rfl) : mo_Sim 9 15 (ma_iald 15 16)) (mt_leaf (ms_ist (e := (.istore_n 2, 17, 0, 0, 0)) rfl (fun _ _ _ => rfl) : mo_Sim 9 16 (ma_stor 0 2 17)) (mt_leaf (ms_pushi (e := (.iconst 1, 18, 0, 0, 0)) rfl (fun _ _ _ => rfl) (by decide) : mo_Sim 9 17 (ma_push (ma_ci (.ofNat 1)) 18)) (mt_none)))
set_option maxRecDepth 100000 in
theorem smt9_6 (k : Nat) : ∀ f, mt9_6 k = some f → mo_Sim 9 k f := mt_node (smt9_7 k) (smt9_8 k)
set_option maxRecDepth 100000 in
theorem smt9_2 (k : Nat) : ∀ f, mt9_2 k = some f → mo_Sim 9 k f := mt_node (smt9_3 k) (smt9_6 k)
set_option maxRecDepth 100000 in
theorem smt9_11 (k : Nat) : ∀ f, mt9_11 k = some f → mo_Sim 9 k f := mt_leaf (ms_ist (e := (.istore_n 3, 19, 0, 0, 0)) rfl (fun _ _ _ => rfl) : mo_Sim 9 18 (ma_stor 0 3 19)) (mt_leaf (ms_ild (e := (.iload_n 3, 20, 0, 0, 0)) rfl (fun _ _ _ => rfl) : mo_Sim 9 19 (ma_load 0 3 20)) (mt_leaf (ms_ald (e := (.aload_n 0, 21, 0, 0, 0)) rfl (fun _ _ _ => rfl) : mo_Sim 9 20 (ma_lda 0 21)) (mt_none)))
set_option maxRecDepth 100000 in
theorem smt9_12 (k : Nat) : ∀ f, mt9_12 k = some f → mo_Sim 9 k f := mt_leaf (ms_getf (e := (.getfield 28, 24, 0, 1, 393)) rfl (fun _ _ _ => rfl) : mo_Sim 9 21 (ma_getf 0 1 24)) (mt_leaf (ms_if2 (e := (.if_icmp .ge 32, 27, 56, 0, 0)) rfl (fun _ _ _ => rfl) : mo_Sim 9 24 (ma_if2 .ge 56 24 27)) (mt_leaf (ms_ild (e := (.iload_n 1, 28, 0, 0, 0)) rfl (fun _ _ _ => rfl) : mo_Sim 9 27 (ma_load 0 1 28)) (mt_none)))
set_option maxRecDepth 100000 in
theorem smt9_10 (k : Nat) : ∀ f, mt9_10 k = some f → mo_Sim 9 k f := mt_node (smt9_11 k) (smt9_12 k)
set_option maxRecDepth 100000 in
theorem smt9_14 (k : Nat) : ∀ f, mt9_14 k = some f → mo_Sim 9 k f := mt_leaf (ms_ild (e := (.iload_n 3, 29, 0, 0, 0)) rfl (fun _ _ _ => rfl) : mo_Sim 9 28 (ma_load 0 3 29)) (mt_leaf (ms_iand (e := (.iand, 30, 0, 0, 0)) rfl (fun _ _ _ => rfl) : mo_Sim 9 29 (ma_iand 29 30)) (mt_leaf (ms_if0 (e := (.ifCond .eq 19, 33, 49, 0, 0)) rfl (fun _ _ _ => rfl) : mo_Sim 9 30 (ma_if0 .eq 49 30 33)) (mt_none)))
set_option maxRecDepth 100000 in
theorem smt9_15 (k : Nat) : ∀ f, mt9_15 k = some f → mo_Sim 9 k f := mt_leaf (ms_ild (e := (.iload_n 2, 34, 0, 0, 0)) rfl (fun _ _ _ => rfl) : mo_Sim 9 33 (ma_load 0 2 34)) (mt_leaf (ms_ald (e := (.aload_n 0, 35, 0, 0, 0)) rfl (fun _ _ _ => rfl) : mo_Sim 9 34 (ma_lda 0 35)) (mt_leaf (ms_getf (e := (.getfield 9, 38, 0, 2, 395)) rfl (fun _ _ _ => rfl) : mo_Sim 9 35 (ma_getf 0 2 38)) (mt_leaf (ms_ild (e := (.iload_n 3, 39, 0, 0, 0)) rfl (fun _ _ _ => rfl) : mo_Sim 9 38 (ma_load 0 3 39)) (mt_none))))
set_option maxRecDepth 100000 in
theorem smt9_13 (k : Nat) : ∀ f, mt9_13 k = some f → mo_Sim 9 k f := mt_node (smt9_14 k) (smt9_15 k)
set_option maxRecDepth 100000 in
theorem smt9_9 (k : Nat) : ∀ f, mt9_9 k = some f → mo_Sim 9 k f := mt_node (smt9_10 k) (smt9_13 k)
set_option maxRecDepth 100000 in
theorem smt9_1 (k : Nat) : ∀ f, mt9_1 k = some f → mo_Sim 9 k f := mt_node (smt9_2 k) (smt9_9 k)
set_option maxRecDepth 100000 in
theorem smt9_19 (k : Nat) : ∀ f, mt9_19 k = some f → mo_Sim 9 k f := mt_leaf (ms_iald (e := (.iaload, 40, 0, 0, 0)) rfl (fun _ _ _ => rfl) : mo_Sim 9 39 (ma_iald 39 40)) (mt_leaf (ms_ald (e := (.aload_n 0, 41, 0, 0, 0)) rfl (fun _ _ _ => rfl) : mo_Sim 9 40 (ma_lda 0 41)) (mt_leaf (ms_getf (e := (.getfield 9, 44, 0, 2, 395)) rfl (fun _ _ _ => rfl) : mo_Sim 9 41 (ma_getf 0 2 44)) (mt_none)))
set_option maxRecDepth 100000 in
theorem smt9_20 (k : Nat) : ∀ f, mt9_20 k = some f → mo_Sim 9 k f := mt_leaf (ms_pushi (e := (.iconst 0, 45, 0, 0, 0)) rfl (fun _ _ _ => rfl) (by decide) : mo_Sim 9 44 (ma_push (ma_ci (.ofNat 0)) 45)) (mt_leaf (ms_iald (e := (.iaload, 46, 0, 0, 0)) rfl (fun _ _ _ => rfl) : mo_Sim 9 45 (ma_iald 45 46)) (mt_leaf (ms_i2 (e := (.ixor, 47, 0, 0, 0)) rfl (fun _ _ _ => rfl) hf_xor : mo_Sim 9 46 (ma_i2 ma_fxor 46 47)) (mt_none)))
set_option maxRecDepth 100000 in
theorem smt9_18 (k : Nat) : ∀ f, mt9_18 k = some f → mo_Sim 9 k f := mt_node (smt9_19 k) (smt9_20 k)
set_option maxRecDepth 100000 in
theorem smt9_22 (k : Nat) : ∀ f, mt9_22 k = some f → mo_Sim 9 k f := mt_leaf (ms_i2 (e := (.ixor, 48, 0, 0, 0)) rfl (fun _ _ _ => rfl) hf_xor : mo_Sim 9 47 (ma_i2 ma_fxor 47 48)) (mt_leaf (ms_ist (e := (.istore_n 2, 49, 0, 0, 0)) rfl (fun _ _ _ => rfl) : mo_Sim 9 48 (ma_stor 0 2 49)) (mt_leaf (ms_ild (e := (.iload_n 3, 50, 0, 0, 0)) rfl (fun _ _ _ => rfl) : mo_Sim 9 49 (ma_load 0 3 50)) (mt_none)))
set_option maxRecDepth 100000 in
theorem smt9_23 (k : Nat) : ∀ f, mt9_23 k = some f → mo_Sim 9 k f := mt_leaf (ms_pushi (e := (.iconst 2, 51, 0, 0, 0)) rfl (fun _ _ _ => rfl) (by decide) : mo_Sim 9 50 (ma_push (ma_ci (.ofNat 2)) 51)) (mt_leaf (ms_i2 (e := (.imul, 52, 0, 0, 0)) rfl (fun _ _ _ => rfl) hf_mul : mo_Sim 9 51 (ma_i2 ma_fmul 51 52)) (mt_leaf (ms_ist (e := (.istore_n 3, 53, 0, 0, 0)) rfl (fun _ _ _ => rfl) : mo_Sim 9 52 (ma_stor 0 3 53)) (mt_none)))
set_option maxRecDepth 100000 in
theorem smt9_21 (k : Nat) : ∀ f, mt9_21 k = some f → mo_Sim 9 k f := mt_node (smt9_22 k) (smt9_23 k)
set_option maxRecDepth 100000 in
theorem smt9_17 (k : Nat) : ∀ f, mt9_17 k = some f → mo_Sim 9 k f := mt_node (smt9_18 k) (smt9_21 k)
set_option maxRecDepth 100000 in
theorem smt9_26 (k : Nat) : ∀ f, mt9_26 k = some f → mo_Sim 9 k f := mt_leaf (ms_goto (e := (.goto (-34), 56, 19, 0, 0)) rfl (fun _ _ _ => rfl) : mo_Sim 9 53 (ma_goto 19)) (mt_leaf (ms_ild (e := (.iload_n 2, 57, 0, 0, 0)) rfl (fun _ _ _ => rfl) : mo_Sim 9 56 (ma_load 0 2 57)) (mt_leaf (ms_ald (e := (.aload_n 0, 58, 0, 0, 0)) rfl (fun _ _ _ => rfl) : mo_Sim 9 57 (ma_lda 0 58)) (mt_none)))
set_option maxRecDepth 100000 in
theorem smt9_27 (k : Nat) : ∀ f, mt9_27 k = some f → mo_Sim 9 k f := mt_leaf (ms_getf (e := (.getfield 9, 61, 0, 2, 395)) rfl (fun _ _ _ => rfl) : mo_Sim 9 58 (ma_getf 0 2 61)) (mt_leaf (ms_ild (e := (.iload_n 1, 62, 0, 0, 0)) rfl (fun _ _ _ => rfl) : mo_Sim 9 61 (ma_load 0 1 62)) (mt_leaf (ms_iald (e := (.iaload, 63, 0, 0, 0)) rfl (fun _ _ _ => rfl) : mo_Sim 9 62 (ma_iald 62 63)) (mt_none)))
set_option maxRecDepth 100000 in
theorem smt9_25 (k : Nat) : ∀ f, mt9_25 k = some f → mo_Sim 9 k f := mt_node (smt9_26 k) (smt9_27 k)
set_option maxRecDepth 100000 in
theorem smt9_29 (k : Nat) : ∀ f, mt9_29 k = some f → mo_Sim 9 k f := mt_leaf (ms_if2 (e := (.if_icmp .eq 5, 66, 68, 0, 0)) rfl (fun _ _ _ => rfl) : mo_Sim 9 63 (ma_if2 .eq 68 63 66)) (mt_leaf (ms_pushi (e := (.iconst 0, 67, 0, 0, 0)) rfl (fun _ _ _ => rfl) (by decide) : mo_Sim 9 66 (ma_push (ma_ci (.ofNat 0)) 67)) (mt_leaf (ms_ret (e := (.ireturn, 68, 0, 0, 0)) rfl (Or.inr (Or.inl ⟨rfl, rfl, (fun _ _ _ => rfl)⟩)) : mo_Sim 9 67 (ma_ret 1)) (mt_none)))
set_option maxRecDepth 100000 in
theorem smt9_30 (k : Nat) : ∀ f, mt9_30 k = some f → mo_Sim 9 k f := mt_leaf (ms_iinc (e := (.iinc 1 1, 71, 0, 0, 0)) rfl (fun _ _ _ => rfl) (by decide) : mo_Sim 9 68 (ma_iinc 1 (.ofNat 1) 68 71)) (mt_leaf (ms_goto (e := (.goto (-69), 74, 2, 0, 0)) rfl (fun _ _ _ => rfl) : mo_Sim 9 71 (ma_goto 2)) (mt_leaf (ms_pushi (e := (.iconst 1, 75, 0, 0, 0)) rfl (fun _ _ _ => rfl) (by decide) : mo_Sim 9 74 (ma_push (ma_ci (.ofNat 1)) 75)) (mt_leaf (ms_ret (e := (.ireturn, 76, 0, 0, 0)) rfl (Or.inr (Or.inl ⟨rfl, rfl, (fun _ _ _ => rfl)⟩)) : mo_Sim 9 75 (ma_ret 1)) (mt_none))))
set_option maxRecDepth 100000 in
theorem smt9_28 (k : Nat) : ∀ f, mt9_28 k = some f → mo_Sim 9 k f := mt_node (smt9_29 k) (smt9_30 k)
set_option maxRecDepth 100000 in
theorem smt9_24 (k : Nat) : ∀ f, mt9_24 k = some f → mo_Sim 9 k f := mt_node (smt9_25 k) (smt9_28 k)
set_option maxRecDepth 100000 in
theorem smt9_16 (k : Nat) : ∀ f, mt9_16 k = some f → mo_Sim 9 k f := mt_node (smt9_17 k) (smt9_24 k)
set_option maxRecDepth 100000 in
theorem smt9_0 (k : Nat) : ∀ f, mt9_0 k = some f → mo_Sim 9 k f := mt_node (smt9_1 k) (smt9_16 k)
set_option maxRecDepth 100000 in
theorem smt10_3 (k : Nat) : ∀ f, mt10_3 k = some f → mo_Sim 10 k f := mt_leaf (ms_ald (e := (.aload_n 0, 1, 0, 0, 0)) rfl (fun _ _ _ => rfl) : mo_Sim 10 0 (ma_lda 0 1)) (mt_leaf (ms_obj (e := (.invokespecial 3, 4, 0, 4, 106)) rfl (fun _ _ _ => rfl) : mo_Sim 10 1 (ma_obj 4)) (mt_none))
set_option maxRecDepth 100000 in
theorem smt10_4 (k : Nat) : ∀ f, mt10_4 k = some f → mo_Sim 10 k f := mt_leaf (ms_ald (e := (.aload_n 0, 5, 0, 0, 0)) rfl (fun _ _ _ => rfl) : mo_Sim 10 4 (ma_lda 0 5)) (mt_leaf (ms_pushi (e := (.iconst 2, 6, 0, 0, 0)) rfl (fun _ _ _ => rfl) (by decide) : mo_Sim 10 5 (ma_push (ma_ci (.ofNat 2)) 6)) (mt_leaf (ms_putf (e := (.putfield 9, 9, 1, 0, 107)) rfl rfl (fun _ _ _ => rfl) (Or.inl ⟨rfl, rfl⟩) : mo_Sim 10 6 (ma_putf 1 0 0 9)) (mt_none)))
set_option maxRecDepth 100000 in
theorem smt10_2 (k : Nat) : ∀ f, mt10_2 k = some f → mo_Sim 10 k f := mt_node (smt10_3 k) (smt10_4 k)
set_option maxRecDepth 100000 in
theorem smt10_6 (k : Nat) : ∀ f, mt10_6 k = some f → mo_Sim 10 k f := mt_leaf (ms_ald (e := (.aload_n 0, 10, 0, 0, 0)) rfl (fun _ _ _ => rfl) : mo_Sim 10 9 (ma_lda 0 10)) (mt_leaf (ms_pushi (e := (.bipush 8, 12, 0, 0, 0)) rfl (fun _ _ _ => rfl) (by decide) : mo_Sim 10 10 (ma_push (ma_ci (.ofNat 8)) 12)) (mt_none))
set_option maxRecDepth 100000 in
theorem smt10_7 (k : Nat) : ∀ f, mt10_7 k = some f → mo_Sim 10 k f := mt_leaf (ms_putf (e := (.putfield 15, 15, 1, 1, 113)) rfl rfl (fun _ _ _ => rfl) (Or.inl ⟨rfl, rfl⟩) : mo_Sim 10 12 (ma_putf 1 1 0 15)) (mt_leaf (ms_ald (e := (.aload_n 0, 16, 0, 0, 0)) rfl (fun _ _ _ => rfl) : mo_Sim 10 15 (ma_lda 0 16)) (mt_leaf (ms_pushi (e := (.bipush 27, 18, 0, 0, 0)) rfl (fun _ _ _ => rfl) (by decide) : mo_Sim 10 16 (ma_push (ma_ci (.ofNat 27)) 18)) (mt_none)))
set_option maxRecDepth 100000 in
theorem smt10_5 (k : Nat) : ∀ f, mt10_5 k = some f → mo_Sim 10 k f := mt_node (smt10_6 k) (smt10_7 k)
set_option maxRecDepth 100000 in
theorem smt10_1 (k : Nat) : ∀ f, mt10_1 k = some f → mo_Sim 10 k f := mt_node (smt10_2 k) (smt10_5 k)
set_option maxRecDepth 100000 in
theorem smt10_10 (k : Nat) : ∀ f, mt10_10 k = some f → mo_Sim 10 k f := mt_leaf (ms_newaI (e := (.newarray .int, 20, 0, 0, 0)) rfl rfl (fun _ _ _ => rfl) : mo_Sim 10 18 (ma_newa 13 (ma_ci (.ofNat 0)) 20)) (mt_leaf (ms_putf (e := (.putfield 18, 23, 1, 2, 116)) rfl rfl (fun _ _ _ => rfl) (Or.inr (Or.inr (Or.inl ⟨rfl, Or.inr ⟨_, rfl⟩⟩))) : mo_Sim 10 20 (ma_putf 1 2 2 23)) (mt_none))
set_option maxRecDepth 100000 in
theorem smt10_11 (k : Nat) : ∀ f, mt10_11 k = some f → mo_Sim 10 k f := mt_leaf (ms_ald (e := (.aload_n 0, 24, 0, 0, 0)) rfl (fun _ _ _ => rfl) : mo_Sim 10 23 (ma_lda 0 24)) (mt_leaf (ms_pushi (e := (.bipush 27, 26, 0, 0, 0)) rfl (fun _ _ _ => rfl) (by decide) : mo_Sim 10 24 (ma_push (ma_ci (.ofNat 27)) 26)) (mt_leaf (ms_newaI (e := (.newarray .int, 28, 0, 0, 0)) rfl rfl (fun _ _ _ => rfl) : mo_Sim 10 26 (ma_newa 13 (ma_ci (.ofNat 0)) 28)) (mt_none)))
set_option maxRecDepth 100000 in
theorem smt10_9 (k : Nat) : ∀ f, mt10_9 k = some f → mo_Sim 10 k f := mt_node (smt10_10 k) (smt10_11 k)
set_option maxRecDepth 100000 in
theorem smt10_13 (k : Nat) : ∀ f, mt10_13 k = some f → mo_Sim 10 k f := mt_leaf (ms_putf (e := (.putfield 22, 31, 1, 3, 123)) rfl rfl (fun _ _ _ => rfl) (Or.inr (Or.inr (Or.inl ⟨rfl, Or.inr ⟨_, rfl⟩⟩))) : mo_Sim 10 28 (ma_putf 1 3 2 31)) (mt_leaf (ms_ald (e := (.aload_n 0, 32, 0, 0, 0)) rfl (fun _ _ _ => rfl) : mo_Sim 10 31 (ma_lda 0 32)) (mt_leaf (ms_pushi (e := (.bipush 27, 34, 0, 0, 0)) rfl (fun _ _ _ => rfl) (by decide) : mo_Sim 10 32 (ma_push (ma_ci (.ofNat 27)) 34)) (mt_none)))
set_option maxRecDepth 100000 in
theorem smt10_14 (k : Nat) : ∀ f, mt10_14 k = some f → mo_Sim 10 k f := mt_leaf (ms_newaI (e := (.newarray .int, 36, 0, 0, 0)) rfl rfl (fun _ _ _ => rfl) : mo_Sim 10 34 (ma_newa 13 (ma_ci (.ofNat 0)) 36)) (mt_leaf (ms_putf (e := (.putfield 25, 39, 1, 4, 130)) rfl rfl (fun _ _ _ => rfl) (Or.inr (Or.inr (Or.inl ⟨rfl, Or.inr ⟨_, rfl⟩⟩))) : mo_Sim 10 36 (ma_putf 1 4 2 39)) (mt_leaf (ms_retv (e := (.return_, 40, 0, 0, 0)) rfl rfl (fun _ _ _ => rfl) : mo_Sim 10 39 (ma_retv)) (mt_none)))
set_option maxRecDepth 100000 in
theorem smt10_12 (k : Nat) : ∀ f, mt10_12 k = some f → mo_Sim 10 k f := mt_node (smt10_13 k) (smt10_14 k)
set_option maxRecDepth 100000 in
theorem smt10_8 (k : Nat) : ∀ f, mt10_8 k = some f → mo_Sim 10 k f := mt_node (smt10_9 k) (smt10_12 k)
set_option maxRecDepth 100000 in
theorem smt10_0 (k : Nat) : ∀ f, mt10_0 k = some f → mo_Sim 10 k f := mt_node (smt10_1 k) (smt10_8 k)
set_option maxRecDepth 100000 in
theorem smt11_4 (k : Nat) : ∀ f, mt11_4 k = some f → mo_Sim 11 k f := mt_leaf (ms_ald (e := (.aload_n 0, 1, 0, 0, 0)) rfl (fun _ _ _ => rfl) : mo_Sim 11 0 (ma_lda 0 1)) (mt_leaf (ms_ild (e := (.iload_n 1, 2, 0, 0, 0)) rfl (fun _ _ _ => rfl) : mo_Sim 11 1 (ma_load 0 1 2)) (mt_leaf (ms_putf (e := (.putfield 9, 5, 1, 0, 107)) rfl rfl (fun _ _ _ => rfl) (Or.inl ⟨rfl, rfl⟩) : mo_Sim 11 2 (ma_putf 1 0 0 5)) (mt_none)))
set_option maxRecDepth 100000 in
theorem smt11_5 (k : Nat) : ∀ f, mt11_5 k = some f → mo_Sim 11 k f := mt_leaf (ms_ald (e := (.aload_n 0, 6, 0, 0, 0)) rfl (fun _ _ _ => rfl) : mo_Sim 11 5 (ma_lda 0 6)) (mt_leaf (ms_ald (e := (.aload_n 0, 7, 0, 0, 0)) rfl (fun _ _ _ => rfl) : mo_Sim 11 6 (ma_lda 0 7)) (mt_leaf (ms_getf (e := (.getfield 9, 10, 1, 0, 107)) rfl (fun _ _ _ => rfl) : mo_Sim 11 7 (ma_getf 1 0 10)) (mt_leaf (ms_ald (e := (.aload_n 0, 11, 0, 0, 0)) rfl (fun _ _ _ => rfl) : mo_Sim 11 10 (ma_lda 0 11)) (mt_none))))
set_option maxRecDepth 100000 in
theorem smt11_3 (k : Nat) : ∀ f, mt11_3 k = some f → mo_Sim 11 k f := mt_node (smt11_4 k) (smt11_5 k)
set_option maxRecDepth 100000 in
theorem smt11_7 (k : Nat) : ∀ f, mt11_7 k = some f → mo_Sim 11 k f := mt_leaf (ms_getf (e := (.getfield 9, 14, 1, 0, 107)) rfl (fun _ _ _ => rfl) : mo_Sim 11 11 (ma_getf 1 0 14)) (mt_leaf (ms_i2 (e := (.imul, 15, 0, 0, 0)) rfl (fun _ _ _ => rfl) hf_mul : mo_Sim 11 14 (ma_i2 ma_fmul 14 15)) (mt_leaf (ms_ald (e := (.aload_n 0, 16, 0, 0, 0)) rfl (fun _ _ _ => rfl) : mo_Sim 11 15 (ma_lda 0 16)) (mt_none)))
set_option maxRecDepth 100000 in
theorem smt11_8 (k : Nat) : ∀ f, mt11_8 k = some f → mo_Sim 11 k f := mt_leaf (ms_getf (e := (.getfield 9, 19, 1, 0, 107)) rfl (fun _ _ _ => rfl) : mo_Sim 11 16 (ma_getf 1 0 19)) (mt_leaf (ms_i2 (e := (.imul, 20, 0, 0, 0)) rfl (fun _ _ _ => rfl) hf_mul : mo_Sim 11 19 (ma_i2 ma_fmul 19 20)) (mt_leaf (ms_putf (e := (.putfield 15, 23, 1, 1, 113)) rfl rfl (fun _ _ _ => rfl) (Or.inl ⟨rfl, rfl⟩) : mo_Sim 11 20 (ma_putf 1 1 0 23)) (mt_leaf (ms_pushi (e := (.iconst 0, 24, 0, 0, 0)) rfl (fun _ _ _ => rfl) (by decide) : mo_Sim 11 23 (ma_push (ma_ci (.ofNat 0)) 24)) (mt_none))))
set_option maxRecDepth 100000 in
theorem smt11_6 (k : Nat) : ∀ f, mt11_6 k = some f → mo_Sim 11 k f := mt_node (smt11_7 k) (smt11_8 k)
set_option maxRecDepth 100000 in
theorem smt11_2 (k : Nat) : ∀ f, mt11_2 k = some f → mo_Sim 11 k f := mt_node (smt11_3 k) (smt11_6 k)
set_option maxRecDepth 100000 in
theorem smt11_11 (k : Nat) : ∀ f, mt11_11 k = some f → mo_Sim 11 k f := mt_leaf (ms_ist (e := (.istore_n 2, 25, 0, 0, 0)) rfl (fun _ _ _ => rfl) : mo_Sim 11 24 (ma_stor 0 2 25)) (mt_leaf (ms_pushi (e := (.iconst 0, 26, 0, 0, 0)) rfl (fun _ _ _ => rfl) (by decide) : mo_Sim 11 25 (ma_push (ma_ci (.ofNat 0)) 26)) (mt_leaf (ms_ist (e := (.istore_n 3, 27, 0, 0, 0)) rfl (fun _ _ _ => rfl) : mo_Sim 11 26 (ma_stor 0 3 27)) (mt_none)))
set_option maxRecDepth 100000 in
theorem smt11_12 (k : Nat) : ∀ f, mt11_12 k = some f → mo_Sim 11 k f := mt_leaf (ms_ild (e := (.iload_n 3, 28, 0, 0, 0)) rfl (fun _ _ _ => rfl) : mo_Sim 11 27 (ma_load 0 3 28)) (mt_leaf (ms_ald (e := (.aload_n 0, 29, 0, 0, 0)) rfl (fun _ _ _ => rfl) : mo_Sim 11 28 (ma_lda 0 29)) (mt_leaf (ms_getf (e := (.getfield 9, 32, 1, 0, 107)) rfl (fun _ _ _ => rfl) : mo_Sim 11 29 (ma_getf 1 0 32)) (mt_leaf (ms_if2 (e := (.if_icmp .ge 71, 35, 103, 0, 0)) rfl (fun _ _ _ => rfl) : mo_Sim 11 32 (ma_if2 .ge 103 32 35)) (mt_none))))
set_option maxRecDepth 100000 in
theorem smt11_10 (k : Nat) : ∀ f, mt11_10 k = some f → mo_Sim 11 k f := mt_node (smt11_11 k) (smt11_12 k)
set_option maxRecDepth 100000 in
theorem smt11_14 (k : Nat) : ∀ f, mt11_14 k = some f → mo_Sim 11 k f := mt_leaf (ms_pushi (e := (.iconst 0, 36, 0, 0, 0)) rfl (fun _ _ _ => rfl) (by decide) : mo_Sim 11 35 (ma_push (ma_ci (.ofNat 0)) 36)) (mt_leaf (ms_ist (e := (.istore 4, 38, 0, 0, 0)) rfl (fun _ _ _ => rfl) : mo_Sim 11 36 (ma_stor 0 4 38)) (mt_leaf (ms_ild (e := (.iload 4, 40, 0, 0, 0)) rfl (fun _ _ _ => rfl) : mo_Sim 11 38 (ma_load 0 4 40)) (mt_none)))
set_option maxRecDepth 100000 in
theorem smt11_15 (k : Nat) : ∀ f, mt11_15 k = some f → mo_Sim 11 k f := mt_leaf (ms_ald (e := (.aload_n 0, 41, 0, 0, 0)) rfl (fun _ _ _ => rfl) : mo_Sim 11 40 (ma_lda 0 41)) (mt_leaf (ms_getf (e := (.getfield 9, 44, 1, 0, 107)) rfl (fun _ _ _ => rfl) : mo_Sim 11 41 (ma_getf 1 0 44)) (mt_leaf (ms_if2 (e := (.if_icmp .ge 53, 47, 97, 0, 0)) rfl (fun _ _ _ => rfl) : mo_Sim 11 44 (ma_if2 .ge 97 44 47)) (mt_leaf (ms_pushi (e := (.iconst 0, 48, 0, 0, 0)) rfl (fun _ _ _ => rfl) (by decide) : mo_Sim 11 47 (ma_push (ma_ci (.ofNat 0)) 48)) (mt_none))))
set_option maxRecDepth 100000 in
theorem smt11_13 (k : Nat) : ∀ f, mt11_13 k = some f → mo_Sim 11 k f := mt_node (smt11_14 k) (smt11_15 k)
set_option maxRecDepth 100000 in
theorem smt11_9 (k : Nat) : ∀ f, mt11_9 k = some f → mo_Sim 11 k f := mt_node (smt11_10 k) (smt11_13 k)
set_option maxRecDepth 100000 in
theorem smt11_1 (k : Nat) : ∀ f, mt11_1 k = some f → mo_Sim 11 k f := mt_node (smt11_2 k) (smt11_9 k)
set_option maxRecDepth 100000 in
theorem smt11_19 (k : Nat) : ∀ f, mt11_19 k = some f → mo_Sim 11 k f := mt_leaf (ms_ist (e := (.istore 5, 50, 0, 0, 0)) rfl (fun _ _ _ => rfl) : mo_Sim 11 48 (ma_stor 0 5 50)) (mt_leaf (ms_ild (e := (.iload 5, 52, 0, 0, 0)) rfl (fun _ _ _ => rfl) : mo_Sim 11 50 (ma_load 0 5 52)) (mt_leaf (ms_ald (e := (.aload_n 0, 53, 0, 0, 0)) rfl (fun _ _ _ => rfl) : mo_Sim 11 52 (ma_lda 0 53)) (mt_none)))
set_option maxRecDepth 100000 in
theorem smt11_20 (k : Nat) : ∀ f, mt11_20 k = some f → mo_Sim 11 k f := mt_leaf (ms_getf (e := (.getfield 9, 56, 1, 0, 107)) rfl (fun _ _ _ => rfl) : mo_Sim 11 53 (ma_getf 1 0 56)) (mt_leaf (ms_if2 (e := (.if_icmp .ge 35, 59, 91, 0, 0)) rfl (fun _ _ _ => rfl) : mo_Sim 11 56 (ma_if2 .ge 91 56 59)) (mt_leaf (ms_ald (e := (.aload_n 0, 60, 0, 0, 0)) rfl (fun _ _ _ => rfl) : mo_Sim 11 59 (ma_lda 0 60)) (mt_leaf (ms_getf (e := (.getfield 18, 63, 1, 2, 116)) rfl (fun _ _ _ => rfl) : mo_Sim 11 60 (ma_getf 1 2 63)) (mt_none))))
set_option maxRecDepth 100000 in
theorem smt11_18 (k : Nat) : ∀ f, mt11_18 k = some f → mo_Sim 11 k f := mt_node (smt11_19 k) (smt11_20 k)
set_option maxRecDepth 100000 in
theorem smt11_22 (k : Nat) : ∀ f, mt11_22 k = some f → mo_Sim 11 k f := mt_leaf (ms_ild (e := (.iload_n 2, 64, 0, 0, 0)) rfl (fun _ _ _ => rfl) : mo_Sim 11 63 (ma_load 0 2 64)) (mt_leaf (ms_ild (e := (.iload_n 3, 65, 0, 0, 0)) rfl (fun _ _ _ => rfl) : mo_Sim 11 64 (ma_load 0 3 65)) (mt_leaf (ms_iast (e := (.iastore, 66, 0, 0, 0)) rfl rfl (fun _ _ _ => rfl) : mo_Sim 11 65 (ma_ast 13 0 65 66)) (mt_none)))
set_option maxRecDepth 100000 in
theorem smt11_23 (k : Nat) : ∀ f, mt11_23 k = some f → mo_Sim 11 k f := mt_leaf (ms_ald (e := (.aload_n 0, 67, 0, 0, 0)) rfl (fun _ _ _ => rfl) : mo_Sim 11 66 (ma_lda 0 67)) (mt_leaf (ms_getf (e := (.getfield 22, 70, 1, 3, 123)) rfl (fun _ _ _ => rfl) : mo_Sim 11 67 (ma_getf 1 3 70)) (mt_leaf (ms_ild (e := (.iload_n 2, 71, 0, 0, 0)) rfl (fun _ _ _ => rfl) : mo_Sim 11 70 (ma_load 0 2 71)) (mt_leaf (ms_ild (e := (.iload 4, 73, 0, 0, 0)) rfl (fun _ _ _ => rfl) : mo_Sim 11 71 (ma_load 0 4 73)) (mt_none))))
set_option maxRecDepth 100000 in
theorem smt11_21 (k : Nat) : ∀ f, mt11_21 k = some f → mo_Sim 11 k f := mt_node (smt11_22 k) (smt11_23 k)
set_option maxRecDepth 100000 in
theorem smt11_17 (k : Nat) : ∀ f, mt11_17 k = some f → mo_Sim 11 k f := mt_node (smt11_18 k) (smt11_21 k)
set_option maxRecDepth 100000 in
theorem smt11_26 (k : Nat) : ∀ f, mt11_26 k = some f → mo_Sim 11 k f := mt_leaf (ms_iast (e := (.iastore, 74, 0, 0, 0)) rfl rfl (fun _ _ _ => rfl) : mo_Sim 11 73 (ma_ast 13 0 73 74)) (mt_leaf (ms_ald (e := (.aload_n 0, 75, 0, 0, 0)) rfl (fun _ _ _ => rfl) : mo_Sim 11 74 (ma_lda 0 75)) (mt_leaf (ms_getf (e := (.getfield 25, 78, 1, 4, 130)) rfl (fun _ _ _ => rfl) : mo_Sim 11 75 (ma_getf 1 4 78)) (mt_none)))
set_option maxRecDepth 100000 in
theorem smt11_27 (k : Nat) : ∀ f, mt11_27 k = some f → mo_Sim 11 k f := mt_leaf (ms_ild (e := (.iload_n 2, 79, 0, 0, 0)) rfl (fun _ _ _ => rfl) : mo_Sim 11 78 (ma_load 0 2 79)) (mt_leaf (ms_ild (e := (.iload 5, 81, 0, 0, 0)) rfl (fun _ _ _ => rfl) : mo_Sim 11 79 (ma_load 0 5 81)) (mt_leaf (ms_iast (e := (.iastore, 82, 0, 0, 0)) rfl rfl (fun _ _ _ => rfl) : mo_Sim 11 81 (ma_ast 13 0 81 82)) (mt_leaf (ms_iinc (e := (.iinc 2 1, 85, 0, 0, 0)) rfl (fun _ _ _ => rfl) (by decide) : mo_Sim 11 82 (ma_iinc 2 (.ofNat 1) 82 85)) (mt_none))))
set_option maxRecDepth 100000 in
theorem smt11_25 (k : Nat) : ∀ f, mt11_25 k = some f → mo_Sim 11 k f := mt_node (smt11_26 k) (smt11_27 k)
set_option maxRecDepth 100000 in
theorem smt11_29 (k : Nat) : ∀ f, mt11_29 k = some f → mo_Sim 11 k f := mt_leaf (ms_iinc (e := (.iinc 5 1, 88, 0, 0, 0)) rfl (fun _ _ _ => rfl) (by decide) : mo_Sim 11 85 (ma_iinc 5 (.ofNat 1) 85 88)) (mt_leaf (ms_goto (e := (.goto (-38), 91, 50, 0, 0)) rfl (fun _ _ _ => rfl) : mo_Sim 11 88 (ma_goto 50)) (mt_leaf (ms_iinc (e := (.iinc 4 1, 94, 0, 0, 0)) rfl (fun _ _ _ => rfl) (by decide) : mo_Sim 11 91 (ma_iinc 4 (.ofNat 1) 91 94)) (mt_none)))
set_option maxRecDepth 100000 in
theorem smt11_30 (k : Nat) : ∀ f, mt11_30 k = some f → mo_Sim 11 k f := mt_leaf (ms_goto (e := (.goto (-56), 97, 38, 0, 0)) rfl (fun _ _ _ => rfl) : mo_Sim 11 94 (ma_goto 38)) (mt_leaf (ms_iinc (e := (.iinc 3 1, 100, 0, 0, 0)) rfl (fun _ _ _ => rfl) (by decide) : mo_Sim 11 97 (ma_iinc 3 (.ofNat 1) 97 100)) (mt_leaf (ms_goto (e := (.goto (-73), 103, 27, 0, 0)) rfl (fun _ _ _ => rfl) : mo_Sim 11 100 (ma_goto 27)) (mt_leaf (ms_retv (e := (.return_, 104, 0, 0, 0)) rfl rfl (fun _ _ _ => rfl) : mo_Sim 11 103 (ma_retv)) (mt_none))))
set_option maxRecDepth 100000 in
theorem smt11_28 (k : Nat) : ∀ f, mt11_28 k = some f → mo_Sim 11 k f := mt_node (smt11_29 k) (smt11_30 k)
set_option maxRecDepth 100000 in
theorem smt11_24 (k : Nat) : ∀ f, mt11_24 k = some f → mo_Sim 11 k f := mt_node (smt11_25 k) (smt11_28 k)
set_option maxRecDepth 100000 in
theorem smt11_16 (k : Nat) : ∀ f, mt11_16 k = some f → mo_Sim 11 k f := mt_node (smt11_17 k) (smt11_24 k)
set_option maxRecDepth 100000 in
theorem smt11_0 (k : Nat) : ∀ f, mt11_0 k = some f → mo_Sim 11 k f := mt_node (smt11_1 k) (smt11_16 k)
set_option maxRecDepth 100000 in
theorem smt12_2 (k : Nat) : ∀ f, mt12_2 k = some f → mo_Sim 12 k f := mt_leaf (ms_pushi (e := (.iconst 1, 1, 0, 0, 0)) rfl (fun _ _ _ => rfl) (by decide) : mo_Sim 12 0 (ma_push (ma_ci (.ofNat 1)) 1)) (mt_leaf (ms_ist (e := (.istore_n 2, 2, 0, 0, 0)) rfl (fun _ _ _ => rfl) : mo_Sim 12 1 (ma_stor 0 2 2)) (mt_leaf (ms_pushi (e := (.iconst 0, 3, 0, 0, 0)) rfl (fun _ _ _ => rfl) (by decide) : mo_Sim 12 2 (ma_push (ma_ci (.ofNat 0)) 3)) (mt_leaf (ms_ist (e := (.istore_n 3, 4, 0, 0, 0)) rfl (fun _ _ _ => rfl) : mo_Sim 12 3 (ma_stor 0 3 4)) (mt_none))))
set_option maxRecDepth 100000 in
theorem smt12_3 (k : Nat) : ∀ f, mt12_3 k = some f → mo_Sim 12 k f := mt_leaf (ms_ild (e := (.iload_n 3, 5, 0, 0, 0)) rfl (fun _ _ _ => rfl) : mo_Sim 12 4 (ma_load 0 3 5)) (mt_leaf (ms_ild (e := (.iload_n 1, 6, 0, 0, 0)) rfl (fun _ _ _ => rfl) : mo_Sim 12 5 (ma_load 0 1 6)) (mt_leaf (ms_if2 (e := (.if_icmp .ge 16, 9, 22, 0, 0)) rfl (fun _ _ _ => rfl) : mo_Sim 12 6 (ma_if2 .ge 22 6 9)) (mt_leaf (ms_ild (e := (.iload_n 2, 10, 0, 0, 0)) rfl (fun _ _ _ => rfl) : mo_Sim 12 9 (ma_load 0 2 10)) (mt_none))))
set_option maxRecDepth 100000 in
theorem smt12_1 (k : Nat) : ∀ f, mt12_1 k = some f → mo_Sim 12 k f := mt_node (smt12_2 k) (smt12_3 k)
set_option maxRecDepth 100000 in
theorem smt12_5 (k : Nat) : ∀ f, mt12_5 k = some f → mo_Sim 12 k f := mt_leaf (ms_ald (e := (.aload_n 0, 11, 0, 0, 0)) rfl (fun _ _ _ => rfl) : mo_Sim 12 10 (ma_lda 0 11)) (mt_leaf (ms_getf (e := (.getfield 9, 14, 1, 0, 107)) rfl (fun _ _ _ => rfl) : mo_Sim 12 11 (ma_getf 1 0 14)) (mt_leaf (ms_i2 (e := (.imul, 15, 0, 0, 0)) rfl (fun _ _ _ => rfl) hf_mul : mo_Sim 12 14 (ma_i2 ma_fmul 14 15)) (mt_leaf (ms_ist (e := (.istore_n 2, 16, 0, 0, 0)) rfl (fun _ _ _ => rfl) : mo_Sim 12 15 (ma_stor 0 2 16)) (mt_none))))
set_option maxRecDepth 100000 in
theorem smt12_6 (k : Nat) : ∀ f, mt12_6 k = some f → mo_Sim 12 k f := mt_leaf (ms_iinc (e := (.iinc 3 1, 19, 0, 0, 0)) rfl (fun _ _ _ => rfl) (by decide) : mo_Sim 12 16 (ma_iinc 3 (.ofNat 1) 16 19)) (mt_leaf (ms_goto (e := (.goto (-15), 22, 4, 0, 0)) rfl (fun _ _ _ => rfl) : mo_Sim 12 19 (ma_goto 4)) (mt_leaf (ms_ild (e := (.iload_n 2, 23, 0, 0, 0)) rfl (fun _ _ _ => rfl) : mo_Sim 12 22 (ma_load 0 2 23)) (mt_leaf (ms_ret (e := (.ireturn, 24, 0, 0, 0)) rfl (Or.inl ⟨rfl, rfl, (fun _ _ _ => rfl)⟩) : mo_Sim 12 23 (ma_ret 0)) (mt_none))))
set_option maxRecDepth 100000 in
theorem smt12_4 (k : Nat) : ∀ f, mt12_4 k = some f → mo_Sim 12 k f := mt_node (smt12_5 k) (smt12_6 k)
set_option maxRecDepth 100000 in
theorem smt12_0 (k : Nat) : ∀ f, mt12_0 k = some f → mo_Sim 12 k f := mt_node (smt12_1 k) (smt12_4 k)
