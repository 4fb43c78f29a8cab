set_option maxRecDepth 100000 in
theorem mo_bl_0 (rs : List Int) : mo_c rs (.inl [ma_ci (.ofNat 0), ma_ci (.ofNat 0), ma_null, ma_null]) (mj_blank 0).2 := by
  show mo_vs rs [ma_ci (.ofNat 0), ma_ci (.ofNat 0), ma_null, ma_null] [.int 0, .int 0, .null, .null]
  exact ⟨⟨0, rfl, rfl⟩, ⟨0, rfl, rfl⟩, rfl, rfl, trivial⟩
set_option maxRecDepth 100000 in
theorem mo_bl_1 (rs : List Int) : mo_c rs (.inl [ma_ci (.ofNat 0), ma_ci (.ofNat 0), ma_null, ma_null, ma_null]) (mj_blank 1).2 := by
  show mo_vs rs [ma_ci (.ofNat 0), ma_ci (.ofNat 0), ma_null, ma_null, ma_null] [.int 0, .int 0, .null, .null, .null]
  exact ⟨⟨0, rfl, rfl⟩, ⟨0, rfl, rfl⟩, rfl, rfl, rfl, trivial⟩
set_option maxRecDepth 100000 in
theorem mo_bl_2 (rs : List Int) : mo_c rs (.inl [ma_ci (.ofNat 0), ma_ci (.ofNat 0), ma_ci (.ofNat 0), ma_ci (.ofNat 0), ma_null, ma_ci (.ofNat 0)]) (mj_blank 2).2 := by
  show mo_vs rs [ma_ci (.ofNat 0), ma_ci (.ofNat 0), ma_ci (.ofNat 0), ma_ci (.ofNat 0), ma_null, ma_ci (.ofNat 0)] [.int 0, .int 0, .int 0, .int 0, .null, .int 0]
  exact ⟨⟨0, rfl, rfl⟩, ⟨0, rfl, rfl⟩, ⟨0, rfl, rfl⟩, ⟨0, rfl, rfl⟩, rfl, ⟨0, rfl, rfl⟩, trivial⟩
set_option maxRecDepth 100000 in
theorem mo_bl_3 (rs : List Int) : mo_c rs (.inl [ma_null, ma_ci (.ofNat 0)]) (mj_blank 3).2 := by
  show mo_vs rs [ma_null, ma_ci (.ofNat 0)] [.null, .int 0]
  exact ⟨rfl, ⟨0, rfl, rfl⟩, trivial⟩
set_option maxRecDepth 100000 in
theorem mo_bl_4 (rs : List Int) : mo_c rs (.inl [ma_ci (.ofNat 0), ma_ci (.ofNat 0), ma_ci (.ofNat 0), ma_ci (.ofNat 0), ma_null]) (mj_blank 4).2 := by
  show mo_vs rs [ma_ci (.ofNat 0), ma_ci (.ofNat 0), ma_ci (.ofNat 0), ma_ci (.ofNat 0), ma_null] [.int 0, .int 0, .int 0, .int 0, .null]
  exact ⟨⟨0, rfl, rfl⟩, ⟨0, rfl, rfl⟩, ⟨0, rfl, rfl⟩, ⟨0, rfl, rfl⟩, rfl, trivial⟩
set_option maxRecDepth 100000 in
theorem mo_bl_5 (rs : List Int) : mo_c rs (.inl [ma_null, ma_ci (.ofNat 0), ma_ci (.ofNat 0), ma_ci (.ofNat 0)]) (mj_blank 5).2 := by
  show mo_vs rs [ma_null, ma_ci (.ofNat 0), ma_ci (.ofNat 0), ma_ci (.ofNat 0)] [.null, .int 0, .int 0, .int 0]
  exact ⟨rfl, ⟨0, rfl, rfl⟩, ⟨0, rfl, rfl⟩, ⟨0, rfl, rfl⟩, trivial⟩
set_option maxRecDepth 100000 in
theorem mo_bl_6 (rs : List Int) : mo_c rs (.inl [ma_ci (.ofNat 0), ma_ci (.ofNat 0), ma_ci (.ofNat 0), ma_null, ma_null]) (mj_blank 6).2 := by
  show mo_vs rs [ma_ci (.ofNat 0), ma_ci (.ofNat 0), ma_ci (.ofNat 0), ma_null, ma_null] [.int 0, .int 0, .int 0, .null, .null]
  exact ⟨⟨0, rfl, rfl⟩, ⟨0, rfl, rfl⟩, ⟨0, rfl, rfl⟩, rfl, rfl, trivial⟩
set_option maxRecDepth 100000 in
theorem mo_bl_7 (rs : List Int) : mo_c rs (.inl [ma_null, ma_null, ma_null, ma_null, ma_null, ma_null, ma_null, ma_null, ma_null, ma_null, ma_ci (.ofNat 0), ma_ci (.ofNat 0)]) (mj_blank 7).2 := by
  show mo_vs rs [ma_null, ma_null, ma_null, ma_null, ma_null, ma_null, ma_null, ma_null, ma_null, ma_null, ma_ci (.ofNat 0), ma_ci (.ofNat 0)] [.null, .null, .null, .null, .null, .null, .null, .null, .null, .null, .int 0, .int 0]
  exact ⟨rfl, rfl, rfl, rfl, rfl, rfl, rfl, rfl, rfl, rfl, ⟨0, rfl, rfl⟩, ⟨0, rfl, rfl⟩, trivial⟩
set_option maxRecDepth 100000 in
theorem mo_bl_8 (rs : List Int) : mo_c rs (.inl [ma_null, ma_null, ma_null, ma_null, ma_null, ma_ci (.ofNat 0), ma_ci (.ofNat 0), ma_ci (.ofNat 0)]) (mj_blank 8).2 := by
  show mo_vs rs [ma_null, ma_null, ma_null, ma_null, ma_null, ma_ci (.ofNat 0), ma_ci (.ofNat 0), ma_ci (.ofNat 0)] [.null, .null, .null, .null, .null, .int 0, .int 0, .int 0]
  exact ⟨rfl, rfl, rfl, rfl, rfl, ⟨0, rfl, rfl⟩, ⟨0, rfl, rfl⟩, ⟨0, rfl, rfl⟩, trivial⟩
set_option maxRecDepth 100000 in
theorem mo_bl_9 (rs : List Int) : mo_c rs (.inl [ma_ci (.ofNat 0), ma_ci (.ofNat 0), ma_null, ma_null, ma_null, ma_null, ma_null]) (mj_blank 9).2 := by
  show mo_vs rs [ma_ci (.ofNat 0), ma_ci (.ofNat 0), ma_null, ma_null, ma_null, ma_null, ma_null] [.int 0, .int 0, .null, .null, .null, .null, .null]
  exact ⟨⟨0, rfl, rfl⟩, ⟨0, rfl, rfl⟩, rfl, rfl, rfl, rfl, rfl, trivial⟩
set_option maxRecDepth 100000 in
theorem mo_bl_10 (rs : List Int) : mo_c rs (.inl [ma_null, ma_null, ma_null]) (mj_blank 10).2 := by
  show mo_vs rs [ma_null, ma_null, ma_null] [.null, .null, .null]
  exact ⟨rfl, rfl, rfl, trivial⟩
set_option maxRecDepth 100000 in
theorem mo_bl_11 (rs : List Int) : mo_c rs (.inl [ma_null, ma_null, ma_null, ma_null, ma_null, ma_null, ma_null, ma_null, ma_null, ma_null, ma_null, ma_null, ma_null, ma_null, ma_ci (.ofNat 0), ma_ci (.ofNat 0), ma_ci (.ofNat 0), ma_ci (.ofNat 0), ma_ci (.ofNat 0)]) (mj_blank 11).2 := by
  show mo_vs rs [ma_null, ma_null, ma_null, ma_null, ma_null, ma_null, ma_null, ma_null, ma_null, ma_null, ma_null, ma_null, ma_null, ma_null, ma_ci (.ofNat 0), ma_ci (.ofNat 0), ma_ci (.ofNat 0), ma_ci (.ofNat 0), ma_ci (.ofNat 0)] [.null, .null, .null, .null, .null, .null, .null, .null, .null, .null, .null, .null, .null, .null, .int 0, .int 0, .int 0, .int 0, .int 0]
  exact ⟨rfl, rfl, rfl, rfl, rfl, rfl, rfl, rfl, rfl, rfl, rfl, rfl, rfl, rfl, ⟨0, rfl, rfl⟩, ⟨0, rfl, rfl⟩, ⟨0, rfl, rfl⟩, ⟨0, rfl, rfl⟩, ⟨0, rfl, rfl⟩, trivial⟩
set_option maxRecDepth 100000 in
theorem mo_bl_12 (rs : List Int) : mo_c rs (.inl [ma_ci (.ofNat 0), ma_null, ma_null, ma_null, ma_ci (.ofNat 0), ma_null, ma_null, ma_ci (.ofNat 0), ma_null, ma_null, ma_ci (.ofNat 0), ma_ci (.ofNat 0), ma_null, ma_null, ma_null, ma_null, ma_null, ma_null, ma_null, ma_null, ma_ci (.ofNat 0), ma_ci (.ofNat 0), ma_ci (.ofNat 0), ma_null, ma_null]) (mj_blank 12).2 := by
  show mo_vs rs [ma_ci (.ofNat 0), ma_null, ma_null, ma_null, ma_ci (.ofNat 0), ma_null, ma_null, ma_ci (.ofNat 0), ma_null, ma_null, ma_ci (.ofNat 0), ma_ci (.ofNat 0), ma_null, ma_null, ma_null, ma_null, ma_null, ma_null, ma_null, ma_null, ma_ci (.ofNat 0), ma_ci (.ofNat 0), ma_ci (.ofNat 0), ma_null, ma_null] [.int 0, .null, .null, .null, .int 0, .null, .null, .int 0, .null, .null, .int 0, .int 0, .null, .null, .null, .null, .null, .null, .null, .null, .int 0, .int 0, .int 0, .null, .null]
  exact ⟨⟨0, rfl, rfl⟩, rfl, rfl, rfl, ⟨0, rfl, rfl⟩, rfl, rfl, ⟨0, rfl, rfl⟩, rfl, rfl, ⟨0, rfl, rfl⟩, ⟨0, rfl, rfl⟩, rfl, rfl, rfl, rfl, rfl, rfl, rfl, rfl, ⟨0, rfl, rfl⟩, ⟨0, rfl, rfl⟩, ⟨0, rfl, rfl⟩, rfl, rfl, trivial⟩
set_option maxRecDepth 100000 in
theorem smt0_2 (k : Nat) : ∀ f, mt0_2 k = some f → mo_Sim 0 k f := mt_leaf (ms_newo (e := (.new 7, 3, 11, 0, 93)) rfl rfl (fun _ _ _ => rfl) rfl mo_bl_11 : mo_Sim 0 0 (ma_new (11, .inl [ma_null, ma_null, ma_null, ma_null, ma_null, ma_null, ma_null, ma_null, ma_null, ma_null, ma_null, ma_null, ma_null, ma_null, ma_ci (.ofNat 0), ma_ci (.ofNat 0), ma_ci (.ofNat 0), ma_ci (.ofNat 0), ma_ci (.ofNat 0)]) 3)) (mt_leaf (ms_dup (e := (.dup, 4, 0, 0, 0)) rfl (fun _ _ _ => rfl) : mo_Sim 0 3 (ma_dup 4)) (mt_none))
set_option maxRecDepth 100000 in
theorem smt0_3 (k : Nat) : ∀ f, mt0_3 k = some f → mo_Sim 0 k f := mt_leaf (ms_invI (p := 0) (e := (.invokespecial 9, 7, 92, 2, 95)) rfl rfl (fun _ _ _ => rfl) rfl rfl : mo_Sim 0 4 (ma_inv 92 1 2 21 7)) (mt_leaf (ms_ast0 (e := (.astore_n 1, 8, 0, 0, 0)) rfl (fun _ _ _ => rfl) : mo_Sim 0 7 (ma_sta 1 8)) (mt_leaf (ms_newo (e := (.new 10, 11, 12, 0, 1046)) rfl rfl (fun _ _ _ => rfl) rfl mo_bl_12 : mo_Sim 0 8 (ma_new (12, .inl [ma_ci (.ofNat 0), ma_null, ma_null, ma_null, ma_ci (.ofNat 0), ma_null, ma_null, ma_ci (.ofNat 0), ma_null, ma_null, ma_ci (.ofNat 0), ma_ci (.ofNat 0), ma_null, ma_null, ma_null, ma_null, ma_null, ma_null, ma_null, ma_null, ma_ci (.ofNat 0), ma_ci (.ofNat 0), ma_ci (.ofNat 0), ma_null, ma_null]) 11)) (mt_none)))
set_option maxRecDepth 100000 in
theorem smt0_1 (k : Nat) : ∀ f, mt0_1 k = some f → mo_Sim 0 k f := mt_node (smt0_2 k) (smt0_3 k)
set_option maxRecDepth 100000 in
theorem smt0_5 (k : Nat) : ∀ f, mt0_5 k = some f → mo_Sim 0 k f := mt_leaf (ms_dup (e := (.dup, 12, 0, 0, 0)) rfl (fun _ _ _ => rfl) : mo_Sim 0 11 (ma_dup 12)) (mt_leaf (ms_invI (p := 0) (e := (.invokespecial 12, 15, 139, 2, 1048)) rfl rfl (fun _ _ _ => rfl) rfl rfl : mo_Sim 0 12 (ma_inv 139 1 1 21 15)) (mt_none))
set_option maxRecDepth 100000 in
theorem smt0_6 (k : Nat) : ∀ f, mt0_6 k = some f → mo_Sim 0 k f := mt_leaf (ms_ast0 (e := (.astore_n 2, 16, 0, 0, 0)) rfl (fun _ _ _ => rfl) : mo_Sim 0 15 (ma_sta 2 16)) (mt_leaf (ms_pushi (e := (.iconst 0, 17, 0, 0, 0)) rfl (fun _ _ _ => rfl) (by decide) : mo_Sim 0 16 (ma_push (ma_ci (.ofNat 0)) 17)) (mt_leaf (ms_ist (e := (.istore_n 3, 18, 0, 0, 0)) rfl (fun _ _ _ => rfl) : mo_Sim 0 17 (ma_stor 0 3 18)) (mt_none)))
set_option maxRecDepth 100000 in
theorem smt0_4 (k : Nat) : ∀ f, mt0_4 k = some f → mo_Sim 0 k f := mt_node (smt0_5 k) (smt0_6 k)
set_option maxRecDepth 100000 in
theorem smt0_0 (k : Nat) : ∀ f, mt0_0 k = some f → mo_Sim 0 k f := mt_node (smt0_1 k) (smt0_4 k)
set_option maxRecDepth 100000 in
theorem smt1_2 (k : Nat) : ∀ f, mt1_2 k = some f → mo_Sim 1 k f := mt_leaf (ms_ald (e := (.aload_n 0, 1, 0, 0, 0)) rfl (fun _ _ _ => rfl) : mo_Sim 1 0 (ma_lda 0 1)) (mt_leaf (ms_obj (e := (.invokespecial 3, 4, 0, 4, 388)) rfl (fun _ _ _ => rfl) : mo_Sim 1 1 (ma_obj 4)) (mt_none))
set_option maxRecDepth 100000 in
theorem smt1_3 (k : Nat) : ∀ f, mt1_3 k = some f → mo_Sim 1 k f := mt_leaf (ms_ald (e := (.aload_n 0, 5, 0, 0, 0)) rfl (fun _ _ _ => rfl) : mo_Sim 1 4 (ma_lda 0 5)) (mt_leaf (ms_pushi (e := (.bipush 27, 7, 0, 0, 0)) rfl (fun _ _ _ => rfl) (by decide) : mo_Sim 1 5 (ma_push (ma_ci (.ofNat 27)) 7)) (mt_leaf (ms_newaI (e := (.newarray .int, 9, 0, 0, 0)) rfl rfl (fun _ _ _ => rfl) : mo_Sim 1 7 (ma_newa 13 (ma_ci (.ofNat 0)) 9)) (mt_none)))
set_option maxRecDepth 100000 in
theorem smt1_1 (k : Nat) : ∀ f, mt1_1 k = some f → mo_Sim 1 k f := mt_node (smt1_2 k) (smt1_3 k)
set_option maxRecDepth 100000 in
theorem smt1_5 (k : Nat) : ∀ f, mt1_5 k = some f → mo_Sim 1 k f := mt_leaf (ms_putf (e := (.putfield 9, 12, 0, 2, 395)) rfl rfl (fun _ _ _ => rfl) (Or.inr (Or.inr (Or.inl ⟨rfl, Or.inr ⟨_, rfl⟩⟩))) : mo_Sim 1 9 (ma_putf 0 2 2 12)) (mt_leaf (ms_ald (e := (.aload_n 0, 13, 0, 0, 0)) rfl (fun _ _ _ => rfl) : mo_Sim 1 12 (ma_lda 0 13)) (mt_leaf (ms_pushi (e := (.bipush 27, 15, 0, 0, 0)) rfl (fun _ _ _ => rfl) (by decide) : mo_Sim 1 13 (ma_push (ma_ci (.ofNat 27)) 15)) (mt_none)))
set_option maxRecDepth 100000 in
theorem smt1_6 (k : Nat) : ∀ f, mt1_6 k = some f → mo_Sim 1 k f := mt_leaf (ms_newaI (e := (.newarray .int, 17, 0, 0, 0)) rfl rfl (fun _ _ _ => rfl) : mo_Sim 1 15 (ma_newa 13 (ma_ci (.ofNat 0)) 17)) (mt_leaf (ms_putf (e := (.putfield 15, 20, 0, 3, 399)) rfl rfl (fun _ _ _ => rfl) (Or.inr (Or.inr (Or.inl ⟨rfl, Or.inr ⟨_, rfl⟩⟩))) : mo_Sim 1 17 (ma_putf 0 3 2 20)) (mt_leaf (ms_retv (e := (.return_, 21, 0, 0, 0)) rfl rfl (fun _ _ _ => rfl) : mo_Sim 1 20 (ma_retv)) (mt_none)))
set_option maxRecDepth 100000 in
theorem smt1_4 (k : Nat) : ∀ f, mt1_4 k = some f → mo_Sim 1 k f := mt_node (smt1_5 k) (smt1_6 k)
set_option maxRecDepth 100000 in
theorem smt1_0 (k : Nat) : ∀ f, mt1_0 k = some f → mo_Sim 1 k f := mt_node (smt1_1 k) (smt1_4 k)
set_option maxRecDepth 100000 in
theorem smt10_3 (k : Nat) : ∀ f, mt10_3 k = some f → mo_Sim 10 k f := mt_leaf (ms_ald (e := (.aload_n 0, 1, 0, 0, 0)) rfl (fun _ _ _ => rfl) : mo_Sim 10 0 (ma_lda 0 1)) (mt_leaf (ms_obj (e := (.invokespecial 3, 4, 0, 4, 106)) rfl (fun _ _ _ => rfl) : mo_Sim 10 1 (ma_obj 4)) (mt_none))
set_option maxRecDepth 100000 in
theorem smt10_4 (k : Nat) : ∀ f, mt10_4 k = some f → mo_Sim 10 k f := mt_leaf (ms_ald (e := (.aload_n 0, 5, 0, 0, 0)) rfl (fun _ _ _ => rfl) : mo_Sim 10 4 (ma_lda 0 5)) (mt_leaf (ms_pushi (e := (.iconst 2, 6, 0, 0, 0)) rfl (fun _ _ _ => rfl) (by decide) : mo_Sim 10 5 (ma_push (ma_ci (.ofNat 2)) 6)) (mt_leaf (ms_putf (e := (.putfield 9, 9, 1, 0, 107)) rfl rfl (fun _ _ _ => rfl) (Or.inl ⟨rfl, rfl⟩) : mo_Sim 10 6 (ma_putf 1 0 0 9)) (mt_none)))
set_option maxRecDepth 100000 in
theorem smt10_2 (k : Nat) : ∀ f, mt10_2 k = some f → mo_Sim 10 k f := mt_node (smt10_3 k) (smt10_4 k)
set_option maxRecDepth 100000 in
theorem smt10_6 (k : Nat) : ∀ f, mt10_6 k = some f → mo_Sim 10 k f := mt_leaf (ms_ald (e := (.aload_n 0, 10, 0, 0, 0)) rfl (fun _ _ _ => rfl) : mo_Sim 10 9 (ma_lda 0 10)) (mt_leaf (ms_pushi (e := (.bipush 8, 12, 0, 0, 0)) rfl (fun _ _ _ => rfl) (by decide) : mo_Sim 10 10 (ma_push (ma_ci (.ofNat 8)) 12)) (mt_none))
set_option maxRecDepth 100000 in
theorem smt10_7 (k : Nat) : ∀ f, mt10_7 k = some f → mo_Sim 10 k f := mt_leaf (ms_putf (e := (.putfield 15, 15, 1, 1, 113)) rfl rfl (fun _ _ _ => rfl) (Or.inl ⟨rfl, rfl⟩) : mo_Sim 10 12 (ma_putf 1 1 0 15)) (mt_leaf (ms_ald (e := (.aload_n 0, 16, 0, 0, 0)) rfl (fun _ _ _ => rfl) : mo_Sim 10 15 (ma_lda 0 16)) (mt_leaf (ms_pushi (e := (.bipush 27, 18, 0, 0, 0)) rfl (fun _ _ _ => rfl) (by decide) : mo_Sim 10 16 (ma_push (ma_ci (.ofNat 27)) 18)) (mt_none)))
set_option maxRecDepth 100000 in
theorem smt10_5 (k : Nat) : ∀ f, mt10_5 k = some f → mo_Sim 10 k f := mt_node (smt10_6 k) (smt10_7 k)
set_option maxRecDepth 100000 in
theorem smt10_1 (k : Nat) : ∀ f, mt10_1 k = some f → mo_Sim 10 k f := mt_node (smt10_2 k) (smt10_5 k)
set_option maxRecDepth 100000 in
theorem smt10_10 (k : Nat) : ∀ f, mt10_10 k = some f → mo_Sim 10 k f := mt_leaf (ms_newaI (e := (.newarray .int, 20, 0, 0, 0)) rfl rfl (fun _ _ _ => rfl) : mo_Sim 10 18 (ma_newa 13 (ma_ci (.ofNat 0)) 20)) (mt_leaf (ms_putf (e := (.putfield 18, 23, 1, 2, 116)) rfl rfl (fun _ _ _ => rfl) (Or.inr (Or.inr (Or.inl ⟨rfl, Or.inr ⟨_, rfl⟩⟩))) : mo_Sim 10 20 (ma_putf 1 2 2 23)) (mt_none))
set_option maxRecDepth 100000 in
theorem smt10_11 (k : Nat) : ∀ f, mt10_11 k = some f → mo_Sim 10 k f := mt_leaf (ms_ald (e := (.aload_n 0, 24, 0, 0, 0)) rfl (fun _ _ _ => rfl) : mo_Sim 10 23 (ma_lda 0 24)) (mt_leaf (ms_pushi (e := (.bipush 27, 26, 0, 0, 0)) rfl (fun _ _ _ => rfl) (by decide) : mo_Sim 10 24 (ma_push (ma_ci (.ofNat 27)) 26)) (mt_leaf (ms_newaI (e := (.newarray .int, 28, 0, 0, 0)) rfl rfl (fun _ _ _ => rfl) : mo_Sim 10 26 (ma_newa 13 (ma_ci (.ofNat 0)) 28)) (mt_none)))
set_option maxRecDepth 100000 in
theorem smt10_9 (k : Nat) : ∀ f, mt10_9 k = some f → mo_Sim 10 k f := mt_node (smt10_10 k) (smt10_11 k)
set_option maxRecDepth 100000 in
theorem smt10_13 (k : Nat) : ∀ f, mt10_13 k = some f → mo_Sim 10 k f := mt_leaf (ms_putf (e := (.putfield 22, 31, 1, 3, 123)) rfl rfl (fun _ _ _ => rfl) (Or.inr (Or.inr (Or.inl ⟨rfl, Or.inr ⟨_, rfl⟩⟩))) : mo_Sim 10 28 (ma_putf 1 3 2 31)) (mt_leaf (ms_ald (e := (.aload_n 0, 32, 0, 0, 0)) rfl (fun _ _ _ => rfl) : mo_Sim 10 31 (ma_lda 0 32)) (mt_leaf (ms_pushi (e := (.bipush 27, 34, 0, 0, 0)) rfl (fun _ _ _ => rfl) (by decide) : mo_Sim 10 32 (ma_push (ma_ci (.ofNat 27)) 34)) (mt_none)))
set_option maxRecDepth 100000 in
theorem smt10_14 (k : Nat) : ∀ f, mt10_14 k = some f → mo_Sim 10 k f := mt_leaf (ms_newaI (e := (.newarray .int, 36, 0, 0, 0)) rfl rfl (fun _ _ _ => rfl) : mo_Sim 10 34 (ma_newa 13 (ma_ci (.ofNat 0)) 36)) (mt_leaf (ms_putf (e := (.putfield 25, 39, 1, 4, 130)) rfl rfl (fun _ _ _ => rfl) (Or.inr (Or.inr (Or.inl ⟨rfl, Or.inr ⟨_, rfl⟩⟩))) : mo_Sim 10 36 (ma_putf 1 4 2 39)) (mt_leaf (ms_retv (e := (.return_, 40, 0, 0, 0)) rfl rfl (fun _ _ _ => rfl) : mo_Sim 10 39 (ma_retv)) (mt_none)))
set_option maxRecDepth 100000 in
theorem smt10_12 (k : Nat) : ∀ f, mt10_12 k = some f → mo_Sim 10 k f := mt_node (smt10_13 k) (smt10_14 k)
set_option maxRecDepth 100000 in
theorem smt10_8 (k : Nat) : ∀ f, mt10_8 k = some f → mo_Sim 10 k f := mt_node (smt10_9 k) (smt10_12 k)
set_option maxRecDepth 100000 in
theorem smt10_0 (k : Nat) : ∀ f, mt10_0 k = some f → mo_Sim 10 k f := mt_node (smt10_1 k) (smt10_8 k)
set_option maxRecDepth 100000 in
theorem smt11_4 (k : Nat) : ∀ f, mt11_4 k = some f → mo_Sim 11 k f := mt_leaf (ms_ald (e := (.aload_n 0, 1, 0, 0, 0)) rfl (fun _ _ _ => rfl) : mo_Sim 11 0 (ma_lda 0 1)) (mt_leaf (ms_ild (e := (.iload_n 1, 2, 0, 0, 0)) rfl (fun _ _ _ => rfl) : mo_Sim 11 1 (ma_load 0 1 2)) (mt_leaf (ms_putf (e := (.putfield 9, 5, 1, 0, 107)) rfl rfl (fun _ _ _ => rfl) (Or.inl ⟨rfl, rfl⟩) : mo_Sim 11 2 (ma_putf 1 0 0 5)) (mt_none)))
set_option maxRecDepth 100000 in
theorem smt11_5 (k : Nat) : ∀ f, mt11_5 k = some f → mo_Sim 11 k f := mt_leaf (ms_ald (e := (.aload_n 0, 6, 0, 0, 0)) rfl (fun _ _ _ => rfl) : mo_Sim 11 5 (ma_lda 0 6)) (mt_leaf (ms_ald (e := (.aload_n 0, 7, 0, 0, 0)) rfl (fun _ _ _ => rfl) : mo_Sim 11 6 (ma_lda 0 7)) (mt_leaf (ms_getf (e := (.getfield 9, 10, 1, 0, 107)) rfl (fun _ _ _ => rfl) : mo_Sim 11 7 (ma_getf 1 0 10)) (mt_leaf (ms_ald (e := (.aload_n 0, 11, 0, 0, 0)) rfl (fun _ _ _ => rfl) : mo_Sim 11 10 (ma_lda 0 11)) (mt_none))))
set_option maxRecDepth 100000 in
theorem smt11_3 (k : Nat) : ∀ f, mt11_3 k = some f → mo_Sim 11 k f := mt_node (smt11_4 k) (smt11_5 k)
set_option maxRecDepth 100000 in
theorem smt11_7 (k : Nat) : ∀ f, mt11_7 k = some f → mo_Sim 11 k f := mt_leaf (ms_getf (e := (.getfield 9, 14, 1, 0, 107)) rfl (fun _ _ _ => rfl) : mo_Sim 11 11 (ma_getf 1 0 14)) (mt_leaf (ms_i2 (e := (.imul, 15, 0, 0, 0)) rfl (fun _ _ _ => rfl) hf_mul : mo_Sim 11 14 (ma_i2 ma_fmul 14 15)) (mt_leaf (ms_ald (e := (.aload_n 0, 16, 0, 0, 0)) rfl (fun _ _ _ => rfl) : mo_Sim 11 15 (ma_lda 0 16)) (mt_none)))
set_option maxRecDepth 100000 in
theorem smt11_8 (k : Nat) : ∀ f, mt11_8 k = some f → mo_Sim 11 k f := mt_leaf (ms_getf (e := (.getfield 9, 19, 1, 0, 107)) rfl (fun _ _ _ => rfl) : mo_Sim 11 16 (ma_getf 1 0 19)) (mt_leaf (ms_i2 (e := (.imul, 20, 0, 0, 0)) rfl (fun _ _ _ => rfl) hf_mul : mo_Sim 11 19 (ma_i2 ma_fmul 19 20)) (mt_leaf (ms_putf (e := (.putfield 15, 23, 1, 1, 113)) rfl rfl (fun _ _ _ => rfl) (Or.inl ⟨rfl, rfl⟩) : mo_Sim 11 20 (ma_putf 1 1 0 23)) (mt_leaf (ms_pushi (e := (.iconst 0, 24, 0, 0, 0)) rfl (fun _ _ _ => rfl) (by decide) : mo_Sim 11 23 (ma_push (ma_ci (.ofNat 0)) 24)) (mt_none))))
set_option maxRecDepth 100000 in
theorem smt11_6 (k : Nat) : ∀ f, mt11_6 k = some f → mo_Sim 11 k f := mt_node (smt11_7 k) (smt11_8 k)
set_option maxRecDepth 100000 in
theorem smt11_2 (k : Nat) : ∀ f, mt11_2 k = some f → mo_Sim 11 k f := mt_node (smt11_3 k) (smt11_6 k)
set_option maxRecDepth 100000 in
theorem smt11_11 (k : Nat) : ∀ f, mt11_11 k = some f → mo_Sim 11 k f := mt_leaf (ms_ist (e := (.istore_n 2, 25, 0, 0, 0)) rfl (fun _ _ _ => rfl) : mo_Sim 11 24 (ma_stor 0 2 25)) (mt_leaf (ms_pushi (e := (.iconst 0, 26, 0, 0, 0)) rfl (fun _ _ _ => rfl) (by decide) : mo_Sim 11 25 (ma_push (ma_ci (.ofNat 0)) 26)) (mt_leaf (ms_ist (e := (.istore_n 3, 27, 0, 0, 0)) rfl (fun _ _ _ => rfl) : mo_Sim 11 26 (ma_stor 0 3 27)) (mt_none)))
set_option maxRecDepth 100000 in
theorem smt11_12 (k : Nat) : ∀ f, mt11_12 k = some f → mo_Sim 11 k f := mt_leaf (ms_ild (e := (.iload_n 3, 28, 0, 0, 0)) rfl (fun _ _ _ => rfl) : mo_Sim 11 27 (ma_load 0 3 28)) (mt_leaf (ms_ald (e := (.aload_n 0, 29, 0, 0, 0)) rfl (fun _ _ _ => rfl) : mo_Sim 11 28 (ma_lda 0 29)) (mt_leaf (ms_getf (e := (.getfield 9, 32, 1, 0, 107)) rfl (fun _ _ _ => rfl) : mo_Sim 11 29 (ma_getf 1 0 32)) (mt_leaf (ms_if2 (e := (.if_icmp .ge 71, 35, 103, 0, 0)) rfl (fun _ _ _ => rfl) : mo_Sim 11 32 (ma_if2 .ge 103 32 35)) (mt_none))))
set_option maxRecDepth 100000 in
theorem smt11_10 (k : Nat) : ∀ f, mt11_10 k = some f → mo_Sim 11 k f := mt_node (smt11_11 k) (smt11_12 k)
set_option maxRecDepth 100000 in
theorem smt11_14 (k : Nat) : ∀ f, mt11_14 k = some f → mo_Sim 11 k f := mt_leaf (ms_pushi (e := (.iconst 0, 36, 0, 0, 0)) rfl (fun _ _ _ => rfl) (by decide) : mo_Sim 11 35 (ma_push (ma_ci (.ofNat 0)) 36)) (mt_leaf (ms_ist (e := (.istore 4, 38, 0, 0, 0)) rfl (fun _ _ _ => rfl) : mo_Sim 11 36 (ma_stor 0 4 38)) (mt_leaf (ms_ild (e := (.iload 4, 40, 0, 0, 0)) rfl (fun _ _ _ => rfl) : mo_Sim 11 38 (ma_load 0 4 40)) (mt_none)))
set_option maxRecDepth 100000 in
theorem smt11_15 (k : Nat) : ∀ f, mt11_15 k = some f → mo_Sim 11 k f := mt_leaf (ms_ald (e := (.aload_n 0, 41, 0, 0, 0)) rfl (fun _ _ _ => rfl) : mo_Sim 11 40 (ma_lda 0 41)) (mt_leaf (ms_getf (e := (.getfield 9, 44, 1, 0, 107)) rfl (fun _ _ _ => rfl) : mo_Sim 11 41 (ma_getf 1 0 44)) (mt_leaf (ms_if2 (e := (.if_icmp .ge 53, 47, 97, 0, 0)) rfl (fun _ _ _ => rfl) : mo_Sim 11 44 (ma_if2 .ge 97 44 47)) (mt_leaf (ms_pushi (e := (.iconst 0, 48, 0, 0, 0)) rfl (fun _ _ _ => rfl) (by decide) : mo_Sim 11 47 (ma_push (ma_ci (.ofNat 0)) 48)) (mt_none))))
set_option maxRecDepth 100000 in
theorem smt11_13 (k : Nat) : ∀ f, mt11_13 k = some f → mo_Sim 11 k f := mt_node (smt11_14 k) (smt11_15 k)
set_option maxRecDepth 100000 in
theorem smt11_9 (k : Nat) : ∀ f, mt11_9 k = some f → mo_Sim 11 k f := mt_node (smt11_10 k) (smt11_13 k)
set_option maxRecDepth 100000 in
theorem smt11_1 (k : Nat) : ∀ f, mt11_1 k = some f → mo_Sim 11 k f := mt_node (smt11_2 k) (smt11_9 k)
set_option maxRecDepth 100000 in
theorem smt11_19 (k : Nat) : ∀ f, mt11_19 k = some f → mo_Sim 11 k f := mt_leaf (ms_ist (e := (.istore 5, 50, 0, 0, 0)) rfl (fun _ _ _ => rfl) : mo_Sim 11 48 (ma_stor 0 5 50)) (mt_leaf (ms_ild (e := (.iload 5, 52, 0, 0, 0)) rfl (fun _ _ _ => rfl) : mo_Sim 11 50 (ma_load 0 5 52)) (mt_leaf (ms_ald (e := (.aload_n 0, 53, 0, 0, 0)) rfl (fun _ _ _ => rfl) : mo_Sim 11 52 (ma_lda 0 53)) (mt_none)))
set_option maxRecDepth 100000 in
theorem smt11_20 (k : Nat) : ∀ f, mt11_20 k = some f → mo_Sim 11 k f := mt_leaf (ms_getf (e := (.getfield 9, 56, 1, 0, 107)) rfl (fun _ _ _ => rfl) : mo_Sim 11 53 (ma_getf 1 0 56)) (mt_leaf (ms_if2 (e := (.if_icmp .ge 35, 59, 91, 0, 0)) rfl (fun _ _ _ => rfl) : mo_Sim 11 56 (ma_if2 .ge 91 56 59)) (mt_leaf (ms_ald (e := (.aload_n 0, 60, 0, 0, 0)) rfl (fun _ _ _ => rfl) : mo_Sim 11 59 (ma_lda 0 60)) (mt_leaf (ms_getf (e := (.getfield 18, 63, 1, 2, 116)) rfl (fun _ _ _ => rfl) : mo_Sim 11 60 (ma_getf 1 2 63)) (mt_none))))
set_option maxRecDepth 100000 in
theorem smt11_18 (k : Nat) : ∀ f, mt11_18 k = some f → mo_Sim 11 k f := mt_node (smt11_19 k) (smt11_20 k)
set_option maxRecDepth 100000 in
theorem smt11_22 (k : Nat) : ∀ f, mt11_22 k = some f → mo_Sim 11 k f := mt_leaf (ms_ild (e := (.iload_n 2, 64, 0, 0, 0)) rfl (fun _ _ _ => rfl) : mo_Sim 11 63 (ma_load 0 2 64)) (mt_leaf (ms_ild (e := (.iload_n 3, 65, 0, 0, 0)) rfl (fun _ _ _ => rfl) : mo_Sim 11 64 (ma_load 0 3 65)) (mt_leaf (ms_iast (e := (.iastore, 66, 0, 0, 0)) rfl rfl (fun _ _ _ => rfl) : mo_Sim 11 65 (ma_ast 13 0 65 66)) (mt_none)))
set_option maxRecDepth 100000 in
theorem smt11_23 (k : Nat) : ∀ f, mt11_23 k = some f → mo_Sim 11 k f := mt_leaf (ms_ald (e := (.aload_n 0, 67, 0, 0, 0)) rfl (fun _ _ _ => rfl) : mo_Sim 11 66 (ma_lda 0 67)) (mt_leaf (ms_getf (e := (.getfield 22, 70, 1, 3, 123)) rfl (fun _ _ _ => rfl) : mo_Sim 11 67 (ma_getf 1 3 70)) (mt_leaf (ms_ild (e := (.iload_n 2, 71, 0, 0, 0)) rfl (fun _ _ _ => rfl) : mo_Sim 11 70 (ma_load 0 2 71)) (mt_leaf (ms_ild (e := (.iload 4, 73, 0, 0, 0)) rfl (fun _ _ _ => rfl) : mo_Sim 11 71 (ma_load 0 4 73)) (mt_none))))
set_option maxRecDepth 100000 in
theorem smt11_21 (k : Nat) : ∀ f, mt11_21 k = some f → mo_Sim 11 k f := mt_node (smt11_22 k) (smt11_23 k)
set_option maxRecDepth 100000 in
theorem smt11_17 (k : Nat) : ∀ f, mt11_17 k = some f → mo_Sim 11 k f := mt_node (smt11_18 k) (smt11_21 k)
set_option maxRecDepth 100000 in
theorem smt11_26 (k : Nat) : ∀ f, mt11_26 k = some f → mo_Sim 11 k f := mt_leaf (ms_iast (e := (.iastore, 74, 0, 0, 0)) rfl rfl (fun _ _ _ => rfl) : mo_Sim 11 73 (ma_ast 13 0 73 74)) (mt_leaf (ms_ald (e := (.aload_n 0, 75, 0, 0, 0)) rfl (fun _ _ _ => rfl) : mo_Sim 11 74 (ma_lda 0 75)) (mt_leaf (ms_getf (e := (.getfield 25, 78, 1, 4, 130)) rfl (fun _ _ _ => rfl) : mo_Sim 11 75 (ma_getf 1 4 78)) (mt_none)))
set_option maxRecDepth 100000 in
theorem smt11_27 (k : Nat) : ∀ f, mt11_27 k = some f → mo_Sim 11 k f := mt_leaf (ms_ild (e := (.iload_n 2, 79, 0, 0, 0)) rfl (fun _ _ _ => rfl) : mo_Sim 11 78 (ma_load 0 2 79)) (mt_leaf (ms_ild (e := (.iload 5, 81, 0, 0, 0)) rfl (fun _ _ _ => rfl) : mo_Sim 11 79 (ma_load 0 5 81)) (mt_leaf (ms_iast (e := (.iastore, 82, 0, 0, 0)) rfl rfl (fun _ _ _ => rfl) : mo_Sim 11 81 (ma_ast 13 0 81 82)) (mt_leaf (ms_iinc (e := (.iinc 2 1, 85, 0, 0, 0)) rfl (fun _ _ _ => rfl) (by decide) : mo_Sim 11 82 (ma_iinc 2 (.ofNat 1) 82 85)) (mt_none))))
set_option maxRecDepth 100000 in
theorem smt11_25 (k : Nat) : ∀ f, mt11_25 k = some f → mo_Sim 11 k f := mt_node (smt11_26 k) (smt11_27 k)
set_option maxRecDepth 100000 in
theorem smt11_29 (k : Nat) : ∀ f, mt11_29 k = some f → mo_Sim 11 k f := mt_leaf (ms_iinc (e := (.iinc 5 1, 88, 0, 0, 0)) rfl (fun _ _ _ => rfl) (by decide) : mo_Sim 11 85 (ma_iinc 5 (.ofNat 1) 85 88)) (mt_leaf (ms_goto (e := (.goto (-38), 91, 50, 0, 0)) rfl (fun _ _ _ => rfl) : mo_Sim 11 88 (ma_goto 50)) (mt_leaf (ms_iinc (e := (.iinc 4 1, 94, 0, 0, 0)) rfl (fun _ _ _ => rfl) (by decide) : mo_Sim 11 91 (ma_iinc 4 (.ofNat 1) 91 94)) (mt_none)))
set_option maxRecDepth 100000 in
theorem smt11_30 (k : Nat) : ∀ f, mt11_30 k = some f → mo_Sim 11 k f := mt_leaf (ms_goto (e := (.goto (-56), 97, 38, 0, 0)) rfl (fun _ _ _ => rfl) : mo_Sim 11 94 (ma_goto 38)) (mt_leaf (ms_iinc (e := (.iinc 3 1, 100, 0, 0, 0)) rfl (fun _ _ _ => rfl) (by decide) : mo_Sim 11 97 (ma_iinc 3 (.ofNat 1) 97 100)) (mt_leaf (ms_goto (e := (.goto (-73), 103, 27, 0, 0)) rfl (fun _ _ _ => rfl) : mo_Sim 11 100 (ma_goto 27)) (mt_leaf (ms_retv (e := (.return_, 104, 0, 0, 0)) rfl rfl (fun _ _ _ => rfl) : mo_Sim 11 103 (ma_retv)) (mt_none))))
set_option maxRecDepth 100000 in
theorem smt11_28 (k : Nat) : ∀ f, mt11_28 k = some f → mo_Sim 11 k f := mt_node (smt11_29 k) (smt11_30 k)
set_option maxRecDepth 100000 in
theorem smt11_24 (k : Nat) : ∀ f, mt11_24 k = some f → mo_Sim 11 k f := mt_node (smt11_25 k) (smt11_28 k)
set_option maxRecDepth 100000 in
theorem smt11_16 (k : Nat) : ∀ f, mt11_16 k = some f → mo_Sim 11 k f := mt_node (smt11_17 k) (smt11_24 k)
set_option maxRecDepth 100000 in
theorem smt11_0 (k : Nat) : ∀ f, mt11_0 k = some f → mo_Sim 11 k f := mt_node (smt11_1 k) (smt11_16 k)
set_option maxRecDepth 100000 in
theorem smt19_2 (k : Nat) : ∀ f, mt19_2 k = some f → mo_Sim 19 k f := mt_leaf (ms_ald (e := (.aload_n 0, 1, 0, 0, 0)) rfl (fun _ _ _ => rfl) : mo_Sim 19 0 (ma_lda 0 1)) (mt_leaf (ms_obj (e := (.invokespecial 3, 4, 0, 4, 313)) rfl (fun _ _ _ => rfl) : mo_Sim 19 1 (ma_obj 4)) (mt_none))
set_option maxRecDepth 100000 in
theorem smt19_3 (k : Nat) : ∀ f, mt19_3 k = some f → mo_Sim 19 k f := mt_leaf (ms_ald (e := (.aload_n 0, 5, 0, 0, 0)) rfl (fun _ _ _ => rfl) : mo_Sim 19 4 (ma_lda 0 5)) (mt_leaf (ms_pushi (e := (.bipush 27, 7, 0, 0, 0)) rfl (fun _ _ _ => rfl) (by decide) : mo_Sim 19 5 (ma_push (ma_ci (.ofNat 27)) 7)) (mt_leaf (ms_newaI (e := (.newarray .int, 9, 0, 0, 0)) rfl rfl (fun _ _ _ => rfl) : mo_Sim 19 7 (ma_newa 13 (ma_ci (.ofNat 0)) 9)) (mt_none)))
set_option maxRecDepth 100000 in
theorem smt19_1 (k : Nat) : ∀ f, mt19_1 k = some f → mo_Sim 19 k f := mt_node (smt19_2 k) (smt19_3 k)
set_option maxRecDepth 100000 in
theorem smt19_5 (k : Nat) : ∀ f, mt19_5 k = some f → mo_Sim 19 k f := mt_leaf (ms_putf (e := (.putfield 9, 12, 2, 4, 321)) rfl rfl (fun _ _ _ => rfl) (Or.inr (Or.inr (Or.inl ⟨rfl, Or.inr ⟨_, rfl⟩⟩))) : mo_Sim 19 9 (ma_putf 2 4 2 12)) (mt_leaf (ms_ald (e := (.aload_n 0, 13, 0, 0, 0)) rfl (fun _ _ _ => rfl) : mo_Sim 19 12 (ma_lda 0 13)) (mt_none))
set_option maxRecDepth 100000 in
theorem smt19_6 (k : Nat) : ∀ f, mt19_6 k = some f → mo_Sim 19 k f := mt_leaf (ms_pushi (e := (.iconst 2, 14, 0, 0, 0)) rfl (fun _ _ _ => rfl) (by decide) : mo_Sim 19 13 (ma_push (ma_ci (.ofNat 2)) 14)) (mt_leaf (ms_putf (e := (.putfield 15, 17, 2, 5, 322)) rfl rfl (fun _ _ _ => rfl) (Or.inl ⟨rfl, rfl⟩) : mo_Sim 19 14 (ma_putf 2 5 0 17)) (mt_leaf (ms_retv (e := (.return_, 18, 0, 0, 0)) rfl rfl (fun _ _ _ => rfl) : mo_Sim 19 17 (ma_retv)) (mt_none)))
set_option maxRecDepth 100000 in
theorem smt19_4 (k : Nat) : ∀ f, mt19_4 k = some f → mo_Sim 19 k f := mt_node (smt19_5 k) (smt19_6 k)
set_option maxRecDepth 100000 in
theorem smt19_0 (k : Nat) : ∀ f, mt19_0 k = some f → mo_Sim 19 k f := mt_node (smt19_1 k) (smt19_4 k)
set_option maxRecDepth 100000 in
theorem smt30_2 (k : Nat) : ∀ f, mt30_2 k = some f → mo_Sim 30 k f := mt_leaf (ms_ald (e := (.aload_n 0, 1, 0, 0, 0)) rfl (fun _ _ _ => rfl) : mo_Sim 30 0 (ma_lda 0 1)) (mt_leaf (ms_obj (e := (.invokespecial 3, 4, 0, 4, 341)) rfl (fun _ _ _ => rfl) : mo_Sim 30 1 (ma_obj 4)) (mt_leaf (ms_ald (e := (.aload_n 0, 5, 0, 0, 0)) rfl (fun _ _ _ => rfl) : mo_Sim 30 4 (ma_lda 0 5)) (mt_none)))
set_option maxRecDepth 100000 in
theorem smt30_3 (k : Nat) : ∀ f, mt30_3 k = some f → mo_Sim 30 k f := mt_leaf (ms_ild (e := (.iload_n 1, 6, 0, 0, 0)) rfl (fun _ _ _ => rfl) : mo_Sim 30 5 (ma_load 0 1 6)) (mt_leaf (ms_pushi (e := (.iconst 0, 7, 0, 0, 0)) rfl (fun _ _ _ => rfl) (by decide) : mo_Sim 30 6 (ma_push (ma_ci (.ofNat 0)) 7)) (mt_leaf (ms_invS (e := (.invokestatic 9, 10, 205, 1, 342)) rfl rfl (fun _ _ _ => rfl) rfl rfl : mo_Sim 30 7 (ma_inv 205 2 2 20 10)) (mt_none)))
set_option maxRecDepth 100000 in
theorem smt30_1 (k : Nat) : ∀ f, mt30_1 k = some f → mo_Sim 30 k f := mt_node (smt30_2 k) (smt30_3 k)
set_option maxRecDepth 100000 in
theorem smt30_5 (k : Nat) : ∀ f, mt30_5 k = some f → mo_Sim 30 k f := mt_leaf (ms_pushi (e := (.bipush 64, 12, 0, 0, 0)) rfl (fun _ _ _ => rfl) (by decide) : mo_Sim 30 10 (ma_push (ma_ci (.ofNat 64)) 12)) (mt_leaf (ms_id (e := (.idiv, 13, 0, 0, 0)) rfl (fun _ _ _ => rfl) hf_div : mo_Sim 30 12 (ma_i2 ma_fdiv 12 13)) (mt_leaf (ms_pushi (e := (.iconst 1, 14, 0, 0, 0)) rfl (fun _ _ _ => rfl) (by decide) : mo_Sim 30 13 (ma_push (ma_ci (.ofNat 1)) 14)) (mt_none)))
set_option maxRecDepth 100000 in
theorem smt30_6 (k : Nat) : ∀ f, mt30_6 k = some f → mo_Sim 30 k f := mt_leaf (ms_iadd (e := (.iadd, 15, 0, 0, 0)) rfl (fun _ _ _ => rfl) : mo_Sim 30 14 (ma_iadd 14 15)) (mt_leaf (ms_newaL (e := (.newarray .long, 17, 0, 0, 0)) rfl rfl (fun _ _ _ => rfl) : mo_Sim 30 15 (ma_newa 14 (ma_cl (.ofNat 0)) 17)) (mt_leaf (ms_putf (e := (.putfield 15, 20, 3, 0, 345)) rfl rfl (fun _ _ _ => rfl) (Or.inr (Or.inr (Or.inl ⟨rfl, Or.inr ⟨_, rfl⟩⟩))) : mo_Sim 30 17 (ma_putf 3 0 2 20)) (mt_leaf (ms_retv (e := (.return_, 21, 0, 0, 0)) rfl rfl (fun _ _ _ => rfl) : mo_Sim 30 20 (ma_retv)) (mt_none))))
set_option maxRecDepth 100000 in
theorem smt30_4 (k : Nat) : ∀ f, mt30_4 k = some f → mo_Sim 30 k f := mt_node (smt30_5 k) (smt30_6 k)
set_option maxRecDepth 100000 in
theorem smt30_0 (k : Nat) : ∀ f, mt30_0 k = some f → mo_Sim 30 k f := mt_node (smt30_1 k) (smt30_4 k)
set_option maxRecDepth 100000 in
theorem smt35_1 (k : Nat) : ∀ f, mt35_1 k = some f → mo_Sim 35 k f := mt_leaf (ms_ald (e := (.aload_n 0, 1, 0, 0, 0)) rfl (fun _ _ _ => rfl) : mo_Sim 35 0 (ma_lda 0 1)) (mt_leaf (ms_obj (e := (.invokespecial 3, 4, 0, 4, 357)) rfl (fun _ _ _ => rfl) : mo_Sim 35 1 (ma_obj 4)) (mt_leaf (ms_ald (e := (.aload_n 0, 5, 0, 0, 0)) rfl (fun _ _ _ => rfl) : mo_Sim 35 4 (ma_lda 0 5)) (mt_none)))
set_option maxRecDepth 100000 in
theorem smt35_2 (k : Nat) : ∀ f, mt35_2 k = some f → mo_Sim 35 k f := mt_leaf (ms_pushi (e := (.bipush 27, 7, 0, 0, 0)) rfl (fun _ _ _ => rfl) (by decide) : mo_Sim 35 5 (ma_push (ma_ci (.ofNat 27)) 7)) (mt_leaf (ms_newaI (e := (.newarray .int, 9, 0, 0, 0)) rfl rfl (fun _ _ _ => rfl) : mo_Sim 35 7 (ma_newa 13 (ma_ci (.ofNat 0)) 9)) (mt_leaf (ms_putf (e := (.putfield 9, 12, 4, 4, 368)) rfl rfl (fun _ _ _ => rfl) (Or.inr (Or.inr (Or.inl ⟨rfl, Or.inr ⟨_, rfl⟩⟩))) : mo_Sim 35 9 (ma_putf 4 4 2 12)) (mt_leaf (ms_retv (e := (.return_, 13, 0, 0, 0)) rfl rfl (fun _ _ _ => rfl) : mo_Sim 35 12 (ma_retv)) (mt_none))))
set_option maxRecDepth 100000 in
theorem smt35_0 (k : Nat) : ∀ f, mt35_0 k = some f → mo_Sim 35 k f := mt_node (smt35_1 k) (smt35_2 k)
set_option maxRecDepth 100000 in
theorem smt43_1 (k : Nat) : ∀ f, mt43_1 k = some f → mo_Sim 43 k f := mt_leaf (ms_ald (e := (.aload_n 0, 1, 0, 0, 0)) rfl (fun _ _ _ => rfl) : mo_Sim 43 0 (ma_lda 0 1)) (mt_leaf (ms_obj (e := (.invokespecial 3, 4, 0, 4, 188)) rfl (fun _ _ _ => rfl) : mo_Sim 43 1 (ma_obj 4)) (mt_leaf (ms_ald (e := (.aload_n 0, 5, 0, 0, 0)) rfl (fun _ _ _ => rfl) : mo_Sim 43 4 (ma_lda 0 5)) (mt_none)))
set_option maxRecDepth 100000 in
theorem smt43_2 (k : Nat) : ∀ f, mt43_2 k = some f → mo_Sim 43 k f := mt_leaf (ms_pushi (e := (.bipush 27, 7, 0, 0, 0)) rfl (fun _ _ _ => rfl) (by decide) : mo_Sim 43 5 (ma_push (ma_ci (.ofNat 27)) 7)) (mt_leaf (ms_newaI (e := (.newarray .int, 9, 0, 0, 0)) rfl rfl (fun _ _ _ => rfl) : mo_Sim 43 7 (ma_newa 13 (ma_ci (.ofNat 0)) 9)) (mt_leaf (ms_putf (e := (.putfield 9, 12, 5, 0, 189)) rfl rfl (fun _ _ _ => rfl) (Or.inr (Or.inr (Or.inl ⟨rfl, Or.inr ⟨_, rfl⟩⟩))) : mo_Sim 43 9 (ma_putf 5 0 2 12)) (mt_leaf (ms_retv (e := (.return_, 13, 0, 0, 0)) rfl rfl (fun _ _ _ => rfl) : mo_Sim 43 12 (ma_retv)) (mt_none))))
set_option maxRecDepth 100000 in
theorem smt43_0 (k : Nat) : ∀ f, mt43_0 k = some f → mo_Sim 43 k f := mt_node (smt43_1 k) (smt43_2 k)
set_option maxRecDepth 100000 in
theorem smt44_2 (k : Nat) : ∀ f, mt44_2 k = some f → mo_Sim 44 k f := mt_leaf (ms_ald (e := (.aload_n 0, 1, 0, 0, 0)) rfl (fun _ _ _ => rfl) : mo_Sim 44 0 (ma_lda 0 1)) (mt_leaf (ms_ild (e := (.iload_n 1, 2, 0, 0, 0)) rfl (fun _ _ _ => rfl) : mo_Sim 44 1 (ma_load 0 1 2)) (mt_leaf (ms_putf (e := (.putfield 15, 5, 5, 1, 192)) rfl rfl (fun _ _ _ => rfl) (Or.inl ⟨rfl, rfl⟩) : mo_Sim 44 2 (ma_putf 5 1 0 5)) (mt_none)))
set_option maxRecDepth 100000 in
theorem smt44_3 (k : Nat) : ∀ f, mt44_3 k = some f → mo_Sim 44 k f := mt_leaf (ms_ald (e := (.aload_n 0, 6, 0, 0, 0)) rfl (fun _ _ _ => rfl) : mo_Sim 44 5 (ma_lda 0 6)) (mt_leaf (ms_ild (e := (.iload_n 2, 7, 0, 0, 0)) rfl (fun _ _ _ => rfl) : mo_Sim 44 6 (ma_load 0 2 7)) (mt_leaf (ms_putf (e := (.putfield 19, 10, 5, 2, 193)) rfl rfl (fun _ _ _ => rfl) (Or.inl ⟨rfl, rfl⟩) : mo_Sim 44 7 (ma_putf 5 2 0 10)) (mt_leaf (ms_ald (e := (.aload_n 0, 11, 0, 0, 0)) rfl (fun _ _ _ => rfl) : mo_Sim 44 10 (ma_lda 0 11)) (mt_none))))
set_option maxRecDepth 100000 in
theorem smt44_1 (k : Nat) : ∀ f, mt44_1 k = some f → mo_Sim 44 k f := mt_node (smt44_2 k) (smt44_3 k)
set_option maxRecDepth 100000 in
theorem smt44_5 (k : Nat) : ∀ f, mt44_5 k = some f → mo_Sim 44 k f := mt_leaf (ms_ild (e := (.iload_n 3, 12, 0, 0, 0)) rfl (fun _ _ _ => rfl) : mo_Sim 44 11 (ma_load 0 3 12)) (mt_leaf (ms_putf (e := (.putfield 22, 15, 5, 3, 194)) rfl rfl (fun _ _ _ => rfl) (Or.inl ⟨rfl, rfl⟩) : mo_Sim 44 12 (ma_putf 5 3 0 15)) (mt_leaf (ms_ald (e := (.aload_n 0, 16, 0, 0, 0)) rfl (fun _ _ _ => rfl) : mo_Sim 44 15 (ma_lda 0 16)) (mt_none)))
set_option maxRecDepth 100000 in
theorem smt44_6 (k : Nat) : ∀ f, mt44_6 k = some f → mo_Sim 44 k f := mt_leaf (ms_getf (e := (.getfield 9, 19, 5, 0, 189)) rfl (fun _ _ _ => rfl) : mo_Sim 44 16 (ma_getf 5 0 19)) (mt_leaf (ms_pushi (e := (.iconst 0, 20, 0, 0, 0)) rfl (fun _ _ _ => rfl) (by decide) : mo_Sim 44 19 (ma_push (ma_ci (.ofNat 0)) 20)) (mt_leaf (ms_invS (e := (.invokestatic 25, 23, 208, 1, 451)) rfl rfl (fun _ _ _ => rfl) rfl rfl : mo_Sim 44 20 (ma_inv 208 2 4 20 23)) (mt_leaf (ms_retv (e := (.return_, 24, 0, 0, 0)) rfl rfl (fun _ _ _ => rfl) : mo_Sim 44 23 (ma_retv)) (mt_none))))
set_option maxRecDepth 100000 in
theorem smt44_4 (k : Nat) : ∀ f, mt44_4 k = some f → mo_Sim 44 k f := mt_node (smt44_5 k) (smt44_6 k)
set_option maxRecDepth 100000 in
theorem smt44_0 (k : Nat) : ∀ f, mt44_0 k = some f → mo_Sim 44 k f := mt_node (smt44_1 k) (smt44_4 k)
set_option maxRecDepth 100000 in
theorem smt46_2 (k : Nat) : ∀ f, mt46_2 k = some f → mo_Sim 46 k f := mt_leaf (ms_ald (e := (.aload_n 0, 1, 0, 0, 0)) rfl (fun _ _ _ => rfl) : mo_Sim 46 0 (ma_lda 0 1)) (mt_leaf (ms_obj (e := (.invokespecial 3, 4, 0, 4, 414)) rfl (fun _ _ _ => rfl) : mo_Sim 46 1 (ma_obj 4)) (mt_none))
set_option maxRecDepth 100000 in
theorem smt46_3 (k : Nat) : ∀ f, mt46_3 k = some f → mo_Sim 46 k f := mt_leaf (ms_ald (e := (.aload_n 0, 5, 0, 0, 0)) rfl (fun _ _ _ => rfl) : mo_Sim 46 4 (ma_lda 0 5)) (mt_leaf (ms_pushi (e := (.sipush 256, 8, 0, 0, 0)) rfl (fun _ _ _ => rfl) (by decide) : mo_Sim 46 5 (ma_push (ma_ci (.ofNat 256)) 8)) (mt_leaf (ms_newaI (e := (.newarray .int, 10, 0, 0, 0)) rfl rfl (fun _ _ _ => rfl) : mo_Sim 46 8 (ma_newa 13 (ma_ci (.ofNat 0)) 10)) (mt_none)))
set_option maxRecDepth 100000 in
theorem smt46_1 (k : Nat) : ∀ f, mt46_1 k = some f → mo_Sim 46 k f := mt_node (smt46_2 k) (smt46_3 k)
set_option maxRecDepth 100000 in
theorem smt46_5 (k : Nat) : ∀ f, mt46_5 k = some f → mo_Sim 46 k f := mt_leaf (ms_putf (e := (.putfield 11, 13, 6, 3, 422)) rfl rfl (fun _ _ _ => rfl) (Or.inr (Or.inr (Or.inl ⟨rfl, Or.inr ⟨_, rfl⟩⟩))) : mo_Sim 46 10 (ma_putf 6 3 2 13)) (mt_leaf (ms_ald (e := (.aload_n 0, 14, 0, 0, 0)) rfl (fun _ _ _ => rfl) : mo_Sim 46 13 (ma_lda 0 14)) (mt_leaf (ms_pushi (e := (.sipush 256, 17, 0, 0, 0)) rfl (fun _ _ _ => rfl) (by decide) : mo_Sim 46 14 (ma_push (ma_ci (.ofNat 256)) 17)) (mt_none)))
set_option maxRecDepth 100000 in
theorem smt46_6 (k : Nat) : ∀ f, mt46_6 k = some f → mo_Sim 46 k f := mt_leaf (ms_newaI (e := (.newarray .int, 19, 0, 0, 0)) rfl rfl (fun _ _ _ => rfl) : mo_Sim 46 17 (ma_newa 13 (ma_ci (.ofNat 0)) 19)) (mt_leaf (ms_putf (e := (.putfield 17, 22, 6, 4, 425)) rfl rfl (fun _ _ _ => rfl) (Or.inr (Or.inr (Or.inl ⟨rfl, Or.inr ⟨_, rfl⟩⟩))) : mo_Sim 46 19 (ma_putf 6 4 2 22)) (mt_leaf (ms_retv (e := (.return_, 23, 0, 0, 0)) rfl rfl (fun _ _ _ => rfl) : mo_Sim 46 22 (ma_retv)) (mt_none)))
set_option maxRecDepth 100000 in
theorem smt46_4 (k : Nat) : ∀ f, mt46_4 k = some f → mo_Sim 46 k f := mt_node (smt46_5 k) (smt46_6 k)
set_option maxRecDepth 100000 in
theorem smt46_0 (k : Nat) : ∀ f, mt46_0 k = some f → mo_Sim 46 k f := mt_node (smt46_1 k) (smt46_4 k)
set_option maxRecDepth 100000 in
theorem smt48_4 (k : Nat) : ∀ f, mt48_4 k = some f → mo_Sim 48 k f := mt_leaf (ms_ald (e := (.aload_n 0, 1, 0, 0, 0)) rfl (fun _ _ _ => rfl) : mo_Sim 48 0 (ma_lda 0 1)) (mt_leaf (ms_obj (e := (.invokespecial 5, 4, 0, 4, 180)) rfl (fun _ _ _ => rfl) : mo_Sim 48 1 (ma_obj 4)) (mt_none))
set_option maxRecDepth 100000 in
theorem smt48_5 (k : Nat) : ∀ f, mt48_5 k = some f → mo_Sim 48 k f := mt_leaf (ms_ald (e := (.aload_n 0, 5, 0, 0, 0)) rfl (fun _ _ _ => rfl) : mo_Sim 48 4 (ma_lda 0 5)) (mt_leaf (ms_newo (e := (.new 11, 8, 1, 0, 181)) rfl rfl (fun _ _ _ => rfl) rfl mo_bl_1 : mo_Sim 48 5 (ma_new (1, .inl [ma_ci (.ofNat 0), ma_ci (.ofNat 0), ma_null, ma_null, ma_null]) 8)) (mt_leaf (ms_dup (e := (.dup, 9, 0, 0, 0)) rfl (fun _ _ _ => rfl) : mo_Sim 48 8 (ma_dup 9)) (mt_none)))
set_option maxRecDepth 100000 in
theorem smt48_3 (k : Nat) : ∀ f, mt48_3 k = some f → mo_Sim 48 k f := mt_node (smt48_4 k) (smt48_5 k)
set_option maxRecDepth 100000 in
theorem smt48_7 (k : Nat) : ∀ f, mt48_7 k = some f → mo_Sim 48 k f := mt_leaf (ms_invI (p := 0) (e := (.invokespecial 13, 12, 10, 3, 182)) rfl rfl (fun _ _ _ => rfl) rfl rfl : mo_Sim 48 9 (ma_inv 10 1 1 21 12)) (mt_leaf (ms_putf (e := (.putfield 14, 15, 7, 0, 204)) rfl rfl (fun _ _ _ => rfl) (Or.inr (Or.inr (Or.inl ⟨rfl, Or.inl ⟨_, rfl⟩⟩))) : mo_Sim 48 12 (ma_putf 7 0 2 15)) (mt_leaf (ms_ald (e := (.aload_n 0, 16, 0, 0, 0)) rfl (fun _ _ _ => rfl) : mo_Sim 48 15 (ma_lda 0 16)) (mt_none)))
set_option maxRecDepth 100000 in
theorem smt48_8 (k : Nat) : ∀ f, mt48_8 k = some f → mo_Sim 48 k f := mt_leaf (ms_pushi (e := (.sipush 257, 19, 0, 0, 0)) rfl (fun _ _ _ => rfl) (by decide) : mo_Sim 48 16 (ma_push (ma_ci (.ofNat 257)) 19)) (mt_leaf (ms_newaI (e := (.newarray .int, 21, 0, 0, 0)) rfl rfl (fun _ _ _ => rfl) : mo_Sim 48 19 (ma_newa 13 (ma_ci (.ofNat 0)) 21)) (mt_leaf (ms_putf (e := (.putfield 18, 24, 7, 1, 205)) rfl rfl (fun _ _ _ => rfl) (Or.inr (Or.inr (Or.inl ⟨rfl, Or.inr ⟨_, rfl⟩⟩))) : mo_Sim 48 21 (ma_putf 7 1 2 24)) (mt_none)))
set_option maxRecDepth 100000 in
theorem smt48_6 (k : Nat) : ∀ f, mt48_6 k = some f → mo_Sim 48 k f := mt_node (smt48_7 k) (smt48_8 k)
set_option maxRecDepth 100000 in
theorem smt48_2 (k : Nat) : ∀ f, mt48_2 k = some f → mo_Sim 48 k f := mt_node (smt48_3 k) (smt48_6 k)
set_option maxRecDepth 100000 in
theorem smt48_11 (k : Nat) : ∀ f, mt48_11 k = some f → mo_Sim 48 k f := mt_leaf (ms_ald (e := (.aload_n 0, 25, 0, 0, 0)) rfl (fun _ _ _ => rfl) : mo_Sim 48 24 (ma_lda 0 25)) (mt_leaf (ms_pushi (e := (.sipush 257, 28, 0, 0, 0)) rfl (fun _ _ _ => rfl) (by decide) : mo_Sim 48 25 (ma_push (ma_ci (.ofNat 257)) 28)) (mt_leaf (ms_newaI (e := (.newarray .int, 30, 0, 0, 0)) rfl rfl (fun _ _ _ => rfl) : mo_Sim 48 28 (ma_newa 13 (ma_ci (.ofNat 0)) 30)) (mt_none)))
set_option maxRecDepth 100000 in
theorem smt48_12 (k : Nat) : ∀ f, mt48_12 k = some f → mo_Sim 48 k f := mt_leaf (ms_putf (e := (.putfield 22, 33, 7, 2, 206)) rfl rfl (fun _ _ _ => rfl) (Or.inr (Or.inr (Or.inl ⟨rfl, Or.inr ⟨_, rfl⟩⟩))) : mo_Sim 48 30 (ma_putf 7 2 2 33)) (mt_leaf (ms_ald (e := (.aload_n 0, 34, 0, 0, 0)) rfl (fun _ _ _ => rfl) : mo_Sim 48 33 (ma_lda 0 34)) (mt_leaf (ms_pushi (e := (.sipush 257, 37, 0, 0, 0)) rfl (fun _ _ _ => rfl) (by decide) : mo_Sim 48 34 (ma_push (ma_ci (.ofNat 257)) 37)) (mt_none)))
set_option maxRecDepth 100000 in
theorem smt48_10 (k : Nat) : ∀ f, mt48_10 k = some f → mo_Sim 48 k f := mt_node (smt48_11 k) (smt48_12 k)
set_option maxRecDepth 100000 in
theorem smt48_14 (k : Nat) : ∀ f, mt48_14 k = some f → mo_Sim 48 k f := mt_leaf (ms_newaI (e := (.newarray .int, 39, 0, 0, 0)) rfl rfl (fun _ _ _ => rfl) : mo_Sim 48 37 (ma_newa 13 (ma_ci (.ofNat 0)) 39)) (mt_leaf (ms_putf (e := (.putfield 25, 42, 7, 3, 207)) rfl rfl (fun _ _ _ => rfl) (Or.inr (Or.inr (Or.inl ⟨rfl, Or.inr ⟨_, rfl⟩⟩))) : mo_Sim 48 39 (ma_putf 7 3 2 42)) (mt_leaf (ms_ald (e := (.aload_n 0, 43, 0, 0, 0)) rfl (fun _ _ _ => rfl) : mo_Sim 48 42 (ma_lda 0 43)) (mt_none)))
set_option maxRecDepth 100000 in
theorem smt48_15 (k : Nat) : ∀ f, mt48_15 k = some f → mo_Sim 48 k f := mt_leaf (ms_pushi (e := (.sipush 257, 46, 0, 0, 0)) rfl (fun _ _ _ => rfl) (by decide) : mo_Sim 48 43 (ma_push (ma_ci (.ofNat 257)) 46)) (mt_leaf (ms_newaI (e := (.newarray .int, 48, 0, 0, 0)) rfl rfl (fun _ _ _ => rfl) : mo_Sim 48 46 (ma_newa 13 (ma_ci (.ofNat 0)) 48)) (mt_leaf (ms_putf (e := (.putfield 28, 51, 7, 4, 208)) rfl rfl (fun _ _ _ => rfl) (Or.inr (Or.inr (Or.inl ⟨rfl, Or.inr ⟨_, rfl⟩⟩))) : mo_Sim 48 48 (ma_putf 7 4 2 51)) (mt_none)))
set_option maxRecDepth 100000 in
theorem smt48_13 (k : Nat) : ∀ f, mt48_13 k = some f → mo_Sim 48 k f := mt_node (smt48_14 k) (smt48_15 k)
set_option maxRecDepth 100000 in
theorem smt48_9 (k : Nat) : ∀ f, mt48_9 k = some f → mo_Sim 48 k f := mt_node (smt48_10 k) (smt48_13 k)
set_option maxRecDepth 100000 in
theorem smt48_1 (k : Nat) : ∀ f, mt48_1 k = some f → mo_Sim 48 k f := mt_node (smt48_2 k) (smt48_9 k)
set_option maxRecDepth 100000 in
theorem smt48_19 (k : Nat) : ∀ f, mt48_19 k = some f → mo_Sim 48 k f := mt_leaf (ms_ald (e := (.aload_n 0, 52, 0, 0, 0)) rfl (fun _ _ _ => rfl) : mo_Sim 48 51 (ma_lda 0 52)) (mt_leaf (ms_pushi (e := (.sipush 257, 55, 0, 0, 0)) rfl (fun _ _ _ => rfl) (by decide) : mo_Sim 48 52 (ma_push (ma_ci (.ofNat 257)) 55)) (mt_leaf (ms_newaI (e := (.newarray .int, 57, 0, 0, 0)) rfl rfl (fun _ _ _ => rfl) : mo_Sim 48 55 (ma_newa 13 (ma_ci (.ofNat 0)) 57)) (mt_none)))
set_option maxRecDepth 100000 in
theorem smt48_20 (k : Nat) : ∀ f, mt48_20 k = some f → mo_Sim 48 k f := mt_leaf (ms_putf (e := (.putfield 31, 60, 7, 5, 209)) rfl rfl (fun _ _ _ => rfl) (Or.inr (Or.inr (Or.inl ⟨rfl, Or.inr ⟨_, rfl⟩⟩))) : mo_Sim 48 57 (ma_putf 7 5 2 60)) (mt_leaf (ms_ald (e := (.aload_n 0, 61, 0, 0, 0)) rfl (fun _ _ _ => rfl) : mo_Sim 48 60 (ma_lda 0 61)) (mt_leaf (ms_newo (e := (.new 34, 64, 5, 0, 183)) rfl rfl (fun _ _ _ => rfl) rfl mo_bl_5 : mo_Sim 48 61 (ma_new (5, .inl [ma_null, ma_ci (.ofNat 0), ma_ci (.ofNat 0), ma_ci (.ofNat 0)]) 64)) (mt_none)))
set_option maxRecDepth 100000 in
theorem smt48_18 (k : Nat) : ∀ f, mt48_18 k = some f → mo_Sim 48 k f := mt_node (smt48_19 k) (smt48_20 k)
set_option maxRecDepth 100000 in
theorem smt48_22 (k : Nat) : ∀ f, mt48_22 k = some f → mo_Sim 48 k f := mt_leaf (ms_dup (e := (.dup, 65, 0, 0, 0)) rfl (fun _ _ _ => rfl) : mo_Sim 48 64 (ma_dup 65)) (mt_leaf (ms_invI (p := 0) (e := (.invokespecial 36, 68, 43, 3, 185)) rfl rfl (fun _ _ _ => rfl) rfl rfl : mo_Sim 48 65 (ma_inv 43 1 1 21 68)) (mt_leaf (ms_putf (e := (.putfield 37, 71, 7, 6, 210)) rfl rfl (fun _ _ _ => rfl) (Or.inr (Or.inr (Or.inl ⟨rfl, Or.inl ⟨_, rfl⟩⟩))) : mo_Sim 48 68 (ma_putf 7 6 2 71)) (mt_none)))
set_option maxRecDepth 100000 in
theorem smt48_23 (k : Nat) : ∀ f, mt48_23 k = some f → mo_Sim 48 k f := mt_leaf (ms_ald (e := (.aload_n 0, 72, 0, 0, 0)) rfl (fun _ _ _ => rfl) : mo_Sim 48 71 (ma_lda 0 72)) (mt_leaf (ms_newo (e := (.new 34, 75, 5, 0, 183)) rfl rfl (fun _ _ _ => rfl) rfl mo_bl_5 : mo_Sim 48 72 (ma_new (5, .inl [ma_null, ma_ci (.ofNat 0), ma_ci (.ofNat 0), ma_ci (.ofNat 0)]) 75)) (mt_leaf (ms_dup (e := (.dup, 76, 0, 0, 0)) rfl (fun _ _ _ => rfl) : mo_Sim 48 75 (ma_dup 76)) (mt_none)))
set_option maxRecDepth 100000 in
theorem smt48_21 (k : Nat) : ∀ f, mt48_21 k = some f → mo_Sim 48 k f := mt_node (smt48_22 k) (smt48_23 k)
set_option maxRecDepth 100000 in
theorem smt48_17 (k : Nat) : ∀ f, mt48_17 k = some f → mo_Sim 48 k f := mt_node (smt48_18 k) (smt48_21 k)
set_option maxRecDepth 100000 in
theorem smt48_26 (k : Nat) : ∀ f, mt48_26 k = some f → mo_Sim 48 k f := mt_leaf (ms_invI (p := 0) (e := (.invokespecial 36, 79, 43, 3, 185)) rfl rfl (fun _ _ _ => rfl) rfl rfl : mo_Sim 48 76 (ma_inv 43 1 1 21 79)) (mt_leaf (ms_putf (e := (.putfield 41, 82, 7, 7, 211)) rfl rfl (fun _ _ _ => rfl) (Or.inr (Or.inr (Or.inl ⟨rfl, Or.inl ⟨_, rfl⟩⟩))) : mo_Sim 48 79 (ma_putf 7 7 2 82)) (mt_leaf (ms_ald (e := (.aload_n 0, 83, 0, 0, 0)) rfl (fun _ _ _ => rfl) : mo_Sim 48 82 (ma_lda 0 83)) (mt_none)))
set_option maxRecDepth 100000 in
theorem smt48_27 (k : Nat) : ∀ f, mt48_27 k = some f → mo_Sim 48 k f := mt_leaf (ms_newo (e := (.new 34, 86, 5, 0, 183)) rfl rfl (fun _ _ _ => rfl) rfl mo_bl_5 : mo_Sim 48 83 (ma_new (5, .inl [ma_null, ma_ci (.ofNat 0), ma_ci (.ofNat 0), ma_ci (.ofNat 0)]) 86)) (mt_leaf (ms_dup (e := (.dup, 87, 0, 0, 0)) rfl (fun _ _ _ => rfl) : mo_Sim 48 86 (ma_dup 87)) (mt_leaf (ms_invI (p := 0) (e := (.invokespecial 36, 90, 43, 3, 185)) rfl rfl (fun _ _ _ => rfl) rfl rfl : mo_Sim 48 87 (ma_inv 43 1 1 21 90)) (mt_none)))
set_option maxRecDepth 100000 in
theorem smt48_25 (k : Nat) : ∀ f, mt48_25 k = some f → mo_Sim 48 k f := mt_node (smt48_26 k) (smt48_27 k)
set_option maxRecDepth 100000 in
theorem smt48_29 (k : Nat) : ∀ f, mt48_29 k = some f → mo_Sim 48 k f := mt_leaf (ms_putf (e := (.putfield 44, 93, 7, 8, 212)) rfl rfl (fun _ _ _ => rfl) (Or.inr (Or.inr (Or.inl ⟨rfl, Or.inl ⟨_, rfl⟩⟩))) : mo_Sim 48 90 (ma_putf 7 8 2 93)) (mt_leaf (ms_ald (e := (.aload_n 0, 94, 0, 0, 0)) rfl (fun _ _ _ => rfl) : mo_Sim 48 93 (ma_lda 0 94)) (mt_leaf (ms_pushi (e := (.sipush 256, 97, 0, 0, 0)) rfl (fun _ _ _ => rfl) (by decide) : mo_Sim 48 94 (ma_push (ma_ci (.ofNat 256)) 97)) (mt_none)))
set_option maxRecDepth 100000 in
theorem smt48_30 (k : Nat) : ∀ f, mt48_30 k = some f → mo_Sim 48 k f := mt_leaf (ms_newaI (e := (.newarray .int, 99, 0, 0, 0)) rfl rfl (fun _ _ _ => rfl) : mo_Sim 48 97 (ma_newa 13 (ma_ci (.ofNat 0)) 99)) (mt_leaf (ms_putf (e := (.putfield 47, 102, 7, 9, 213)) rfl rfl (fun _ _ _ => rfl) (Or.inr (Or.inr (Or.inl ⟨rfl, Or.inr ⟨_, rfl⟩⟩))) : mo_Sim 48 99 (ma_putf 7 9 2 102)) (mt_leaf (ms_retv (e := (.return_, 103, 0, 0, 0)) rfl rfl (fun _ _ _ => rfl) : mo_Sim 48 102 (ma_retv)) (mt_none)))
set_option maxRecDepth 100000 in
theorem smt48_28 (k : Nat) : ∀ f, mt48_28 k = some f → mo_Sim 48 k f := mt_node (smt48_29 k) (smt48_30 k)
set_option maxRecDepth 100000 in
theorem smt48_24 (k : Nat) : ∀ f, mt48_24 k = some f → mo_Sim 48 k f := mt_node (smt48_25 k) (smt48_28 k)
set_option maxRecDepth 100000 in
theorem smt48_16 (k : Nat) : ∀ f, mt48_16 k = some f → mo_Sim 48 k f := mt_node (smt48_17 k) (smt48_24 k)
set_option maxRecDepth 100000 in
theorem smt48_0 (k : Nat) : ∀ f, mt48_0 k = some f → mo_Sim 48 k f := mt_node (smt48_1 k) (smt48_16 k)
set_option maxRecDepth 100000 in
theorem smt63_3 (k : Nat) : ∀ f, mt63_3 k = some f → mo_Sim 63 k f := mt_leaf (ms_ald (e := (.aload_n 0, 1, 0, 0, 0)) rfl (fun _ _ _ => rfl) : mo_Sim 63 0 (ma_lda 0 1)) (mt_leaf (ms_obj (e := (.invokespecial 1, 4, 0, 4, 281)) rfl (fun _ _ _ => rfl) : mo_Sim 63 1 (ma_obj 4)) (mt_leaf (ms_ald (e := (.aload_n 0, 5, 0, 0, 0)) rfl (fun _ _ _ => rfl) : mo_Sim 63 4 (ma_lda 0 5)) (mt_none)))
set_option maxRecDepth 100000 in
theorem smt63_4 (k : Nat) : ∀ f, mt63_4 k = some f → mo_Sim 63 k f := mt_leaf (ms_pushi (e := (.bipush 9, 7, 0, 0, 0)) rfl (fun _ _ _ => rfl) (by decide) : mo_Sim 63 5 (ma_push (ma_ci (.ofNat 9)) 7)) (mt_leaf (ms_newaI (e := (.newarray .int, 9, 0, 0, 0)) rfl rfl (fun _ _ _ => rfl) : mo_Sim 63 7 (ma_newa 13 (ma_ci (.ofNat 0)) 9)) (mt_leaf (ms_putf (e := (.putfield 9, 12, 8, 0, 282)) rfl rfl (fun _ _ _ => rfl) (Or.inr (Or.inr (Or.inl ⟨rfl, Or.inr ⟨_, rfl⟩⟩))) : mo_Sim 63 9 (ma_putf 8 0 2 12)) (mt_none)))
set_option maxRecDepth 100000 in
theorem smt63_2 (k : Nat) : ∀ f, mt63_2 k = some f → mo_Sim 63 k f := mt_node (smt63_3 k) (smt63_4 k)
set_option maxRecDepth 100000 in
theorem smt63_6 (k : Nat) : ∀ f, mt63_6 k = some f → mo_Sim 63 k f := mt_leaf (ms_ald (e := (.aload_n 0, 13, 0, 0, 0)) rfl (fun _ _ _ => rfl) : mo_Sim 63 12 (ma_lda 0 13)) (mt_leaf (ms_pushi (e := (.sipush 729, 16, 0, 0, 0)) rfl (fun _ _ _ => rfl) (by decide) : mo_Sim 63 13 (ma_push (ma_ci (.ofNat 729)) 16)) (mt_leaf (ms_newaI (e := (.newarray .int, 18, 0, 0, 0)) rfl rfl (fun _ _ _ => rfl) : mo_Sim 63 16 (ma_newa 13 (ma_ci (.ofNat 0)) 18)) (mt_none)))
set_option maxRecDepth 100000 in
theorem smt63_7 (k : Nat) : ∀ f, mt63_7 k = some f → mo_Sim 63 k f := mt_leaf (ms_putf (e := (.putfield 13, 21, 8, 1, 284)) rfl rfl (fun _ _ _ => rfl) (Or.inr (Or.inr (Or.inl ⟨rfl, Or.inr ⟨_, rfl⟩⟩))) : mo_Sim 63 18 (ma_putf 8 1 2 21)) (mt_leaf (ms_ald (e := (.aload_n 0, 22, 0, 0, 0)) rfl (fun _ _ _ => rfl) : mo_Sim 63 21 (ma_lda 0 22)) (mt_leaf (ms_ald (e := (.aload_n 0, 23, 0, 0, 0)) rfl (fun _ _ _ => rfl) : mo_Sim 63 22 (ma_lda 0 23)) (mt_leaf (ms_getf (e := (.getfield 13, 26, 8, 1, 284)) rfl (fun _ _ _ => rfl) : mo_Sim 63 23 (ma_getf 8 1 26)) (mt_none))))
set_option maxRecDepth 100000 in
theorem smt63_5 (k : Nat) : ∀ f, mt63_5 k = some f → mo_Sim 63 k f := mt_node (smt63_6 k) (smt63_7 k)
set_option maxRecDepth 100000 in
theorem smt63_1 (k : Nat) : ∀ f, mt63_1 k = some f → mo_Sim 63 k f := mt_node (smt63_2 k) (smt63_5 k)
set_option maxRecDepth 100000 in
theorem smt63_10 (k : Nat) : ∀ f, mt63_10 k = some f → mo_Sim 63 k f := mt_leaf (ms_alen (e := (.arraylength, 27, 0, 0, 0)) rfl (fun _ _ _ => rfl) : mo_Sim 63 26 (ma_alen 27)) (mt_leaf (ms_newaI (e := (.newarray .int, 29, 0, 0, 0)) rfl rfl (fun _ _ _ => rfl) : mo_Sim 63 27 (ma_newa 13 (ma_ci (.ofNat 0)) 29)) (mt_leaf (ms_putf (e := (.putfield 16, 32, 8, 2, 285)) rfl rfl (fun _ _ _ => rfl) (Or.inr (Or.inr (Or.inl ⟨rfl, Or.inr ⟨_, rfl⟩⟩))) : mo_Sim 63 29 (ma_putf 8 2 2 32)) (mt_none)))
set_option maxRecDepth 100000 in
theorem smt63_11 (k : Nat) : ∀ f, mt63_11 k = some f → mo_Sim 63 k f := mt_leaf (ms_ald (e := (.aload_n 0, 33, 0, 0, 0)) rfl (fun _ _ _ => rfl) : mo_Sim 63 32 (ma_lda 0 33)) (mt_leaf (ms_ald (e := (.aload_n 0, 34, 0, 0, 0)) rfl (fun _ _ _ => rfl) : mo_Sim 63 33 (ma_lda 0 34)) (mt_leaf (ms_getf (e := (.getfield 13, 37, 8, 1, 284)) rfl (fun _ _ _ => rfl) : mo_Sim 63 34 (ma_getf 8 1 37)) (mt_leaf (ms_alen (e := (.arraylength, 38, 0, 0, 0)) rfl (fun _ _ _ => rfl) : mo_Sim 63 37 (ma_alen 38)) (mt_none))))
set_option maxRecDepth 100000 in
theorem smt63_9 (k : Nat) : ∀ f, mt63_9 k = some f → mo_Sim 63 k f := mt_node (smt63_10 k) (smt63_11 k)
set_option maxRecDepth 100000 in
theorem smt63_13 (k : Nat) : ∀ f, mt63_13 k = some f → mo_Sim 63 k f := mt_leaf (ms_newaI (e := (.newarray .int, 40, 0, 0, 0)) rfl rfl (fun _ _ _ => rfl) : mo_Sim 63 38 (ma_newa 13 (ma_ci (.ofNat 0)) 40)) (mt_leaf (ms_putf (e := (.putfield 19, 43, 8, 3, 286)) rfl rfl (fun _ _ _ => rfl) (Or.inr (Or.inr (Or.inl ⟨rfl, Or.inr ⟨_, rfl⟩⟩))) : mo_Sim 63 40 (ma_putf 8 3 2 43)) (mt_leaf (ms_ald (e := (.aload_n 0, 44, 0, 0, 0)) rfl (fun _ _ _ => rfl) : mo_Sim 63 43 (ma_lda 0 44)) (mt_none)))
set_option maxRecDepth 100000 in
theorem smt63_14 (k : Nat) : ∀ f, mt63_14 k = some f → mo_Sim 63 k f := mt_leaf (ms_pushi (e := (.bipush 10, 46, 0, 0, 0)) rfl (fun _ _ _ => rfl) (by decide) : mo_Sim 63 44 (ma_push (ma_ci (.ofNat 10)) 46)) (mt_leaf (ms_newaI (e := (.newarray .int, 48, 0, 0, 0)) rfl rfl (fun _ _ _ => rfl) : mo_Sim 63 46 (ma_newa 13 (ma_ci (.ofNat 0)) 48)) (mt_leaf (ms_putf (e := (.putfield 22, 51, 8, 4, 287)) rfl rfl (fun _ _ _ => rfl) (Or.inr (Or.inr (Or.inl ⟨rfl, Or.inr ⟨_, rfl⟩⟩))) : mo_Sim 63 48 (ma_putf 8 4 2 51)) (mt_leaf (ms_retv (e := (.return_, 52, 0, 0, 0)) rfl rfl (fun _ _ _ => rfl) : mo_Sim 63 51 (ma_retv)) (mt_none))))
set_option maxRecDepth 100000 in
theorem smt63_12 (k : Nat) : ∀ f, mt63_12 k = some f → mo_Sim 63 k f := mt_node (smt63_13 k) (smt63_14 k)
set_option maxRecDepth 100000 in
theorem smt63_8 (k : Nat) : ∀ f, mt63_8 k = some f → mo_Sim 63 k f := mt_node (smt63_9 k) (smt63_12 k)
set_option maxRecDepth 100000 in
theorem smt63_0 (k : Nat) : ∀ f, mt63_0 k = some f → mo_Sim 63 k f := mt_node (smt63_1 k) (smt63_8 k)
set_option maxRecDepth 100000 in
theorem smt73_3 (k : Nat) : ∀ f, mt73_3 k = some f → mo_Sim 73 k f := mt_leaf (ms_ald (e := (.aload_n 0, 1, 0, 0, 0)) rfl (fun _ _ _ => rfl) : mo_Sim 73 0 (ma_lda 0 1)) (mt_leaf (ms_obj (e := (.invokespecial 3, 4, 0, 4, 246)) rfl (fun _ _ _ => rfl) : mo_Sim 73 1 (ma_obj 4)) (mt_leaf (ms_ald (e := (.aload_n 0, 5, 0, 0, 0)) rfl (fun _ _ _ => rfl) : mo_Sim 73 4 (ma_lda 0 5)) (mt_none)))
set_option maxRecDepth 100000 in
theorem smt73_4 (k : Nat) : ∀ f, mt73_4 k = some f → mo_Sim 73 k f := mt_leaf (ms_pushi (e := (.iconst 1, 6, 0, 0, 0)) rfl (fun _ _ _ => rfl) (by decide) : mo_Sim 73 5 (ma_push (ma_ci (.ofNat 1)) 6)) (mt_leaf (ms_putf (e := (.putfield 9, 9, 9, 0, 247)) rfl rfl (fun _ _ _ => rfl) (Or.inl ⟨rfl, rfl⟩) : mo_Sim 73 6 (ma_putf 9 0 0 9)) (mt_leaf (ms_ald (e := (.aload_n 0, 10, 0, 0, 0)) rfl (fun _ _ _ => rfl) : mo_Sim 73 9 (ma_lda 0 10)) (mt_none)))
set_option maxRecDepth 100000 in
theorem smt73_2 (k : Nat) : ∀ f, mt73_2 k = some f → mo_Sim 73 k f := mt_node (smt73_3 k) (smt73_4 k)
set_option maxRecDepth 100000 in
theorem smt73_6 (k : Nat) : ∀ f, mt73_6 k = some f → mo_Sim 73 k f := mt_leaf (ms_pushi (e := (.bipush 30, 12, 0, 0, 0)) rfl (fun _ _ _ => rfl) (by decide) : mo_Sim 73 10 (ma_push (ma_ci (.ofNat 30)) 12)) (mt_leaf (ms_newaI (e := (.newarray .int, 14, 0, 0, 0)) rfl rfl (fun _ _ _ => rfl) : mo_Sim 73 12 (ma_newa 13 (ma_ci (.ofNat 0)) 14)) (mt_leaf (ms_putf (e := (.putfield 13, 17, 9, 2, 251)) rfl rfl (fun _ _ _ => rfl) (Or.inr (Or.inr (Or.inl ⟨rfl, Or.inr ⟨_, rfl⟩⟩))) : mo_Sim 73 14 (ma_putf 9 2 2 17)) (mt_none)))
set_option maxRecDepth 100000 in
theorem smt73_7 (k : Nat) : ∀ f, mt73_7 k = some f → mo_Sim 73 k f := mt_leaf (ms_ald (e := (.aload_n 0, 18, 0, 0, 0)) rfl (fun _ _ _ => rfl) : mo_Sim 73 17 (ma_lda 0 18)) (mt_leaf (ms_pushi (e := (.bipush 30, 20, 0, 0, 0)) rfl (fun _ _ _ => rfl) (by decide) : mo_Sim 73 18 (ma_push (ma_ci (.ofNat 30)) 20)) (mt_leaf (ms_newaI (e := (.newarray .int, 22, 0, 0, 0)) rfl rfl (fun _ _ _ => rfl) : mo_Sim 73 20 (ma_newa 13 (ma_ci (.ofNat 0)) 22)) (mt_leaf (ms_putf (e := (.putfield 17, 25, 9, 3, 253)) rfl rfl (fun _ _ _ => rfl) (Or.inr (Or.inr (Or.inl ⟨rfl, Or.inr ⟨_, rfl⟩⟩))) : mo_Sim 73 22 (ma_putf 9 3 2 25)) (mt_none))))
set_option maxRecDepth 100000 in
theorem smt73_5 (k : Nat) : ∀ f, mt73_5 k = some f → mo_Sim 73 k f := mt_node (smt73_6 k) (smt73_7 k)
set_option maxRecDepth 100000 in
theorem smt73_1 (k : Nat) : ∀ f, mt73_1 k = some f → mo_Sim 73 k f := mt_node (smt73_2 k) (smt73_5 k)
set_option maxRecDepth 100000 in
theorem smt73_10 (k : Nat) : ∀ f, mt73_10 k = some f → mo_Sim 73 k f := mt_leaf (ms_ald (e := (.aload_n 0, 26, 0, 0, 0)) rfl (fun _ _ _ => rfl) : mo_Sim 73 25 (ma_lda 0 26)) (mt_leaf (ms_pushi (e := (.bipush 30, 28, 0, 0, 0)) rfl (fun _ _ _ => rfl) (by decide) : mo_Sim 73 26 (ma_push (ma_ci (.ofNat 30)) 28)) (mt_leaf (ms_newaI (e := (.newarray .int, 30, 0, 0, 0)) rfl rfl (fun _ _ _ => rfl) : mo_Sim 73 28 (ma_newa 13 (ma_ci (.ofNat 0)) 30)) (mt_none)))
set_option maxRecDepth 100000 in
theorem smt73_11 (k : Nat) : ∀ f, mt73_11 k = some f → mo_Sim 73 k f := mt_leaf (ms_putf (e := (.putfield 20, 33, 9, 4, 255)) rfl rfl (fun _ _ _ => rfl) (Or.inr (Or.inr (Or.inl ⟨rfl, Or.inr ⟨_, rfl⟩⟩))) : mo_Sim 73 30 (ma_putf 9 4 2 33)) (mt_leaf (ms_ald (e := (.aload_n 0, 34, 0, 0, 0)) rfl (fun _ _ _ => rfl) : mo_Sim 73 33 (ma_lda 0 34)) (mt_leaf (ms_pushi (e := (.bipush 30, 36, 0, 0, 0)) rfl (fun _ _ _ => rfl) (by decide) : mo_Sim 73 34 (ma_push (ma_ci (.ofNat 30)) 36)) (mt_none)))
set_option maxRecDepth 100000 in
theorem smt73_9 (k : Nat) : ∀ f, mt73_9 k = some f → mo_Sim 73 k f := mt_node (smt73_10 k) (smt73_11 k)
set_option maxRecDepth 100000 in
theorem smt73_13 (k : Nat) : ∀ f, mt73_13 k = some f → mo_Sim 73 k f := mt_leaf (ms_newaI (e := (.newarray .int, 38, 0, 0, 0)) rfl rfl (fun _ _ _ => rfl) : mo_Sim 73 36 (ma_newa 13 (ma_ci (.ofNat 0)) 38)) (mt_leaf (ms_putf (e := (.putfield 23, 41, 9, 5, 257)) rfl rfl (fun _ _ _ => rfl) (Or.inr (Or.inr (Or.inl ⟨rfl, Or.inr ⟨_, rfl⟩⟩))) : mo_Sim 73 38 (ma_putf 9 5 2 41)) (mt_leaf (ms_ald (e := (.aload_n 0, 42, 0, 0, 0)) rfl (fun _ _ _ => rfl) : mo_Sim 73 41 (ma_lda 0 42)) (mt_none)))
set_option maxRecDepth 100000 in
theorem smt73_14 (k : Nat) : ∀ f, mt73_14 k = some f → mo_Sim 73 k f := mt_leaf (ms_pushi (e := (.bipush 8, 44, 0, 0, 0)) rfl (fun _ _ _ => rfl) (by decide) : mo_Sim 73 42 (ma_push (ma_ci (.ofNat 8)) 44)) (mt_leaf (ms_newaI (e := (.newarray .int, 46, 0, 0, 0)) rfl rfl (fun _ _ _ => rfl) : mo_Sim 73 44 (ma_newa 13 (ma_ci (.ofNat 0)) 46)) (mt_leaf (ms_putf (e := (.putfield 26, 49, 9, 6, 259)) rfl rfl (fun _ _ _ => rfl) (Or.inr (Or.inr (Or.inl ⟨rfl, Or.inr ⟨_, rfl⟩⟩))) : mo_Sim 73 46 (ma_putf 9 6 2 49)) (mt_leaf (ms_retv (e := (.return_, 50, 0, 0, 0)) rfl rfl (fun _ _ _ => rfl) : mo_Sim 73 49 (ma_retv)) (mt_none))))
set_option maxRecDepth 100000 in
theorem smt73_12 (k : Nat) : ∀ f, mt73_12 k = some f → mo_Sim 73 k f := mt_node (smt73_13 k) (smt73_14 k)
set_option maxRecDepth 100000 in
theorem smt73_8 (k : Nat) : ∀ f, mt73_8 k = some f → mo_Sim 73 k f := mt_node (smt73_9 k) (smt73_12 k)
set_option maxRecDepth 100000 in
theorem smt73_0 (k : Nat) : ∀ f, mt73_0 k = some f → mo_Sim 73 k f := mt_node (smt73_1 k) (smt73_8 k)
set_option maxRecDepth 100000 in
theorem smt74_1 (k : Nat) : ∀ f, mt74_1 k = some f → mo_Sim 74 k f := mt_leaf (ms_ald (e := (.aload_n 0, 1, 0, 0, 0)) rfl (fun _ _ _ => rfl) : mo_Sim 74 0 (ma_lda 0 1)) (mt_leaf (ms_ild (e := (.iload_n 1, 2, 0, 0, 0)) rfl (fun _ _ _ => rfl) : mo_Sim 74 1 (ma_load 0 1 2)) (mt_leaf (ms_putf (e := (.putfield 9, 5, 9, 0, 247)) rfl rfl (fun _ _ _ => rfl) (Or.inl ⟨rfl, rfl⟩) : mo_Sim 74 2 (ma_putf 9 0 0 5)) (mt_none)))
set_option maxRecDepth 100000 in
theorem smt74_2 (k : Nat) : ∀ f, mt74_2 k = some f → mo_Sim 74 k f := mt_leaf (ms_ald (e := (.aload_n 0, 6, 0, 0, 0)) rfl (fun _ _ _ => rfl) : mo_Sim 74 5 (ma_lda 0 6)) (mt_leaf (ms_pushi (e := (.iconst 0, 7, 0, 0, 0)) rfl (fun _ _ _ => rfl) (by decide) : mo_Sim 74 6 (ma_push (ma_ci (.ofNat 0)) 7)) (mt_leaf (ms_putf (e := (.putfield 29, 10, 9, 1, 249)) rfl rfl (fun _ _ _ => rfl) (Or.inl ⟨rfl, rfl⟩) : mo_Sim 74 7 (ma_putf 9 1 0 10)) (mt_leaf (ms_retv (e := (.return_, 11, 0, 0, 0)) rfl rfl (fun _ _ _ => rfl) : mo_Sim 74 10 (ma_retv)) (mt_none))))
set_option maxRecDepth 100000 in
theorem smt74_0 (k : Nat) : ∀ f, mt74_0 k = some f → mo_Sim 74 k f := mt_node (smt74_1 k) (smt74_2 k)
set_option maxRecDepth 100000 in
theorem smt83_2 (k : Nat) : ∀ f, mt83_2 k = some f → mo_Sim 83 k f := mt_leaf (ms_ald (e := (.aload_n 0, 1, 0, 0, 0)) rfl (fun _ _ _ => rfl) : mo_Sim 83 0 (ma_lda 0 1)) (mt_leaf (ms_obj (e := (.invokespecial 3, 4, 0, 4, 154)) rfl (fun _ _ _ => rfl) : mo_Sim 83 1 (ma_obj 4)) (mt_leaf (ms_ald (e := (.aload_n 0, 5, 0, 0, 0)) rfl (fun _ _ _ => rfl) : mo_Sim 83 4 (ma_lda 0 5)) (mt_leaf (ms_pushi (e := (.sipush 320, 8, 0, 0, 0)) rfl (fun _ _ _ => rfl) (by decide) : mo_Sim 83 5 (ma_push (ma_ci (.ofNat 320)) 8)) (mt_none))))
set_option maxRecDepth 100000 in
theorem smt83_4 (k : Nat) : ∀ f, mt83_4 k = some f → mo_Sim 83 k f := mt_leaf (ms_newaL (e := (.newarray .long, 10, 0, 0, 0)) rfl rfl (fun _ _ _ => rfl) : mo_Sim 83 8 (ma_newa 14 (ma_cl (.ofNat 0)) 10)) (mt_leaf (ms_putf (e := (.putfield 11, 13, 10, 0, 158)) rfl rfl (fun _ _ _ => rfl) (Or.inr (Or.inr (Or.inl ⟨rfl, Or.inr ⟨_, rfl⟩⟩))) : mo_Sim 83 10 (ma_putf 10 0 2 13)) (mt_none))
set_option maxRecDepth 100000 in
theorem smt83_5 (k : Nat) : ∀ f, mt83_5 k = some f → mo_Sim 83 k f := mt_leaf (ms_ald (e := (.aload_n 0, 14, 0, 0, 0)) rfl (fun _ _ _ => rfl) : mo_Sim 83 13 (ma_lda 0 14)) (mt_leaf (ms_pushi (e := (.bipush 8, 16, 0, 0, 0)) rfl (fun _ _ _ => rfl) (by decide) : mo_Sim 83 14 (ma_push (ma_ci (.ofNat 8)) 16)) (mt_leaf (ms_newaI (e := (.newarray .int, 18, 0, 0, 0)) rfl rfl (fun _ _ _ => rfl) : mo_Sim 83 16 (ma_newa 13 (ma_ci (.ofNat 0)) 18)) (mt_none)))
set_option maxRecDepth 100000 in
theorem smt83_3 (k : Nat) : ∀ f, mt83_3 k = some f → mo_Sim 83 k f := mt_node (smt83_4 k) (smt83_5 k)
set_option maxRecDepth 100000 in
theorem smt83_1 (k : Nat) : ∀ f, mt83_1 k = some f → mo_Sim 83 k f := mt_node (smt83_2 k) (smt83_3 k)
set_option maxRecDepth 100000 in
theorem smt83_8 (k : Nat) : ∀ f, mt83_8 k = some f → mo_Sim 83 k f := mt_leaf (ms_putf (e := (.putfield 15, 21, 10, 1, 159)) rfl rfl (fun _ _ _ => rfl) (Or.inr (Or.inr (Or.inl ⟨rfl, Or.inr ⟨_, rfl⟩⟩))) : mo_Sim 83 18 (ma_putf 10 1 2 21)) (mt_leaf (ms_ald (e := (.aload_n 0, 22, 0, 0, 0)) rfl (fun _ _ _ => rfl) : mo_Sim 83 21 (ma_lda 0 22)) (mt_none))
set_option maxRecDepth 100000 in
theorem smt83_9 (k : Nat) : ∀ f, mt83_9 k = some f → mo_Sim 83 k f := mt_leaf (ms_pushi (e := (.bipush 8, 24, 0, 0, 0)) rfl (fun _ _ _ => rfl) (by decide) : mo_Sim 83 22 (ma_push (ma_ci (.ofNat 8)) 24)) (mt_leaf (ms_newaI (e := (.newarray .int, 26, 0, 0, 0)) rfl rfl (fun _ _ _ => rfl) : mo_Sim 83 24 (ma_newa 13 (ma_ci (.ofNat 0)) 26)) (mt_leaf (ms_putf (e := (.putfield 19, 29, 10, 2, 160)) rfl rfl (fun _ _ _ => rfl) (Or.inr (Or.inr (Or.inl ⟨rfl, Or.inr ⟨_, rfl⟩⟩))) : mo_Sim 83 26 (ma_putf 10 2 2 29)) (mt_none)))
set_option maxRecDepth 100000 in
theorem smt83_7 (k : Nat) : ∀ f, mt83_7 k = some f → mo_Sim 83 k f := mt_node (smt83_8 k) (smt83_9 k)
set_option maxRecDepth 100000 in
theorem smt83_11 (k : Nat) : ∀ f, mt83_11 k = some f → mo_Sim 83 k f := mt_leaf (ms_ald (e := (.aload_n 0, 30, 0, 0, 0)) rfl (fun _ _ _ => rfl) : mo_Sim 83 29 (ma_lda 0 30)) (mt_leaf (ms_getf (e := (.getfield 19, 33, 10, 2, 160)) rfl (fun _ _ _ => rfl) : mo_Sim 83 30 (ma_getf 10 2 33)) (mt_none))
set_option maxRecDepth 100000 in
theorem smt83_12 (k : Nat) : ∀ f, mt83_12 k = some f → mo_Sim 83 k f := mt_leaf (ms_pushi (e := (.iconst (-1), 34, 0, 0, 0)) rfl (fun _ _ _ => rfl) (by decide) : mo_Sim 83 33 (ma_push (ma_ci (.negSucc 0)) 34)) (mt_leaf (ms_invS (e := (.invokestatic 22, 37, 208, 1, 155)) rfl rfl (fun _ _ _ => rfl) rfl rfl : mo_Sim 83 34 (ma_inv 208 2 4 20 37)) (mt_leaf (ms_retv (e := (.return_, 38, 0, 0, 0)) rfl rfl (fun _ _ _ => rfl) : mo_Sim 83 37 (ma_retv)) (mt_none)))
set_option maxRecDepth 100000 in
theorem smt83_10 (k : Nat) : ∀ f, mt83_10 k = some f → mo_Sim 83 k f := mt_node (smt83_11 k) (smt83_12 k)
set_option maxRecDepth 100000 in
theorem smt83_6 (k : Nat) : ∀ f, mt83_6 k = some f → mo_Sim 83 k f := mt_node (smt83_7 k) (smt83_10 k)
set_option maxRecDepth 100000 in
theorem smt83_0 (k : Nat) : ∀ f, mt83_0 k = some f → mo_Sim 83 k f := mt_node (smt83_1 k) (smt83_6 k)
set_option maxRecDepth 100000 in
theorem smt92_5 (k : Nat) : ∀ f, mt92_5 k = some f → mo_Sim 92 k f := mt_leaf (ms_ald (e := (.aload_n 0, 1, 0, 0, 0)) rfl (fun _ _ _ => rfl) : mo_Sim 92 0 (ma_lda 0 1)) (mt_leaf (ms_obj (e := (.invokespecial 1, 4, 0, 4, 98)) rfl (fun _ _ _ => rfl) : mo_Sim 92 1 (ma_obj 4)) (mt_leaf (ms_ald (e := (.aload_n 0, 5, 0, 0, 0)) rfl (fun _ _ _ => rfl) : mo_Sim 92 4 (ma_lda 0 5)) (mt_none)))
set_option maxRecDepth 100000 in
theorem smt92_6 (k : Nat) : ∀ f, mt92_6 k = some f → mo_Sim 92 k f := mt_leaf (ms_newo (e := (.new 7, 8, 1, 0, 101)) rfl rfl (fun _ _ _ => rfl) rfl mo_bl_1 : mo_Sim 92 5 (ma_new (1, .inl [ma_ci (.ofNat 0), ma_ci (.ofNat 0), ma_null, ma_null, ma_null]) 8)) (mt_leaf (ms_dup (e := (.dup, 9, 0, 0, 0)) rfl (fun _ _ _ => rfl) : mo_Sim 92 8 (ma_dup 9)) (mt_leaf (ms_invI (p := 0) (e := (.invokespecial 9, 12, 10, 3, 103)) rfl rfl (fun _ _ _ => rfl) rfl rfl : mo_Sim 92 9 (ma_inv 10 1 1 21 12)) (mt_leaf (ms_putf (e := (.putfield 10, 15, 11, 0, 460)) rfl rfl (fun _ _ _ => rfl) (Or.inr (Or.inr (Or.inl ⟨rfl, Or.inl ⟨_, rfl⟩⟩))) : mo_Sim 92 12 (ma_putf 11 0 2 15)) (mt_none))))
set_option maxRecDepth 100000 in
theorem smt92_4 (k : Nat) : ∀ f, mt92_4 k = some f → mo_Sim 92 k f := mt_node (smt92_5 k) (smt92_6 k)
set_option maxRecDepth 100000 in
theorem smt92_8 (k : Nat) : ∀ f, mt92_8 k = some f → mo_Sim 92 k f := mt_leaf (ms_ald (e := (.aload_n 0, 16, 0, 0, 0)) rfl (fun _ _ _ => rfl) : mo_Sim 92 15 (ma_lda 0 16)) (mt_leaf (ms_newo (e := (.new 16, 19, 10, 0, 149)) rfl rfl (fun _ _ _ => rfl) rfl mo_bl_10 : mo_Sim 92 16 (ma_new (10, .inl [ma_null, ma_null, ma_null]) 19)) (mt_leaf (ms_dup (e := (.dup, 20, 0, 0, 0)) rfl (fun _ _ _ => rfl) : mo_Sim 92 19 (ma_dup 20)) (mt_none)))
set_option maxRecDepth 100000 in
theorem smt92_9 (k : Nat) : ∀ f, mt92_9 k = some f → mo_Sim 92 k f := mt_leaf (ms_invI (p := 0) (e := (.invokespecial 18, 23, 83, 2, 151)) rfl rfl (fun _ _ _ => rfl) rfl rfl : mo_Sim 92 20 (ma_inv 83 1 1 21 23)) (mt_leaf (ms_putf (e := (.putfield 19, 26, 11, 1, 461)) rfl rfl (fun _ _ _ => rfl) (Or.inr (Or.inr (Or.inl ⟨rfl, Or.inl ⟨_, rfl⟩⟩))) : mo_Sim 92 23 (ma_putf 11 1 2 26)) (mt_leaf (ms_ald (e := (.aload_n 0, 27, 0, 0, 0)) rfl (fun _ _ _ => rfl) : mo_Sim 92 26 (ma_lda 0 27)) (mt_leaf (ms_pushi (e := (.bipush 8, 29, 0, 0, 0)) rfl (fun _ _ _ => rfl) (by decide) : mo_Sim 92 27 (ma_push (ma_ci (.ofNat 8)) 29)) (mt_none))))
set_option maxRecDepth 100000 in
theorem smt92_7 (k : Nat) : ∀ f, mt92_7 k = some f → mo_Sim 92 k f := mt_node (smt92_8 k) (smt92_9 k)
set_option maxRecDepth 100000 in
theorem smt92_3 (k : Nat) : ∀ f, mt92_3 k = some f → mo_Sim 92 k f := mt_node (smt92_4 k) (smt92_7 k)
set_option maxRecDepth 100000 in
theorem smt92_12 (k : Nat) : ∀ f, mt92_12 k = some f → mo_Sim 92 k f := mt_leaf (ms_anew (e := (.anewarray 23, 32, 0, 15, 169)) rfl rfl (fun _ _ _ => rfl) : mo_Sim 92 29 (ma_newa 15 ma_null 32)) (mt_leaf (ms_putf (e := (.putfield 25, 35, 11, 2, 462)) rfl rfl (fun _ _ _ => rfl) (Or.inr (Or.inr (Or.inl ⟨rfl, Or.inr ⟨_, rfl⟩⟩))) : mo_Sim 92 32 (ma_putf 11 2 2 35)) (mt_leaf (ms_ald (e := (.aload_n 0, 36, 0, 0, 0)) rfl (fun _ _ _ => rfl) : mo_Sim 92 35 (ma_lda 0 36)) (mt_none)))
set_option maxRecDepth 100000 in
theorem smt92_13 (k : Nat) : ∀ f, mt92_13 k = some f → mo_Sim 92 k f := mt_leaf (ms_pushi (e := (.bipush 12, 38, 0, 0, 0)) rfl (fun _ _ _ => rfl) (by decide) : mo_Sim 92 36 (ma_push (ma_ci (.ofNat 12)) 38)) (mt_leaf (ms_anew (e := (.anewarray 29, 41, 4, 16, 171)) rfl rfl (fun _ _ _ => rfl) : mo_Sim 92 38 (ma_newa 16 ma_null 41)) (mt_leaf (ms_putf (e := (.putfield 31, 44, 11, 3, 463)) rfl rfl (fun _ _ _ => rfl) (Or.inr (Or.inr (Or.inl ⟨rfl, Or.inr ⟨_, rfl⟩⟩))) : mo_Sim 92 41 (ma_putf 11 3 2 44)) (mt_leaf (ms_ald (e := (.aload_n 0, 45, 0, 0, 0)) rfl (fun _ _ _ => rfl) : mo_Sim 92 44 (ma_lda 0 45)) (mt_none))))
set_option maxRecDepth 100000 in
theorem smt92_11 (k : Nat) : ∀ f, mt92_11 k = some f → mo_Sim 92 k f := mt_node (smt92_12 k) (smt92_13 k)
set_option maxRecDepth 100000 in
theorem smt92_15 (k : Nat) : ∀ f, mt92_15 k = some f → mo_Sim 92 k f := mt_leaf (ms_pushi (e := (.iconst 3, 46, 0, 0, 0)) rfl (fun _ _ _ => rfl) (by decide) : mo_Sim 92 45 (ma_push (ma_ci (.ofNat 3)) 46)) (mt_leaf (ms_anew (e := (.anewarray 35, 49, 6, 17, 173)) rfl rfl (fun _ _ _ => rfl) : mo_Sim 92 46 (ma_newa 17 ma_null 49)) (mt_leaf (ms_putf (e := (.putfield 37, 52, 11, 4, 464)) rfl rfl (fun _ _ _ => rfl) (Or.inr (Or.inr (Or.inl ⟨rfl, Or.inr ⟨_, rfl⟩⟩))) : mo_Sim 92 49 (ma_putf 11 4 2 52)) (mt_leaf (ms_ald (e := (.aload_n 0, 53, 0, 0, 0)) rfl (fun _ _ _ => rfl) : mo_Sim 92 52 (ma_lda 0 53)) (mt_none))))
set_option maxRecDepth 100000 in
theorem smt92_16 (k : Nat) : ∀ f, mt92_16 k = some f → mo_Sim 92 k f := mt_leaf (ms_newo (e := (.new 41, 56, 7, 0, 175)) rfl rfl (fun _ _ _ => rfl) rfl mo_bl_7 : mo_Sim 92 53 (ma_new (7, .inl [ma_null, ma_null, ma_null, ma_null, ma_null, ma_null, ma_null, ma_null, ma_null, ma_null, ma_ci (.ofNat 0), ma_ci (.ofNat 0)]) 56)) (mt_leaf (ms_dup (e := (.dup, 57, 0, 0, 0)) rfl (fun _ _ _ => rfl) : mo_Sim 92 56 (ma_dup 57)) (mt_leaf (ms_invI (p := 0) (e := (.invokespecial 43, 60, 48, 3, 177)) rfl rfl (fun _ _ _ => rfl) rfl rfl : mo_Sim 92 57 (ma_inv 48 1 1 21 60)) (mt_leaf (ms_putf (e := (.putfield 44, 63, 11, 5, 465)) rfl rfl (fun _ _ _ => rfl) (Or.inr (Or.inr (Or.inl ⟨rfl, Or.inl ⟨_, rfl⟩⟩))) : mo_Sim 92 60 (ma_putf 11 5 2 63)) (mt_none))))
set_option maxRecDepth 100000 in
theorem smt92_14 (k : Nat) : ∀ f, mt92_14 k = some f → mo_Sim 92 k f := mt_node (smt92_15 k) (smt92_16 k)
set_option maxRecDepth 100000 in
theorem smt92_10 (k : Nat) : ∀ f, mt92_10 k = some f → mo_Sim 92 k f := mt_node (smt92_11 k) (smt92_14 k)
set_option maxRecDepth 100000 in
theorem smt92_2 (k : Nat) : ∀ f, mt92_2 k = some f → mo_Sim 92 k f := mt_node (smt92_3 k) (smt92_10 k)
set_option maxRecDepth 100000 in
theorem smt92_20 (k : Nat) : ∀ f, mt92_20 k = some f → mo_Sim 92 k f := mt_leaf (ms_ald (e := (.aload_n 0, 64, 0, 0, 0)) rfl (fun _ _ _ => rfl) : mo_Sim 92 63 (ma_lda 0 64)) (mt_leaf (ms_newo (e := (.new 48, 67, 9, 0, 241)) rfl rfl (fun _ _ _ => rfl) rfl mo_bl_9 : mo_Sim 92 64 (ma_new (9, .inl [ma_ci (.ofNat 0), ma_ci (.ofNat 0), ma_null, ma_null, ma_null, ma_null, ma_null]) 67)) (mt_leaf (ms_dup (e := (.dup, 68, 0, 0, 0)) rfl (fun _ _ _ => rfl) : mo_Sim 92 67 (ma_dup 68)) (mt_none)))
set_option maxRecDepth 100000 in
theorem smt92_21 (k : Nat) : ∀ f, mt92_21 k = some f → mo_Sim 92 k f := mt_leaf (ms_invI (p := 0) (e := (.invokespecial 50, 71, 73, 3, 243)) rfl rfl (fun _ _ _ => rfl) rfl rfl : mo_Sim 92 68 (ma_inv 73 1 1 21 71)) (mt_leaf (ms_putf (e := (.putfield 51, 74, 11, 6, 466)) rfl rfl (fun _ _ _ => rfl) (Or.inr (Or.inr (Or.inl ⟨rfl, Or.inl ⟨_, rfl⟩⟩))) : mo_Sim 92 71 (ma_putf 11 6 2 74)) (mt_leaf (ms_ald (e := (.aload_n 0, 75, 0, 0, 0)) rfl (fun _ _ _ => rfl) : mo_Sim 92 74 (ma_lda 0 75)) (mt_leaf (ms_newo (e := (.new 55, 78, 8, 0, 276)) rfl rfl (fun _ _ _ => rfl) rfl mo_bl_8 : mo_Sim 92 75 (ma_new (8, .inl [ma_null, ma_null, ma_null, ma_null, ma_null, ma_ci (.ofNat 0), ma_ci (.ofNat 0), ma_ci (.ofNat 0)]) 78)) (mt_none))))
set_option maxRecDepth 100000 in
theorem smt92_19 (k : Nat) : ∀ f, mt92_19 k = some f → mo_Sim 92 k f := mt_node (smt92_20 k) (smt92_21 k)
set_option maxRecDepth 100000 in
theorem smt92_23 (k : Nat) : ∀ f, mt92_23 k = some f → mo_Sim 92 k f := mt_leaf (ms_dup (e := (.dup, 79, 0, 0, 0)) rfl (fun _ _ _ => rfl) : mo_Sim 92 78 (ma_dup 79)) (mt_leaf (ms_invI (p := 0) (e := (.invokespecial 57, 82, 63, 3, 278)) rfl rfl (fun _ _ _ => rfl) rfl rfl : mo_Sim 92 79 (ma_inv 63 1 1 21 82)) (mt_leaf (ms_putf (e := (.putfield 58, 85, 11, 7, 467)) rfl rfl (fun _ _ _ => rfl) (Or.inr (Or.inr (Or.inl ⟨rfl, Or.inl ⟨_, rfl⟩⟩))) : mo_Sim 92 82 (ma_putf 11 7 2 85)) (mt_none)))
set_option maxRecDepth 100000 in
theorem smt92_24 (k : Nat) : ∀ f, mt92_24 k = some f → mo_Sim 92 k f := mt_leaf (ms_ald (e := (.aload_n 0, 86, 0, 0, 0)) rfl (fun _ _ _ => rfl) : mo_Sim 92 85 (ma_lda 0 86)) (mt_leaf (ms_newo (e := (.new 62, 89, 2, 0, 308)) rfl rfl (fun _ _ _ => rfl) rfl mo_bl_2 : mo_Sim 92 86 (ma_new (2, .inl [ma_ci (.ofNat 0), ma_ci (.ofNat 0), ma_ci (.ofNat 0), ma_ci (.ofNat 0), ma_null, ma_ci (.ofNat 0)]) 89)) (mt_leaf (ms_dup (e := (.dup, 90, 0, 0, 0)) rfl (fun _ _ _ => rfl) : mo_Sim 92 89 (ma_dup 90)) (mt_leaf (ms_invI (p := 0) (e := (.invokespecial 64, 93, 19, 3, 310)) rfl rfl (fun _ _ _ => rfl) rfl rfl : mo_Sim 92 90 (ma_inv 19 1 1 21 93)) (mt_none))))
set_option maxRecDepth 100000 in
theorem smt92_22 (k : Nat) : ∀ f, mt92_22 k = some f → mo_Sim 92 k f := mt_node (smt92_23 k) (smt92_24 k)
set_option maxRecDepth 100000 in
theorem smt92_18 (k : Nat) : ∀ f, mt92_18 k = some f → mo_Sim 92 k f := mt_node (smt92_19 k) (smt92_22 k)
set_option maxRecDepth 100000 in
theorem smt92_27 (k : Nat) : ∀ f, mt92_27 k = some f → mo_Sim 92 k f := mt_leaf (ms_putf (e := (.putfield 65, 96, 11, 8, 468)) rfl rfl (fun _ _ _ => rfl) (Or.inr (Or.inr (Or.inl ⟨rfl, Or.inl ⟨_, rfl⟩⟩))) : mo_Sim 92 93 (ma_putf 11 8 2 96)) (mt_leaf (ms_ald (e := (.aload_n 0, 97, 0, 0, 0)) rfl (fun _ _ _ => rfl) : mo_Sim 92 96 (ma_lda 0 97)) (mt_leaf (ms_newo (e := (.new 69, 100, 3, 0, 336)) rfl rfl (fun _ _ _ => rfl) rfl mo_bl_3 : mo_Sim 92 97 (ma_new (3, .inl [ma_null, ma_ci (.ofNat 0)]) 100)) (mt_none)))
set_option maxRecDepth 100000 in
theorem smt92_28 (k : Nat) : ∀ f, mt92_28 k = some f → mo_Sim 92 k f := mt_leaf (ms_dup (e := (.dup, 101, 0, 0, 0)) rfl (fun _ _ _ => rfl) : mo_Sim 92 100 (ma_dup 101)) (mt_leaf (ms_pushi (e := (.sipush 19683, 104, 0, 0, 0)) rfl (fun _ _ _ => rfl) (by decide) : mo_Sim 92 101 (ma_push (ma_ci (.ofNat 19683)) 104)) (mt_leaf (ms_invI (p := 1) (e := (.invokespecial 71, 107, 30, 2, 338)) rfl rfl (fun _ _ _ => rfl) rfl rfl : mo_Sim 92 104 (ma_inv 30 2 2 21 107)) (mt_leaf (ms_putf (e := (.putfield 74, 110, 11, 9, 469)) rfl rfl (fun _ _ _ => rfl) (Or.inr (Or.inr (Or.inl ⟨rfl, Or.inl ⟨_, rfl⟩⟩))) : mo_Sim 92 107 (ma_putf 11 9 2 110)) (mt_none))))
set_option maxRecDepth 100000 in
theorem smt92_26 (k : Nat) : ∀ f, mt92_26 k = some f → mo_Sim 92 k f := mt_node (smt92_27 k) (smt92_28 k)
set_option maxRecDepth 100000 in
theorem smt92_30 (k : Nat) : ∀ f, mt92_30 k = some f → mo_Sim 92 k f := mt_leaf (ms_ald (e := (.aload_n 0, 111, 0, 0, 0)) rfl (fun _ _ _ => rfl) : mo_Sim 92 110 (ma_lda 0 111)) (mt_leaf (ms_newo (e := (.new 69, 114, 3, 0, 336)) rfl rfl (fun _ _ _ => rfl) rfl mo_bl_3 : mo_Sim 92 111 (ma_new (3, .inl [ma_null, ma_ci (.ofNat 0)]) 114)) (mt_leaf (ms_dup (e := (.dup, 115, 0, 0, 0)) rfl (fun _ _ _ => rfl) : mo_Sim 92 114 (ma_dup 115)) (mt_leaf (ms_pushi (e := (.sipush 6561, 118, 0, 0, 0)) rfl (fun _ _ _ => rfl) (by decide) : mo_Sim 92 115 (ma_push (ma_ci (.ofNat 6561)) 118)) (mt_none))))
set_option maxRecDepth 100000 in
theorem smt92_31 (k : Nat) : ∀ f, mt92_31 k = some f → mo_Sim 92 k f := mt_leaf (ms_invI (p := 1) (e := (.invokespecial 71, 121, 30, 2, 338)) rfl rfl (fun _ _ _ => rfl) rfl rfl : mo_Sim 92 118 (ma_inv 30 2 2 21 121)) (mt_leaf (ms_putf (e := (.putfield 78, 124, 11, 10, 470)) rfl rfl (fun _ _ _ => rfl) (Or.inr (Or.inr (Or.inl ⟨rfl, Or.inl ⟨_, rfl⟩⟩))) : mo_Sim 92 121 (ma_putf 11 10 2 124)) (mt_leaf (ms_ald (e := (.aload_n 0, 125, 0, 0, 0)) rfl (fun _ _ _ => rfl) : mo_Sim 92 124 (ma_lda 0 125)) (mt_leaf (ms_newo (e := (.new 29, 128, 4, 0, 171)) rfl rfl (fun _ _ _ => rfl) rfl mo_bl_4 : mo_Sim 92 125 (ma_new (4, .inl [ma_ci (.ofNat 0), ma_ci (.ofNat 0), ma_ci (.ofNat 0), ma_ci (.ofNat 0), ma_null]) 128)) (mt_none))))
set_option maxRecDepth 100000 in
theorem smt92_29 (k : Nat) : ∀ f, mt92_29 k = some f → mo_Sim 92 k f := mt_node (smt92_30 k) (smt92_31 k)
set_option maxRecDepth 100000 in
theorem smt92_25 (k : Nat) : ∀ f, mt92_25 k = some f → mo_Sim 92 k f := mt_node (smt92_26 k) (smt92_29 k)
set_option maxRecDepth 100000 in
theorem smt92_17 (k : Nat) : ∀ f, mt92_17 k = some f → mo_Sim 92 k f := mt_node (smt92_18 k) (smt92_25 k)
set_option maxRecDepth 100000 in
theorem smt92_1 (k : Nat) : ∀ f, mt92_1 k = some f → mo_Sim 92 k f := mt_node (smt92_2 k) (smt92_17 k)
set_option maxRecDepth 100000 in
theorem smt92_36 (k : Nat) : ∀ f, mt92_36 k = some f → mo_Sim 92 k f := mt_leaf (ms_dup (e := (.dup, 129, 0, 0, 0)) rfl (fun _ _ _ => rfl) : mo_Sim 92 128 (ma_dup 129)) (mt_leaf (ms_invI (p := 0) (e := (.invokespecial 81, 132, 35, 3, 354)) rfl rfl (fun _ _ _ => rfl) rfl rfl : mo_Sim 92 129 (ma_inv 35 1 1 21 132)) (mt_leaf (ms_putf (e := (.putfield 82, 135, 11, 11, 471)) rfl rfl (fun _ _ _ => rfl) (Or.inr (Or.inr (Or.inl ⟨rfl, Or.inl ⟨_, rfl⟩⟩))) : mo_Sim 92 132 (ma_putf 11 11 2 135)) (mt_none)))
set_option maxRecDepth 100000 in
theorem smt92_37 (k : Nat) : ∀ f, mt92_37 k = some f → mo_Sim 92 k f := mt_leaf (ms_ald (e := (.aload_n 0, 136, 0, 0, 0)) rfl (fun _ _ _ => rfl) : mo_Sim 92 135 (ma_lda 0 136)) (mt_leaf (ms_newo (e := (.new 86, 139, 5, 0, 382)) rfl rfl (fun _ _ _ => rfl) rfl mo_bl_5 : mo_Sim 92 136 (ma_new (5, .inl [ma_null, ma_ci (.ofNat 0), ma_ci (.ofNat 0), ma_ci (.ofNat 0)]) 139)) (mt_leaf (ms_dup (e := (.dup, 140, 0, 0, 0)) rfl (fun _ _ _ => rfl) : mo_Sim 92 139 (ma_dup 140)) (mt_leaf (ms_invI (p := 0) (e := (.invokespecial 88, 143, 43, 3, 383)) rfl rfl (fun _ _ _ => rfl) rfl rfl : mo_Sim 92 140 (ma_inv 43 1 1 21 143)) (mt_none))))
set_option maxRecDepth 100000 in
theorem smt92_35 (k : Nat) : ∀ f, mt92_35 k = some f → mo_Sim 92 k f := mt_node (smt92_36 k) (smt92_37 k)
set_option maxRecDepth 100000 in
theorem smt92_39 (k : Nat) : ∀ f, mt92_39 k = some f → mo_Sim 92 k f := mt_leaf (ms_putf (e := (.putfield 89, 146, 11, 12, 472)) rfl rfl (fun _ _ _ => rfl) (Or.inr (Or.inr (Or.inl ⟨rfl, Or.inl ⟨_, rfl⟩⟩))) : mo_Sim 92 143 (ma_putf 11 12 2 146)) (mt_leaf (ms_ald (e := (.aload_n 0, 147, 0, 0, 0)) rfl (fun _ _ _ => rfl) : mo_Sim 92 146 (ma_lda 0 147)) (mt_leaf (ms_pushi (e := (.bipush 27, 149, 0, 0, 0)) rfl (fun _ _ _ => rfl) (by decide) : mo_Sim 92 147 (ma_push (ma_ci (.ofNat 27)) 149)) (mt_none)))
set_option maxRecDepth 100000 in
theorem smt92_40 (k : Nat) : ∀ f, mt92_40 k = some f → mo_Sim 92 k f := mt_leaf (ms_newaI (e := (.newarray .int, 151, 0, 0, 0)) rfl rfl (fun _ _ _ => rfl) : mo_Sim 92 149 (ma_newa 13 (ma_ci (.ofNat 0)) 151)) (mt_leaf (ms_putf (e := (.putfield 93, 154, 11, 13, 473)) rfl rfl (fun _ _ _ => rfl) (Or.inr (Or.inr (Or.inl ⟨rfl, Or.inr ⟨_, rfl⟩⟩))) : mo_Sim 92 151 (ma_putf 11 13 2 154)) (mt_leaf (ms_pushi (e := (.iconst 0, 155, 0, 0, 0)) rfl (fun _ _ _ => rfl) (by decide) : mo_Sim 92 154 (ma_push (ma_ci (.ofNat 0)) 155)) (mt_leaf (ms_ist (e := (.istore_n 1, 156, 0, 0, 0)) rfl (fun _ _ _ => rfl) : mo_Sim 92 155 (ma_stor 0 1 156)) (mt_none))))
set_option maxRecDepth 100000 in
theorem smt92_38 (k : Nat) : ∀ f, mt92_38 k = some f → mo_Sim 92 k f := mt_node (smt92_39 k) (smt92_40 k)
set_option maxRecDepth 100000 in
theorem smt92_34 (k : Nat) : ∀ f, mt92_34 k = some f → mo_Sim 92 k f := mt_node (smt92_35 k) (smt92_38 k)
set_option maxRecDepth 100000 in
theorem smt92_43 (k : Nat) : ∀ f, mt92_43 k = some f → mo_Sim 92 k f := mt_leaf (ms_ild (e := (.iload_n 1, 157, 0, 0, 0)) rfl (fun _ _ _ => rfl) : mo_Sim 92 156 (ma_load 0 1 157)) (mt_leaf (ms_pushi (e := (.bipush 8, 159, 0, 0, 0)) rfl (fun _ _ _ => rfl) (by decide) : mo_Sim 92 157 (ma_push (ma_ci (.ofNat 8)) 159)) (mt_leaf (ms_if2 (e := (.if_icmp .ge 22, 162, 181, 0, 0)) rfl (fun _ _ _ => rfl) : mo_Sim 92 159 (ma_if2 .ge 181 159 162)) (mt_none)))
set_option maxRecDepth 100000 in
theorem smt92_44 (k : Nat) : ∀ f, mt92_44 k = some f → mo_Sim 92 k f := mt_leaf (ms_ald (e := (.aload_n 0, 163, 0, 0, 0)) rfl (fun _ _ _ => rfl) : mo_Sim 92 162 (ma_lda 0 163)) (mt_leaf (ms_getf (e := (.getfield 25, 166, 11, 2, 462)) rfl (fun _ _ _ => rfl) : mo_Sim 92 163 (ma_getf 11 2 166)) (mt_leaf (ms_ild (e := (.iload_n 1, 167, 0, 0, 0)) rfl (fun _ _ _ => rfl) : mo_Sim 92 166 (ma_load 0 1 167)) (mt_leaf (ms_newo (e := (.new 23, 170, 0, 0, 169)) rfl rfl (fun _ _ _ => rfl) rfl mo_bl_0 : mo_Sim 92 167 (ma_new (0, .inl [ma_ci (.ofNat 0), ma_ci (.ofNat 0), ma_null, ma_null]) 170)) (mt_none))))
set_option maxRecDepth 100000 in
theorem smt92_42 (k : Nat) : ∀ f, mt92_42 k = some f → mo_Sim 92 k f := mt_node (smt92_43 k) (smt92_44 k)
set_option maxRecDepth 100000 in
theorem smt92_46 (k : Nat) : ∀ f, mt92_46 k = some f → mo_Sim 92 k f := mt_leaf (ms_dup (e := (.dup, 171, 0, 0, 0)) rfl (fun _ _ _ => rfl) : mo_Sim 92 170 (ma_dup 171)) (mt_leaf (ms_invI (p := 0) (e := (.invokespecial 97, 174, 1, 3, 385)) rfl rfl (fun _ _ _ => rfl) rfl rfl : mo_Sim 92 171 (ma_inv 1 1 1 21 174)) (mt_leaf (ms_aast (e := (.aastore, 175, 0, 0, 0)) rfl rfl (fun _ _ _ => rfl) : mo_Sim 92 174 (ma_aast 175)) (mt_leaf (ms_iinc (e := (.iinc 1 1, 178, 0, 0, 0)) rfl (fun _ _ _ => rfl) (by decide) : mo_Sim 92 175 (ma_iinc 1 (.ofNat 1) 175 178)) (mt_none))))
set_option maxRecDepth 100000 in
theorem smt92_47 (k : Nat) : ∀ f, mt92_47 k = some f → mo_Sim 92 k f := mt_leaf (ms_goto (e := (.goto (-22), 181, 156, 0, 0)) rfl (fun _ _ _ => rfl) : mo_Sim 92 178 (ma_goto 156)) (mt_leaf (ms_pushi (e := (.iconst 0, 182, 0, 0, 0)) rfl (fun _ _ _ => rfl) (by decide) : mo_Sim 92 181 (ma_push (ma_ci (.ofNat 0)) 182)) (mt_leaf (ms_ist (e := (.istore_n 1, 183, 0, 0, 0)) rfl (fun _ _ _ => rfl) : mo_Sim 92 182 (ma_stor 0 1 183)) (mt_leaf (ms_ild (e := (.iload_n 1, 184, 0, 0, 0)) rfl (fun _ _ _ => rfl) : mo_Sim 92 183 (ma_load 0 1 184)) (mt_none))))
set_option maxRecDepth 100000 in
theorem smt92_45 (k : Nat) : ∀ f, mt92_45 k = some f → mo_Sim 92 k f := mt_node (smt92_46 k) (smt92_47 k)
set_option maxRecDepth 100000 in
theorem smt92_41 (k : Nat) : ∀ f, mt92_41 k = some f → mo_Sim 92 k f := mt_node (smt92_42 k) (smt92_45 k)
set_option maxRecDepth 100000 in
theorem smt92_33 (k : Nat) : ∀ f, mt92_33 k = some f → mo_Sim 92 k f := mt_node (smt92_34 k) (smt92_41 k)
set_option maxRecDepth 100000 in
theorem smt92_51 (k : Nat) : ∀ f, mt92_51 k = some f → mo_Sim 92 k f := mt_leaf (ms_pushi (e := (.bipush 12, 186, 0, 0, 0)) rfl (fun _ _ _ => rfl) (by decide) : mo_Sim 92 184 (ma_push (ma_ci (.ofNat 12)) 186)) (mt_leaf (ms_if2 (e := (.if_icmp .ge 22, 189, 208, 0, 0)) rfl (fun _ _ _ => rfl) : mo_Sim 92 186 (ma_if2 .ge 208 186 189)) (mt_leaf (ms_ald (e := (.aload_n 0, 190, 0, 0, 0)) rfl (fun _ _ _ => rfl) : mo_Sim 92 189 (ma_lda 0 190)) (mt_none)))
set_option maxRecDepth 100000 in
theorem smt92_52 (k : Nat) : ∀ f, mt92_52 k = some f → mo_Sim 92 k f := mt_leaf (ms_getf (e := (.getfield 31, 193, 11, 3, 463)) rfl (fun _ _ _ => rfl) : mo_Sim 92 190 (ma_getf 11 3 193)) (mt_leaf (ms_ild (e := (.iload_n 1, 194, 0, 0, 0)) rfl (fun _ _ _ => rfl) : mo_Sim 92 193 (ma_load 0 1 194)) (mt_leaf (ms_newo (e := (.new 29, 197, 4, 0, 171)) rfl rfl (fun _ _ _ => rfl) rfl mo_bl_4 : mo_Sim 92 194 (ma_new (4, .inl [ma_ci (.ofNat 0), ma_ci (.ofNat 0), ma_ci (.ofNat 0), ma_ci (.ofNat 0), ma_null]) 197)) (mt_leaf (ms_dup (e := (.dup, 198, 0, 0, 0)) rfl (fun _ _ _ => rfl) : mo_Sim 92 197 (ma_dup 198)) (mt_none))))
set_option maxRecDepth 100000 in
theorem smt92_50 (k : Nat) : ∀ f, mt92_50 k = some f → mo_Sim 92 k f := mt_node (smt92_51 k) (smt92_52 k)
set_option maxRecDepth 100000 in
theorem smt92_54 (k : Nat) : ∀ f, mt92_54 k = some f → mo_Sim 92 k f := mt_leaf (ms_invI (p := 0) (e := (.invokespecial 81, 201, 35, 3, 354)) rfl rfl (fun _ _ _ => rfl) rfl rfl : mo_Sim 92 198 (ma_inv 35 1 1 21 201)) (mt_leaf (ms_aast (e := (.aastore, 202, 0, 0, 0)) rfl rfl (fun _ _ _ => rfl) : mo_Sim 92 201 (ma_aast 202)) (mt_leaf (ms_iinc (e := (.iinc 1 1, 205, 0, 0, 0)) rfl (fun _ _ _ => rfl) (by decide) : mo_Sim 92 202 (ma_iinc 1 (.ofNat 1) 202 205)) (mt_none)))
set_option maxRecDepth 100000 in
theorem smt92_55 (k : Nat) : ∀ f, mt92_55 k = some f → mo_Sim 92 k f := mt_leaf (ms_goto (e := (.goto (-22), 208, 183, 0, 0)) rfl (fun _ _ _ => rfl) : mo_Sim 92 205 (ma_goto 183)) (mt_leaf (ms_pushi (e := (.iconst 0, 209, 0, 0, 0)) rfl (fun _ _ _ => rfl) (by decide) : mo_Sim 92 208 (ma_push (ma_ci (.ofNat 0)) 209)) (mt_leaf (ms_ist (e := (.istore_n 1, 210, 0, 0, 0)) rfl (fun _ _ _ => rfl) : mo_Sim 92 209 (ma_stor 0 1 210)) (mt_leaf (ms_ild (e := (.iload_n 1, 211, 0, 0, 0)) rfl (fun _ _ _ => rfl) : mo_Sim 92 210 (ma_load 0 1 211)) (mt_none))))
set_option maxRecDepth 100000 in
theorem smt92_53 (k : Nat) : ∀ f, mt92_53 k = some f → mo_Sim 92 k f := mt_node (smt92_54 k) (smt92_55 k)
set_option maxRecDepth 100000 in
theorem smt92_49 (k : Nat) : ∀ f, mt92_49 k = some f → mo_Sim 92 k f := mt_node (smt92_50 k) (smt92_53 k)
set_option maxRecDepth 100000 in
theorem smt92_58 (k : Nat) : ∀ f, mt92_58 k = some f → mo_Sim 92 k f := mt_leaf (ms_pushi (e := (.iconst 3, 212, 0, 0, 0)) rfl (fun _ _ _ => rfl) (by decide) : mo_Sim 92 211 (ma_push (ma_ci (.ofNat 3)) 212)) (mt_leaf (ms_if2 (e := (.if_icmp .ge 22, 215, 234, 0, 0)) rfl (fun _ _ _ => rfl) : mo_Sim 92 212 (ma_if2 .ge 234 212 215)) (mt_leaf (ms_ald (e := (.aload_n 0, 216, 0, 0, 0)) rfl (fun _ _ _ => rfl) : mo_Sim 92 215 (ma_lda 0 216)) (mt_none)))
set_option maxRecDepth 100000 in
theorem smt92_59 (k : Nat) : ∀ f, mt92_59 k = some f → mo_Sim 92 k f := mt_leaf (ms_getf (e := (.getfield 37, 219, 11, 4, 464)) rfl (fun _ _ _ => rfl) : mo_Sim 92 216 (ma_getf 11 4 219)) (mt_leaf (ms_ild (e := (.iload_n 1, 220, 0, 0, 0)) rfl (fun _ _ _ => rfl) : mo_Sim 92 219 (ma_load 0 1 220)) (mt_leaf (ms_newo (e := (.new 35, 223, 6, 0, 173)) rfl rfl (fun _ _ _ => rfl) rfl mo_bl_6 : mo_Sim 92 220 (ma_new (6, .inl [ma_ci (.ofNat 0), ma_ci (.ofNat 0), ma_ci (.ofNat 0), ma_null, ma_null]) 223)) (mt_leaf (ms_dup (e := (.dup, 224, 0, 0, 0)) rfl (fun _ _ _ => rfl) : mo_Sim 92 223 (ma_dup 224)) (mt_none))))
set_option maxRecDepth 100000 in
theorem smt92_57 (k : Nat) : ∀ f, mt92_57 k = some f → mo_Sim 92 k f := mt_node (smt92_58 k) (smt92_59 k)
set_option maxRecDepth 100000 in
theorem smt92_61 (k : Nat) : ∀ f, mt92_61 k = some f → mo_Sim 92 k f := mt_leaf (ms_invI (p := 0) (e := (.invokespecial 98, 227, 46, 3, 411)) rfl rfl (fun _ _ _ => rfl) rfl rfl : mo_Sim 92 224 (ma_inv 46 1 1 21 227)) (mt_leaf (ms_aast (e := (.aastore, 228, 0, 0, 0)) rfl rfl (fun _ _ _ => rfl) : mo_Sim 92 227 (ma_aast 228)) (mt_leaf (ms_iinc (e := (.iinc 1 1, 231, 0, 0, 0)) rfl (fun _ _ _ => rfl) (by decide) : mo_Sim 92 228 (ma_iinc 1 (.ofNat 1) 228 231)) (mt_leaf (ms_goto (e := (.goto (-21), 234, 210, 0, 0)) rfl (fun _ _ _ => rfl) : mo_Sim 92 231 (ma_goto 210)) (mt_none))))
set_option maxRecDepth 100000 in
theorem smt92_62 (k : Nat) : ∀ f, mt92_62 k = some f → mo_Sim 92 k f := mt_leaf (ms_ald (e := (.aload_n 0, 235, 0, 0, 0)) rfl (fun _ _ _ => rfl) : mo_Sim 92 234 (ma_lda 0 235)) (mt_leaf (ms_pushi (e := (.iconst 2, 236, 0, 0, 0)) rfl (fun _ _ _ => rfl) (by decide) : mo_Sim 92 235 (ma_push (ma_ci (.ofNat 2)) 236)) (mt_leaf (ms_invV (p := 1) (e := (.invokevirtual 99, 239, 122, 0, 439)) rfl rfl (fun _ _ _ => rfl) rfl rfl rfl (by decide) : mo_Sim 92 236 (ma_inv 122 2 2 11 239)) (mt_leaf (ms_retv (e := (.return_, 240, 0, 0, 0)) rfl rfl (fun _ _ _ => rfl) : mo_Sim 92 239 (ma_retv)) (mt_none))))
set_option maxRecDepth 100000 in
theorem smt92_60 (k : Nat) : ∀ f, mt92_60 k = some f → mo_Sim 92 k f := mt_node (smt92_61 k) (smt92_62 k)
set_option maxRecDepth 100000 in
theorem smt92_56 (k : Nat) : ∀ f, mt92_56 k = some f → mo_Sim 92 k f := mt_node (smt92_57 k) (smt92_60 k)
set_option maxRecDepth 100000 in
theorem smt92_48 (k : Nat) : ∀ f, mt92_48 k = some f → mo_Sim 92 k f := mt_node (smt92_49 k) (smt92_56 k)
set_option maxRecDepth 100000 in
theorem smt92_32 (k : Nat) : ∀ f, mt92_32 k = some f → mo_Sim 92 k f := mt_node (smt92_33 k) (smt92_48 k)
set_option maxRecDepth 100000 in
theorem smt92_0 (k : Nat) : ∀ f, mt92_0 k = some f → mo_Sim 92 k f := mt_node (smt92_1 k) (smt92_32 k)
set_option maxRecDepth 100000 in
theorem smt122_3 (k : Nat) : ∀ f, mt122_3 k = some f → mo_Sim 122 k f := mt_leaf (ms_ald (e := (.aload_n 0, 1, 0, 0, 0)) rfl (fun _ _ _ => rfl) : mo_Sim 122 0 (ma_lda 0 1)) (mt_leaf (ms_getf (e := (.getfield 10, 4, 11, 0, 460)) rfl (fun _ _ _ => rfl) : mo_Sim 122 1 (ma_getf 11 0 4)) (mt_leaf (ms_ild (e := (.iload_n 1, 5, 0, 0, 0)) rfl (fun _ _ _ => rfl) : mo_Sim 122 4 (ma_load 0 1 5)) (mt_none)))
set_option maxRecDepth 100000 in
theorem smt122_4 (k : Nat) : ∀ f, mt122_4 k = some f → mo_Sim 122 k f := mt_leaf (ms_invV (p := 1) (e := (.invokevirtual 313, 8, 11, 0, 443)) rfl rfl (fun _ _ _ => rfl) rfl rfl rfl (by decide) : mo_Sim 122 5 (ma_inv 11 2 6 1 8)) (mt_leaf (ms_ald (e := (.aload_n 0, 9, 0, 0, 0)) rfl (fun _ _ _ => rfl) : mo_Sim 122 8 (ma_lda 0 9)) (mt_leaf (ms_getf (e := (.getfield 89, 12, 11, 12, 472)) rfl (fun _ _ _ => rfl) : mo_Sim 122 9 (ma_getf 11 12 12)) (mt_leaf (ms_ild (e := (.iload_n 1, 13, 0, 0, 0)) rfl (fun _ _ _ => rfl) : mo_Sim 122 12 (ma_load 0 1 13)) (mt_none))))
set_option maxRecDepth 100000 in
theorem smt122_2 (k : Nat) : ∀ f, mt122_2 k = some f → mo_Sim 122 k f := mt_node (smt122_3 k) (smt122_4 k)
set_option maxRecDepth 100000 in
theorem smt122_6 (k : Nat) : ∀ f, mt122_6 k = some f → mo_Sim 122 k f := mt_leaf (ms_ild (e := (.iload_n 1, 14, 0, 0, 0)) rfl (fun _ _ _ => rfl) : mo_Sim 122 13 (ma_load 0 1 14)) (mt_leaf (ms_i2 (e := (.imul, 15, 0, 0, 0)) rfl (fun _ _ _ => rfl) hf_mul : mo_Sim 122 14 (ma_i2 ma_fmul 14 15)) (mt_leaf (ms_ild (e := (.iload_n 1, 16, 0, 0, 0)) rfl (fun _ _ _ => rfl) : mo_Sim 122 15 (ma_load 0 1 16)) (mt_leaf (ms_pushi (e := (.iconst 1, 17, 0, 0, 0)) rfl (fun _ _ _ => rfl) (by decide) : mo_Sim 122 16 (ma_push (ma_ci (.ofNat 1)) 17)) (mt_none))))
set_option maxRecDepth 100000 in
theorem smt122_7 (k : Nat) : ∀ f, mt122_7 k = some f → mo_Sim 122 k f := mt_leaf (ms_invV (p := 3) (e := (.invokevirtual 315, 20, 44, 0, 447)) rfl rfl (fun _ _ _ => rfl) rfl rfl rfl (by decide) : mo_Sim 122 17 (ma_inv 44 4 4 5 20)) (mt_leaf (ms_ald (e := (.aload_n 0, 21, 0, 0, 0)) rfl (fun _ _ _ => rfl) : mo_Sim 122 20 (ma_lda 0 21)) (mt_leaf (ms_pushi (e := (.iconst 0, 22, 0, 0, 0)) rfl (fun _ _ _ => rfl) (by decide) : mo_Sim 122 21 (ma_push (ma_ci (.ofNat 0)) 22)) (mt_leaf (ms_putf (e := (.putfield 123, 25, 11, 14, 474)) rfl rfl (fun _ _ _ => rfl) (Or.inl ⟨rfl, rfl⟩) : mo_Sim 122 22 (ma_putf 11 14 0 25)) (mt_none))))
set_option maxRecDepth 100000 in
theorem smt122_5 (k : Nat) : ∀ f, mt122_5 k = some f → mo_Sim 122 k f := mt_node (smt122_6 k) (smt122_7 k)
set_option maxRecDepth 100000 in
theorem smt122_1 (k : Nat) : ∀ f, mt122_1 k = some f → mo_Sim 122 k f := mt_node (smt122_2 k) (smt122_5 k)
set_option maxRecDepth 100000 in
theorem smt122_10 (k : Nat) : ∀ f, mt122_10 k = some f → mo_Sim 122 k f := mt_leaf (ms_ald (e := (.aload_n 0, 26, 0, 0, 0)) rfl (fun _ _ _ => rfl) : mo_Sim 122 25 (ma_lda 0 26)) (mt_leaf (ms_pushi (e := (.iconst 0, 27, 0, 0, 0)) rfl (fun _ _ _ => rfl) (by decide) : mo_Sim 122 26 (ma_push (ma_ci (.ofNat 0)) 27)) (mt_leaf (ms_putf (e := (.putfield 149, 30, 11, 15, 475)) rfl rfl (fun _ _ _ => rfl) (Or.inl ⟨rfl, rfl⟩) : mo_Sim 122 27 (ma_putf 11 15 0 30)) (mt_leaf (ms_ald (e := (.aload_n 0, 31, 0, 0, 0)) rfl (fun _ _ _ => rfl) : mo_Sim 122 30 (ma_lda 0 31)) (mt_none))))
set_option maxRecDepth 100000 in
theorem smt122_11 (k : Nat) : ∀ f, mt122_11 k = some f → mo_Sim 122 k f := mt_leaf (ms_invV (p := 0) (e := (.invokevirtual 146, 34, 123, 0, 452)) rfl rfl (fun _ _ _ => rfl) rfl rfl rfl (by decide) : mo_Sim 122 31 (ma_inv 123 1 2 11 34)) (mt_leaf (ms_ald (e := (.aload_n 0, 35, 0, 0, 0)) rfl (fun _ _ _ => rfl) : mo_Sim 122 34 (ma_lda 0 35)) (mt_leaf (ms_pushi (e := (.iconst 0, 36, 0, 0, 0)) rfl (fun _ _ _ => rfl) (by decide) : mo_Sim 122 35 (ma_push (ma_ci (.ofNat 0)) 36)) (mt_leaf (ms_putf (e := (.putfield 318, 39, 11, 17, 477)) rfl rfl (fun _ _ _ => rfl) (Or.inl ⟨rfl, rfl⟩) : mo_Sim 122 36 (ma_putf 11 17 0 39)) (mt_none))))
set_option maxRecDepth 100000 in
theorem smt122_9 (k : Nat) : ∀ f, mt122_9 k = some f → mo_Sim 122 k f := mt_node (smt122_10 k) (smt122_11 k)
set_option maxRecDepth 100000 in
theorem smt122_13 (k : Nat) : ∀ f, mt122_13 k = some f → mo_Sim 122 k f := mt_leaf (ms_ald (e := (.aload_n 0, 40, 0, 0, 0)) rfl (fun _ _ _ => rfl) : mo_Sim 122 39 (ma_lda 0 40)) (mt_leaf (ms_getf (e := (.getfield 51, 43, 11, 6, 466)) rfl (fun _ _ _ => rfl) : mo_Sim 122 40 (ma_getf 11 6 43)) (mt_leaf (ms_pushi (e := (.iconst 1, 44, 0, 0, 0)) rfl (fun _ _ _ => rfl) (by decide) : mo_Sim 122 43 (ma_push (ma_ci (.ofNat 1)) 44)) (mt_leaf (ms_invV (p := 1) (e := (.invokevirtual 246, 47, 74, 0, 456)) rfl rfl (fun _ _ _ => rfl) rfl rfl rfl (by decide) : mo_Sim 122 44 (ma_inv 74 2 2 9 47)) (mt_none))))
set_option maxRecDepth 100000 in
theorem smt122_14 (k : Nat) : ∀ f, mt122_14 k = some f → mo_Sim 122 k f := mt_leaf (ms_ald (e := (.aload_n 0, 48, 0, 0, 0)) rfl (fun _ _ _ => rfl) : mo_Sim 122 47 (ma_lda 0 48)) (mt_leaf (ms_pushi (e := (.iconst 0, 49, 0, 0, 0)) rfl (fun _ _ _ => rfl) (by decide) : mo_Sim 122 48 (ma_push (ma_ci (.ofNat 0)) 49)) (mt_leaf (ms_putf (e := (.putfield 249, 52, 11, 18, 478)) rfl rfl (fun _ _ _ => rfl) (Or.inr (Or.inl ⟨rfl, rfl⟩)) : mo_Sim 122 49 (ma_putf 11 18 1 52)) (mt_leaf (ms_retv (e := (.return_, 53, 0, 0, 0)) rfl rfl (fun _ _ _ => rfl) : mo_Sim 122 52 (ma_retv)) (mt_none))))
set_option maxRecDepth 100000 in
theorem smt122_12 (k : Nat) : ∀ f, mt122_12 k = some f → mo_Sim 122 k f := mt_node (smt122_13 k) (smt122_14 k)
set_option maxRecDepth 100000 in
theorem smt122_8 (k : Nat) : ∀ f, mt122_8 k = some f → mo_Sim 122 k f := mt_node (smt122_9 k) (smt122_12 k)
set_option maxRecDepth 100000 in
theorem smt122_0 (k : Nat) : ∀ f, mt122_0 k = some f → mo_Sim 122 k f := mt_node (smt122_1 k) (smt122_8 k)
set_option maxRecDepth 100000 in
theorem smt123_2 (k : Nat) : ∀ f, mt123_2 k = some f → mo_Sim 123 k f := mt_leaf (ms_pushi (e := (.iconst 0, 1, 0, 0, 0)) rfl (fun _ _ _ => rfl) (by decide) : mo_Sim 123 0 (ma_push (ma_ci (.ofNat 0)) 1)) (mt_leaf (ms_ist (e := (.istore_n 1, 2, 0, 0, 0)) rfl (fun _ _ _ => rfl) : mo_Sim 123 1 (ma_stor 0 1 2)) (mt_leaf (ms_ild (e := (.iload_n 1, 3, 0, 0, 0)) rfl (fun _ _ _ => rfl) : mo_Sim 123 2 (ma_load 0 1 3)) (mt_none)))
set_option maxRecDepth 100000 in
theorem smt123_3 (k : Nat) : ∀ f, mt123_3 k = some f → mo_Sim 123 k f := mt_leaf (ms_pushi (e := (.iconst 3, 4, 0, 0, 0)) rfl (fun _ _ _ => rfl) (by decide) : mo_Sim 123 3 (ma_push (ma_ci (.ofNat 3)) 4)) (mt_leaf (ms_if2 (e := (.if_icmp .ge 19, 7, 23, 0, 0)) rfl (fun _ _ _ => rfl) : mo_Sim 123 4 (ma_if2 .ge 23 4 7)) (mt_leaf (ms_ald (e := (.aload_n 0, 8, 0, 0, 0)) rfl (fun _ _ _ => rfl) : mo_Sim 123 7 (ma_lda 0 8)) (mt_leaf (ms_getf (e := (.getfield 37, 11, 11, 4, 464)) rfl (fun _ _ _ => rfl) : mo_Sim 123 8 (ma_getf 11 4 11)) (mt_none))))
set_option maxRecDepth 100000 in
theorem smt123_1 (k : Nat) : ∀ f, mt123_1 k = some f → mo_Sim 123 k f := mt_node (smt123_2 k) (smt123_3 k)
set_option maxRecDepth 100000 in
theorem smt123_5 (k : Nat) : ∀ f, mt123_5 k = some f → mo_Sim 123 k f := mt_leaf (ms_ild (e := (.iload_n 1, 12, 0, 0, 0)) rfl (fun _ _ _ => rfl) : mo_Sim 123 11 (ma_load 0 1 12)) (mt_leaf (ms_aald (e := (.aaload, 13, 0, 0, 0)) rfl (fun _ _ _ => rfl) : mo_Sim 123 12 (ma_aald 12 13)) (mt_leaf (ms_pushi (e := (.iconst 0, 14, 0, 0, 0)) rfl (fun _ _ _ => rfl) (by decide) : mo_Sim 123 13 (ma_push (ma_ci (.ofNat 0)) 14)) (mt_none)))
set_option maxRecDepth 100000 in
theorem smt123_6 (k : Nat) : ∀ f, mt123_6 k = some f → mo_Sim 123 k f := mt_leaf (ms_putf (e := (.putfield 321, 17, 6, 0, 416)) rfl rfl (fun _ _ _ => rfl) (Or.inr (Or.inl ⟨rfl, rfl⟩)) : mo_Sim 123 14 (ma_putf 6 0 1 17)) (mt_leaf (ms_iinc (e := (.iinc 1 1, 20, 0, 0, 0)) rfl (fun _ _ _ => rfl) (by decide) : mo_Sim 123 17 (ma_iinc 1 (.ofNat 1) 17 20)) (mt_leaf (ms_goto (e := (.goto (-18), 23, 2, 0, 0)) rfl (fun _ _ _ => rfl) : mo_Sim 123 20 (ma_goto 2)) (mt_leaf (ms_retv (e := (.return_, 24, 0, 0, 0)) rfl rfl (fun _ _ _ => rfl) : mo_Sim 123 23 (ma_retv)) (mt_none))))
set_option maxRecDepth 100000 in
theorem smt123_4 (k : Nat) : ∀ f, mt123_4 k = some f → mo_Sim 123 k f := mt_node (smt123_5 k) (smt123_6 k)
set_option maxRecDepth 100000 in
theorem smt123_0 (k : Nat) : ∀ f, mt123_0 k = some f → mo_Sim 123 k f := mt_node (smt123_1 k) (smt123_4 k)
set_option maxRecDepth 100000 in
theorem smt139_5 (k : Nat) : ∀ f, mt139_5 k = some f → mo_Sim 139 k f := mt_leaf (ms_ald (e := (.aload_n 0, 1, 0, 0, 0)) rfl (fun _ _ _ => rfl) : mo_Sim 139 0 (ma_lda 0 1)) (mt_leaf (ms_obj (e := (.invokespecial 1, 4, 0, 4, 1051)) rfl (fun _ _ _ => rfl) : mo_Sim 139 1 (ma_obj 4)) (mt_leaf (ms_ald (e := (.aload_n 0, 5, 0, 0, 0)) rfl (fun _ _ _ => rfl) : mo_Sim 139 4 (ma_lda 0 5)) (mt_none)))
set_option maxRecDepth 100000 in
theorem smt139_6 (k : Nat) : ∀ f, mt139_6 k = some f → mo_Sim 139 k f := mt_leaf (ms_pushi (e := (.iconst 2, 6, 0, 0, 0)) rfl (fun _ _ _ => rfl) (by decide) : mo_Sim 139 5 (ma_push (ma_ci (.ofNat 2)) 6)) (mt_leaf (ms_putf (e := (.putfield 7, 9, 12, 0, 1052)) rfl rfl (fun _ _ _ => rfl) (Or.inl ⟨rfl, rfl⟩) : mo_Sim 139 6 (ma_putf 12 0 0 9)) (mt_leaf (ms_ald (e := (.aload_n 0, 10, 0, 0, 0)) rfl (fun _ _ _ => rfl) : mo_Sim 139 9 (ma_lda 0 10)) (mt_none)))
set_option maxRecDepth 100000 in
theorem smt139_4 (k : Nat) : ∀ f, mt139_4 k = some f → mo_Sim 139 k f := mt_node (smt139_5 k) (smt139_6 k)
set_option maxRecDepth 100000 in
theorem smt139_8 (k : Nat) : ∀ f, mt139_8 k = some f → mo_Sim 139 k f := mt_leaf (ms_pushi (e := (.bipush 10, 12, 0, 0, 0)) rfl (fun _ _ _ => rfl) (by decide) : mo_Sim 139 10 (ma_push (ma_ci (.ofNat 10)) 12)) (mt_leaf (ms_newaI (e := (.newarray .int, 14, 0, 0, 0)) rfl rfl (fun _ _ _ => rfl) : mo_Sim 139 12 (ma_newa 13 (ma_ci (.ofNat 0)) 14)) (mt_leaf (ms_putf (e := (.putfield 13, 17, 12, 1, 1053)) rfl rfl (fun _ _ _ => rfl) (Or.inr (Or.inr (Or.inl ⟨rfl, Or.inr ⟨_, rfl⟩⟩))) : mo_Sim 139 14 (ma_putf 12 1 2 17)) (mt_none)))
set_option maxRecDepth 100000 in
theorem smt139_9 (k : Nat) : ∀ f, mt139_9 k = some f → mo_Sim 139 k f := mt_leaf (ms_ald (e := (.aload_n 0, 18, 0, 0, 0)) rfl (fun _ _ _ => rfl) : mo_Sim 139 17 (ma_lda 0 18)) (mt_leaf (ms_pushi (e := (.bipush 10, 20, 0, 0, 0)) rfl (fun _ _ _ => rfl) (by decide) : mo_Sim 139 18 (ma_push (ma_ci (.ofNat 10)) 20)) (mt_leaf (ms_newaI (e := (.newarray .int, 22, 0, 0, 0)) rfl rfl (fun _ _ _ => rfl) : mo_Sim 139 20 (ma_newa 13 (ma_ci (.ofNat 0)) 22)) (mt_none)))
set_option maxRecDepth 100000 in
theorem smt139_7 (k : Nat) : ∀ f, mt139_7 k = some f → mo_Sim 139 k f := mt_node (smt139_8 k) (smt139_9 k)
set_option maxRecDepth 100000 in
theorem smt139_3 (k : Nat) : ∀ f, mt139_3 k = some f → mo_Sim 139 k f := mt_node (smt139_4 k) (smt139_7 k)
set_option maxRecDepth 100000 in
theorem smt139_12 (k : Nat) : ∀ f, mt139_12 k = some f → mo_Sim 139 k f := mt_leaf (ms_putf (e := (.putfield 17, 25, 12, 2, 1054)) rfl rfl (fun _ _ _ => rfl) (Or.inr (Or.inr (Or.inl ⟨rfl, Or.inr ⟨_, rfl⟩⟩))) : mo_Sim 139 22 (ma_putf 12 2 2 25)) (mt_leaf (ms_ald (e := (.aload_n 0, 26, 0, 0, 0)) rfl (fun _ _ _ => rfl) : mo_Sim 139 25 (ma_lda 0 26)) (mt_leaf (ms_pushi (e := (.sipush 320, 29, 0, 0, 0)) rfl (fun _ _ _ => rfl) (by decide) : mo_Sim 139 26 (ma_push (ma_ci (.ofNat 320)) 29)) (mt_none)))
set_option maxRecDepth 100000 in
theorem smt139_13 (k : Nat) : ∀ f, mt139_13 k = some f → mo_Sim 139 k f := mt_leaf (ms_newaL (e := (.newarray .long, 31, 0, 0, 0)) rfl rfl (fun _ _ _ => rfl) : mo_Sim 139 29 (ma_newa 14 (ma_cl (.ofNat 0)) 31)) (mt_leaf (ms_putf (e := (.putfield 20, 34, 12, 3, 1055)) rfl rfl (fun _ _ _ => rfl) (Or.inr (Or.inr (Or.inl ⟨rfl, Or.inr ⟨_, rfl⟩⟩))) : mo_Sim 139 31 (ma_putf 12 3 2 34)) (mt_leaf (ms_ald (e := (.aload_n 0, 35, 0, 0, 0)) rfl (fun _ _ _ => rfl) : mo_Sim 139 34 (ma_lda 0 35)) (mt_none)))
set_option maxRecDepth 100000 in
theorem smt139_11 (k : Nat) : ∀ f, mt139_11 k = some f → mo_Sim 139 k f := mt_node (smt139_12 k) (smt139_13 k)
set_option maxRecDepth 100000 in
theorem smt139_15 (k : Nat) : ∀ f, mt139_15 k = some f → mo_Sim 139 k f := mt_leaf (ms_pushi (e := (.bipush 8, 37, 0, 0, 0)) rfl (fun _ _ _ => rfl) (by decide) : mo_Sim 139 35 (ma_push (ma_ci (.ofNat 8)) 37)) (mt_leaf (ms_newaI (e := (.newarray .int, 39, 0, 0, 0)) rfl rfl (fun _ _ _ => rfl) : mo_Sim 139 37 (ma_newa 13 (ma_ci (.ofNat 0)) 39)) (mt_leaf (ms_putf (e := (.putfield 24, 42, 12, 5, 1057)) rfl rfl (fun _ _ _ => rfl) (Or.inr (Or.inr (Or.inl ⟨rfl, Or.inr ⟨_, rfl⟩⟩))) : mo_Sim 139 39 (ma_putf 12 5 2 42)) (mt_none)))
set_option maxRecDepth 100000 in
theorem smt139_16 (k : Nat) : ∀ f, mt139_16 k = some f → mo_Sim 139 k f := mt_leaf (ms_ald (e := (.aload_n 0, 43, 0, 0, 0)) rfl (fun _ _ _ => rfl) : mo_Sim 139 42 (ma_lda 0 43)) (mt_leaf (ms_pushi (e := (.sipush 216, 46, 0, 0, 0)) rfl (fun _ _ _ => rfl) (by decide) : mo_Sim 139 43 (ma_push (ma_ci (.ofNat 216)) 46)) (mt_leaf (ms_newaI (e := (.newarray .int, 48, 0, 0, 0)) rfl rfl (fun _ _ _ => rfl) : mo_Sim 139 46 (ma_newa 13 (ma_ci (.ofNat 0)) 48)) (mt_none)))
set_option maxRecDepth 100000 in
theorem smt139_14 (k : Nat) : ∀ f, mt139_14 k = some f → mo_Sim 139 k f := mt_node (smt139_15 k) (smt139_16 k)
set_option maxRecDepth 100000 in
theorem smt139_10 (k : Nat) : ∀ f, mt139_10 k = some f → mo_Sim 139 k f := mt_node (smt139_11 k) (smt139_14 k)
set_option maxRecDepth 100000 in
theorem smt139_2 (k : Nat) : ∀ f, mt139_2 k = some f → mo_Sim 139 k f := mt_node (smt139_3 k) (smt139_10 k)
set_option maxRecDepth 100000 in
theorem smt139_20 (k : Nat) : ∀ f, mt139_20 k = some f → mo_Sim 139 k f := mt_leaf (ms_putf (e := (.putfield 27, 51, 12, 6, 1058)) rfl rfl (fun _ _ _ => rfl) (Or.inr (Or.inr (Or.inl ⟨rfl, Or.inr ⟨_, rfl⟩⟩))) : mo_Sim 139 48 (ma_putf 12 6 2 51)) (mt_leaf (ms_ald (e := (.aload_n 0, 52, 0, 0, 0)) rfl (fun _ _ _ => rfl) : mo_Sim 139 51 (ma_lda 0 52)) (mt_leaf (ms_pushi (e := (.bipush 12, 54, 0, 0, 0)) rfl (fun _ _ _ => rfl) (by decide) : mo_Sim 139 52 (ma_push (ma_ci (.ofNat 12)) 54)) (mt_none)))
set_option maxRecDepth 100000 in
theorem smt139_21 (k : Nat) : ∀ f, mt139_21 k = some f → mo_Sim 139 k f := mt_leaf (ms_newaI (e := (.newarray .int, 56, 0, 0, 0)) rfl rfl (fun _ _ _ => rfl) : mo_Sim 139 54 (ma_newa 13 (ma_ci (.ofNat 0)) 56)) (mt_leaf (ms_putf (e := (.putfield 30, 59, 12, 8, 1060)) rfl rfl (fun _ _ _ => rfl) (Or.inr (Or.inr (Or.inl ⟨rfl, Or.inr ⟨_, rfl⟩⟩))) : mo_Sim 139 56 (ma_putf 12 8 2 59)) (mt_leaf (ms_ald (e := (.aload_n 0, 60, 0, 0, 0)) rfl (fun _ _ _ => rfl) : mo_Sim 139 59 (ma_lda 0 60)) (mt_none)))
set_option maxRecDepth 100000 in
theorem smt139_19 (k : Nat) : ∀ f, mt139_19 k = some f → mo_Sim 139 k f := mt_node (smt139_20 k) (smt139_21 k)
set_option maxRecDepth 100000 in
theorem smt139_23 (k : Nat) : ∀ f, mt139_23 k = some f → mo_Sim 139 k f := mt_leaf (ms_pushi (e := (.bipush 12, 62, 0, 0, 0)) rfl (fun _ _ _ => rfl) (by decide) : mo_Sim 139 60 (ma_push (ma_ci (.ofNat 12)) 62)) (mt_leaf (ms_newaL (e := (.newarray .long, 64, 0, 0, 0)) rfl rfl (fun _ _ _ => rfl) : mo_Sim 139 62 (ma_newa 14 (ma_cl (.ofNat 0)) 64)) (mt_leaf (ms_putf (e := (.putfield 33, 67, 12, 9, 1061)) rfl rfl (fun _ _ _ => rfl) (Or.inr (Or.inr (Or.inl ⟨rfl, Or.inr ⟨_, rfl⟩⟩))) : mo_Sim 139 64 (ma_putf 12 9 2 67)) (mt_none)))
set_option maxRecDepth 100000 in
theorem smt139_24 (k : Nat) : ∀ f, mt139_24 k = some f → mo_Sim 139 k f := mt_leaf (ms_ald (e := (.aload_n 0, 68, 0, 0, 0)) rfl (fun _ _ _ => rfl) : mo_Sim 139 67 (ma_lda 0 68)) (mt_leaf (ms_pushi (e := (.iconst 1, 69, 0, 0, 0)) rfl (fun _ _ _ => rfl) (by decide) : mo_Sim 139 68 (ma_push (ma_ci (.ofNat 1)) 69)) (mt_leaf (ms_putf (e := (.putfield 36, 72, 12, 10, 1062)) rfl rfl (fun _ _ _ => rfl) (Or.inl ⟨rfl, rfl⟩) : mo_Sim 139 69 (ma_putf 12 10 0 72)) (mt_none)))
set_option maxRecDepth 100000 in
theorem smt139_22 (k : Nat) : ∀ f, mt139_22 k = some f → mo_Sim 139 k f := mt_node (smt139_23 k) (smt139_24 k)
set_option maxRecDepth 100000 in
theorem smt139_18 (k : Nat) : ∀ f, mt139_18 k = some f → mo_Sim 139 k f := mt_node (smt139_19 k) (smt139_22 k)
set_option maxRecDepth 100000 in
theorem smt139_27 (k : Nat) : ∀ f, mt139_27 k = some f → mo_Sim 139 k f := mt_leaf (ms_ald (e := (.aload_n 0, 73, 0, 0, 0)) rfl (fun _ _ _ => rfl) : mo_Sim 139 72 (ma_lda 0 73)) (mt_leaf (ms_pushi (e := (.bipush 30, 75, 0, 0, 0)) rfl (fun _ _ _ => rfl) (by decide) : mo_Sim 139 73 (ma_push (ma_ci (.ofNat 30)) 75)) (mt_leaf (ms_newaI (e := (.newarray .int, 77, 0, 0, 0)) rfl rfl (fun _ _ _ => rfl) : mo_Sim 139 75 (ma_newa 13 (ma_ci (.ofNat 0)) 77)) (mt_none)))
set_option maxRecDepth 100000 in
theorem smt139_28 (k : Nat) : ∀ f, mt139_28 k = some f → mo_Sim 139 k f := mt_leaf (ms_putf (e := (.putfield 39, 80, 12, 12, 1064)) rfl rfl (fun _ _ _ => rfl) (Or.inr (Or.inr (Or.inl ⟨rfl, Or.inr ⟨_, rfl⟩⟩))) : mo_Sim 139 77 (ma_putf 12 12 2 80)) (mt_leaf (ms_ald (e := (.aload_n 0, 81, 0, 0, 0)) rfl (fun _ _ _ => rfl) : mo_Sim 139 80 (ma_lda 0 81)) (mt_leaf (ms_pushi (e := (.bipush 90, 83, 0, 0, 0)) rfl (fun _ _ _ => rfl) (by decide) : mo_Sim 139 81 (ma_push (ma_ci (.ofNat 90)) 83)) (mt_none)))
set_option maxRecDepth 100000 in
theorem smt139_26 (k : Nat) : ∀ f, mt139_26 k = some f → mo_Sim 139 k f := mt_node (smt139_27 k) (smt139_28 k)
set_option maxRecDepth 100000 in
theorem smt139_30 (k : Nat) : ∀ f, mt139_30 k = some f → mo_Sim 139 k f := mt_leaf (ms_newaI (e := (.newarray .int, 85, 0, 0, 0)) rfl rfl (fun _ _ _ => rfl) : mo_Sim 139 83 (ma_newa 13 (ma_ci (.ofNat 0)) 85)) (mt_leaf (ms_putf (e := (.putfield 42, 88, 12, 13, 1065)) rfl rfl (fun _ _ _ => rfl) (Or.inr (Or.inr (Or.inl ⟨rfl, Or.inr ⟨_, rfl⟩⟩))) : mo_Sim 139 85 (ma_putf 12 13 2 88)) (mt_leaf (ms_ald (e := (.aload_n 0, 89, 0, 0, 0)) rfl (fun _ _ _ => rfl) : mo_Sim 139 88 (ma_lda 0 89)) (mt_none)))
set_option maxRecDepth 100000 in
theorem smt139_31 (k : Nat) : ∀ f, mt139_31 k = some f → mo_Sim 139 k f := mt_leaf (ms_pushi (e := (.sipush 1024, 92, 0, 0, 0)) rfl (fun _ _ _ => rfl) (by decide) : mo_Sim 139 89 (ma_push (ma_ci (.ofNat 1024)) 92)) (mt_leaf (ms_newaI (e := (.newarray .int, 94, 0, 0, 0)) rfl rfl (fun _ _ _ => rfl) : mo_Sim 139 92 (ma_newa 13 (ma_ci (.ofNat 0)) 94)) (mt_leaf (ms_putf (e := (.putfield 45, 97, 12, 14, 1066)) rfl rfl (fun _ _ _ => rfl) (Or.inr (Or.inr (Or.inl ⟨rfl, Or.inr ⟨_, rfl⟩⟩))) : mo_Sim 139 94 (ma_putf 12 14 2 97)) (mt_none)))
set_option maxRecDepth 100000 in
theorem smt139_29 (k : Nat) : ∀ f, mt139_29 k = some f → mo_Sim 139 k f := mt_node (smt139_30 k) (smt139_31 k)
set_option maxRecDepth 100000 in
theorem smt139_25 (k : Nat) : ∀ f, mt139_25 k = some f → mo_Sim 139 k f := mt_node (smt139_26 k) (smt139_29 k)
set_option maxRecDepth 100000 in
theorem smt139_17 (k : Nat) : ∀ f, mt139_17 k = some f → mo_Sim 139 k f := mt_node (smt139_18 k) (smt139_25 k)
set_option maxRecDepth 100000 in
theorem smt139_1 (k : Nat) : ∀ f, mt139_1 k = some f → mo_Sim 139 k f := mt_node (smt139_2 k) (smt139_17 k)
set_option maxRecDepth 100000 in
theorem smt139_36 (k : Nat) : ∀ f, mt139_36 k = some f → mo_Sim 139 k f := mt_leaf (ms_ald (e := (.aload_n 0, 98, 0, 0, 0)) rfl (fun _ _ _ => rfl) : mo_Sim 139 97 (ma_lda 0 98)) (mt_leaf (ms_pushi (e := (.sipush 1024, 101, 0, 0, 0)) rfl (fun _ _ _ => rfl) (by decide) : mo_Sim 139 98 (ma_push (ma_ci (.ofNat 1024)) 101)) (mt_leaf (ms_newaI (e := (.newarray .int, 103, 0, 0, 0)) rfl rfl (fun _ _ _ => rfl) : mo_Sim 139 101 (ma_newa 13 (ma_ci (.ofNat 0)) 103)) (mt_none)))
set_option maxRecDepth 100000 in
theorem smt139_37 (k : Nat) : ∀ f, mt139_37 k = some f → mo_Sim 139 k f := mt_leaf (ms_putf (e := (.putfield 48, 106, 12, 15, 1067)) rfl rfl (fun _ _ _ => rfl) (Or.inr (Or.inr (Or.inl ⟨rfl, Or.inr ⟨_, rfl⟩⟩))) : mo_Sim 139 103 (ma_putf 12 15 2 106)) (mt_leaf (ms_ald (e := (.aload_n 0, 107, 0, 0, 0)) rfl (fun _ _ _ => rfl) : mo_Sim 139 106 (ma_lda 0 107)) (mt_leaf (ms_pushi (e := (.iconst 4, 108, 0, 0, 0)) rfl (fun _ _ _ => rfl) (by decide) : mo_Sim 139 107 (ma_push (ma_ci (.ofNat 4)) 108)) (mt_none)))
set_option maxRecDepth 100000 in
theorem smt139_35 (k : Nat) : ∀ f, mt139_35 k = some f → mo_Sim 139 k f := mt_node (smt139_36 k) (smt139_37 k)
set_option maxRecDepth 100000 in
theorem smt139_39 (k : Nat) : ∀ f, mt139_39 k = some f → mo_Sim 139 k f := mt_leaf (ms_newaI (e := (.newarray .int, 110, 0, 0, 0)) rfl rfl (fun _ _ _ => rfl) : mo_Sim 139 108 (ma_newa 13 (ma_ci (.ofNat 0)) 110)) (mt_leaf (ms_dup (e := (.dup, 111, 0, 0, 0)) rfl (fun _ _ _ => rfl) : mo_Sim 139 110 (ma_dup 111)) (mt_leaf (ms_pushi (e := (.iconst 0, 112, 0, 0, 0)) rfl (fun _ _ _ => rfl) (by decide) : mo_Sim 139 111 (ma_push (ma_ci (.ofNat 0)) 112)) (mt_none)))
set_option maxRecDepth 100000 in
theorem smt139_40 (k : Nat) : ∀ f, mt139_40 k = some f → mo_Sim 139 k f := mt_leaf (ms_pushi (e := (.iconst (-1), 113, 0, 0, 0)) rfl (fun _ _ _ => rfl) (by decide) : mo_Sim 139 112 (ma_push (ma_ci (.negSucc 0)) 113)) (mt_leaf (ms_iast (e := (.iastore, 114, 0, 0, 0)) rfl rfl (fun _ _ _ => rfl) : mo_Sim 139 113 (ma_ast 13 0 113 114)) (mt_leaf (ms_dup (e := (.dup, 115, 0, 0, 0)) rfl (fun _ _ _ => rfl) : mo_Sim 139 114 (ma_dup 115)) (mt_none)))
set_option maxRecDepth 100000 in
theorem smt139_38 (k : Nat) : ∀ f, mt139_38 k = some f → mo_Sim 139 k f := mt_node (smt139_39 k) (smt139_40 k)
set_option maxRecDepth 100000 in
theorem smt139_34 (k : Nat) : ∀ f, mt139_34 k = some f → mo_Sim 139 k f := mt_node (smt139_35 k) (smt139_38 k)
set_option maxRecDepth 100000 in
theorem smt139_43 (k : Nat) : ∀ f, mt139_43 k = some f → mo_Sim 139 k f := mt_leaf (ms_pushi (e := (.iconst 1, 116, 0, 0, 0)) rfl (fun _ _ _ => rfl) (by decide) : mo_Sim 139 115 (ma_push (ma_ci (.ofNat 1)) 116)) (mt_leaf (ms_pushi (e := (.iconst (-1), 117, 0, 0, 0)) rfl (fun _ _ _ => rfl) (by decide) : mo_Sim 139 116 (ma_push (ma_ci (.negSucc 0)) 117)) (mt_leaf (ms_iast (e := (.iastore, 118, 0, 0, 0)) rfl rfl (fun _ _ _ => rfl) : mo_Sim 139 117 (ma_ast 13 0 117 118)) (mt_none)))
set_option maxRecDepth 100000 in
theorem smt139_44 (k : Nat) : ∀ f, mt139_44 k = some f → mo_Sim 139 k f := mt_leaf (ms_dup (e := (.dup, 119, 0, 0, 0)) rfl (fun _ _ _ => rfl) : mo_Sim 139 118 (ma_dup 119)) (mt_leaf (ms_pushi (e := (.iconst 2, 120, 0, 0, 0)) rfl (fun _ _ _ => rfl) (by decide) : mo_Sim 139 119 (ma_push (ma_ci (.ofNat 2)) 120)) (mt_leaf (ms_pushi (e := (.iconst (-1), 121, 0, 0, 0)) rfl (fun _ _ _ => rfl) (by decide) : mo_Sim 139 120 (ma_push (ma_ci (.negSucc 0)) 121)) (mt_none)))
set_option maxRecDepth 100000 in
theorem smt139_42 (k : Nat) : ∀ f, mt139_42 k = some f → mo_Sim 139 k f := mt_node (smt139_43 k) (smt139_44 k)
set_option maxRecDepth 100000 in
theorem smt139_46 (k : Nat) : ∀ f, mt139_46 k = some f → mo_Sim 139 k f := mt_leaf (ms_iast (e := (.iastore, 122, 0, 0, 0)) rfl rfl (fun _ _ _ => rfl) : mo_Sim 139 121 (ma_ast 13 0 121 122)) (mt_leaf (ms_dup (e := (.dup, 123, 0, 0, 0)) rfl (fun _ _ _ => rfl) : mo_Sim 139 122 (ma_dup 123)) (mt_leaf (ms_pushi (e := (.iconst 3, 124, 0, 0, 0)) rfl (fun _ _ _ => rfl) (by decide) : mo_Sim 139 123 (ma_push (ma_ci (.ofNat 3)) 124)) (mt_none)))
set_option maxRecDepth 100000 in
theorem smt139_47 (k : Nat) : ∀ f, mt139_47 k = some f → mo_Sim 139 k f := mt_leaf (ms_pushi (e := (.iconst (-1), 125, 0, 0, 0)) rfl (fun _ _ _ => rfl) (by decide) : mo_Sim 139 124 (ma_push (ma_ci (.negSucc 0)) 125)) (mt_leaf (ms_iast (e := (.iastore, 126, 0, 0, 0)) rfl rfl (fun _ _ _ => rfl) : mo_Sim 139 125 (ma_ast 13 0 125 126)) (mt_leaf (ms_putf (e := (.putfield 51, 129, 12, 16, 1068)) rfl rfl (fun _ _ _ => rfl) (Or.inr (Or.inr (Or.inl ⟨rfl, Or.inr ⟨_, rfl⟩⟩))) : mo_Sim 139 126 (ma_putf 12 16 2 129)) (mt_none)))
set_option maxRecDepth 100000 in
theorem smt139_45 (k : Nat) : ∀ f, mt139_45 k = some f → mo_Sim 139 k f := mt_node (smt139_46 k) (smt139_47 k)
set_option maxRecDepth 100000 in
theorem smt139_41 (k : Nat) : ∀ f, mt139_41 k = some f → mo_Sim 139 k f := mt_node (smt139_42 k) (smt139_45 k)
set_option maxRecDepth 100000 in
theorem smt139_33 (k : Nat) : ∀ f, mt139_33 k = some f → mo_Sim 139 k f := mt_node (smt139_34 k) (smt139_41 k)
set_option maxRecDepth 100000 in
theorem smt139_51 (k : Nat) : ∀ f, mt139_51 k = some f → mo_Sim 139 k f := mt_leaf (ms_ald (e := (.aload_n 0, 130, 0, 0, 0)) rfl (fun _ _ _ => rfl) : mo_Sim 139 129 (ma_lda 0 130)) (mt_leaf (ms_pushi (e := (.sipush 19683, 133, 0, 0, 0)) rfl (fun _ _ _ => rfl) (by decide) : mo_Sim 139 130 (ma_push (ma_ci (.ofNat 19683)) 133)) (mt_leaf (ms_newaI (e := (.newarray .int, 135, 0, 0, 0)) rfl rfl (fun _ _ _ => rfl) : mo_Sim 139 133 (ma_newa 13 (ma_ci (.ofNat 0)) 135)) (mt_none)))
set_option maxRecDepth 100000 in
theorem smt139_52 (k : Nat) : ∀ f, mt139_52 k = some f → mo_Sim 139 k f := mt_leaf (ms_putf (e := (.putfield 54, 138, 12, 17, 1069)) rfl rfl (fun _ _ _ => rfl) (Or.inr (Or.inr (Or.inl ⟨rfl, Or.inr ⟨_, rfl⟩⟩))) : mo_Sim 139 135 (ma_putf 12 17 2 138)) (mt_leaf (ms_ald (e := (.aload_n 0, 139, 0, 0, 0)) rfl (fun _ _ _ => rfl) : mo_Sim 139 138 (ma_lda 0 139)) (mt_leaf (ms_pushi (e := (.sipush 2313, 142, 0, 0, 0)) rfl (fun _ _ _ => rfl) (by decide) : mo_Sim 139 139 (ma_push (ma_ci (.ofNat 2313)) 142)) (mt_none)))
set_option maxRecDepth 100000 in
theorem smt139_50 (k : Nat) : ∀ f, mt139_50 k = some f → mo_Sim 139 k f := mt_node (smt139_51 k) (smt139_52 k)
set_option maxRecDepth 100000 in
theorem smt139_54 (k : Nat) : ∀ f, mt139_54 k = some f → mo_Sim 139 k f := mt_leaf (ms_newaI (e := (.newarray .int, 144, 0, 0, 0)) rfl rfl (fun _ _ _ => rfl) : mo_Sim 139 142 (ma_newa 13 (ma_ci (.ofNat 0)) 144)) (mt_leaf (ms_putf (e := (.putfield 57, 147, 12, 18, 1070)) rfl rfl (fun _ _ _ => rfl) (Or.inr (Or.inr (Or.inl ⟨rfl, Or.inr ⟨_, rfl⟩⟩))) : mo_Sim 139 144 (ma_putf 12 18 2 147)) (mt_leaf (ms_ald (e := (.aload_n 0, 148, 0, 0, 0)) rfl (fun _ _ _ => rfl) : mo_Sim 139 147 (ma_lda 0 148)) (mt_none)))
set_option maxRecDepth 100000 in
theorem smt139_55 (k : Nat) : ∀ f, mt139_55 k = some f → mo_Sim 139 k f := mt_leaf (ms_pushi (e := (.bipush 27, 150, 0, 0, 0)) rfl (fun _ _ _ => rfl) (by decide) : mo_Sim 139 148 (ma_push (ma_ci (.ofNat 27)) 150)) (mt_leaf (ms_newaI (e := (.newarray .int, 152, 0, 0, 0)) rfl rfl (fun _ _ _ => rfl) : mo_Sim 139 150 (ma_newa 13 (ma_ci (.ofNat 0)) 152)) (mt_leaf (ms_putf (e := (.putfield 60, 155, 12, 19, 1071)) rfl rfl (fun _ _ _ => rfl) (Or.inr (Or.inr (Or.inl ⟨rfl, Or.inr ⟨_, rfl⟩⟩))) : mo_Sim 139 152 (ma_putf 12 19 2 155)) (mt_none)))
set_option maxRecDepth 100000 in
theorem smt139_53 (k : Nat) : ∀ f, mt139_53 k = some f → mo_Sim 139 k f := mt_node (smt139_54 k) (smt139_55 k)
set_option maxRecDepth 100000 in
theorem smt139_49 (k : Nat) : ∀ f, mt139_49 k = some f → mo_Sim 139 k f := mt_node (smt139_50 k) (smt139_53 k)
set_option maxRecDepth 100000 in
theorem smt139_58 (k : Nat) : ∀ f, mt139_58 k = some f → mo_Sim 139 k f := mt_leaf (ms_ald (e := (.aload_n 0, 156, 0, 0, 0)) rfl (fun _ _ _ => rfl) : mo_Sim 139 155 (ma_lda 0 156)) (mt_leaf (ms_pushi (e := (.iconst (-1), 157, 0, 0, 0)) rfl (fun _ _ _ => rfl) (by decide) : mo_Sim 139 156 (ma_push (ma_ci (.negSucc 0)) 157)) (mt_leaf (ms_putf (e := (.putfield 63, 160, 12, 20, 1072)) rfl rfl (fun _ _ _ => rfl) (Or.inl ⟨rfl, rfl⟩) : mo_Sim 139 157 (ma_putf 12 20 0 160)) (mt_none)))
set_option maxRecDepth 100000 in
theorem smt139_59 (k : Nat) : ∀ f, mt139_59 k = some f → mo_Sim 139 k f := mt_leaf (ms_ald (e := (.aload_n 0, 161, 0, 0, 0)) rfl (fun _ _ _ => rfl) : mo_Sim 139 160 (ma_lda 0 161)) (mt_leaf (ms_pushi (e := (.sipush 19683, 164, 0, 0, 0)) rfl (fun _ _ _ => rfl) (by decide) : mo_Sim 139 161 (ma_push (ma_ci (.ofNat 19683)) 164)) (mt_leaf (ms_newaI (e := (.newarray .int, 166, 0, 0, 0)) rfl rfl (fun _ _ _ => rfl) : mo_Sim 139 164 (ma_newa 13 (ma_ci (.ofNat 0)) 166)) (mt_none)))
set_option maxRecDepth 100000 in
theorem smt139_57 (k : Nat) : ∀ f, mt139_57 k = some f → mo_Sim 139 k f := mt_node (smt139_58 k) (smt139_59 k)
set_option maxRecDepth 100000 in
theorem smt139_61 (k : Nat) : ∀ f, mt139_61 k = some f → mo_Sim 139 k f := mt_leaf (ms_putf (e := (.putfield 66, 169, 12, 23, 1075)) rfl rfl (fun _ _ _ => rfl) (Or.inr (Or.inr (Or.inl ⟨rfl, Or.inr ⟨_, rfl⟩⟩))) : mo_Sim 139 166 (ma_putf 12 23 2 169)) (mt_leaf (ms_ald (e := (.aload_n 0, 170, 0, 0, 0)) rfl (fun _ _ _ => rfl) : mo_Sim 139 169 (ma_lda 0 170)) (mt_leaf (ms_pushi (e := (.bipush 8, 172, 0, 0, 0)) rfl (fun _ _ _ => rfl) (by decide) : mo_Sim 139 170 (ma_push (ma_ci (.ofNat 8)) 172)) (mt_none)))
set_option maxRecDepth 100000 in
theorem smt139_62 (k : Nat) : ∀ f, mt139_62 k = some f → mo_Sim 139 k f := mt_leaf (ms_newaI (e := (.newarray .int, 174, 0, 0, 0)) rfl rfl (fun _ _ _ => rfl) : mo_Sim 139 172 (ma_newa 13 (ma_ci (.ofNat 0)) 174)) (mt_leaf (ms_putf (e := (.putfield 69, 177, 12, 24, 1076)) rfl rfl (fun _ _ _ => rfl) (Or.inr (Or.inr (Or.inl ⟨rfl, Or.inr ⟨_, rfl⟩⟩))) : mo_Sim 139 174 (ma_putf 12 24 2 177)) (mt_leaf (ms_retv (e := (.return_, 178, 0, 0, 0)) rfl rfl (fun _ _ _ => rfl) : mo_Sim 139 177 (ma_retv)) (mt_none)))
set_option maxRecDepth 100000 in
theorem smt139_60 (k : Nat) : ∀ f, mt139_60 k = some f → mo_Sim 139 k f := mt_node (smt139_61 k) (smt139_62 k)
set_option maxRecDepth 100000 in
theorem smt139_56 (k : Nat) : ∀ f, mt139_56 k = some f → mo_Sim 139 k f := mt_node (smt139_57 k) (smt139_60 k)
set_option maxRecDepth 100000 in
theorem smt139_48 (k : Nat) : ∀ f, mt139_48 k = some f → mo_Sim 139 k f := mt_node (smt139_49 k) (smt139_56 k)
set_option maxRecDepth 100000 in
theorem smt139_32 (k : Nat) : ∀ f, mt139_32 k = some f → mo_Sim 139 k f := mt_node (smt139_33 k) (smt139_48 k)
set_option maxRecDepth 100000 in
theorem smt139_0 (k : Nat) : ∀ f, mt139_0 k = some f → mo_Sim 139 k f := mt_node (smt139_1 k) (smt139_32 k)
set_option maxRecDepth 100000 in
theorem smt205_1 (k : Nat) : ∀ f, mt205_1 k = some f → mo_Sim 205 k f := mt_leaf (ms_ild (e := (.iload_n 0, 1, 0, 0, 0)) rfl (fun _ _ _ => rfl) : mo_Sim 205 0 (ma_load 0 0 1)) (mt_leaf (ms_ild (e := (.iload_n 1, 2, 0, 0, 0)) rfl (fun _ _ _ => rfl) : mo_Sim 205 1 (ma_load 0 1 2)) (mt_leaf (ms_if2 (e := (.if_icmp .lt 7, 5, 9, 0, 0)) rfl (fun _ _ _ => rfl) : mo_Sim 205 2 (ma_if2 .lt 9 2 5)) (mt_none)))
set_option maxRecDepth 100000 in
theorem smt205_2 (k : Nat) : ∀ f, mt205_2 k = some f → mo_Sim 205 k f := mt_leaf (ms_ild (e := (.iload_n 0, 6, 0, 0, 0)) rfl (fun _ _ _ => rfl) : mo_Sim 205 5 (ma_load 0 0 6)) (mt_leaf (ms_goto (e := (.goto 4, 9, 10, 0, 0)) rfl (fun _ _ _ => rfl) : mo_Sim 205 6 (ma_goto 10)) (mt_leaf (ms_ild (e := (.iload_n 1, 10, 0, 0, 0)) rfl (fun _ _ _ => rfl) : mo_Sim 205 9 (ma_load 0 1 10)) (mt_leaf (ms_ret (e := (.ireturn, 11, 0, 0, 0)) rfl (Or.inl ⟨rfl, rfl, (fun _ _ _ => rfl)⟩) : mo_Sim 205 10 (ma_ret 0)) (mt_none))))
set_option maxRecDepth 100000 in
theorem smt205_0 (k : Nat) : ∀ f, mt205_0 k = some f → mo_Sim 205 k f := mt_node (smt205_1 k) (smt205_2 k)
set_option maxRecDepth 100000 in
theorem smt208_2 (k : Nat) : ∀ f, mt208_2 k = some f → mo_Sim 208 k f := mt_leaf (ms_pushi (e := (.iconst 0, 1, 0, 0, 0)) rfl (fun _ _ _ => rfl) (by decide) : mo_Sim 208 0 (ma_push (ma_ci (.ofNat 0)) 1)) (mt_leaf (ms_ist (e := (.istore_n 2, 2, 0, 0, 0)) rfl (fun _ _ _ => rfl) : mo_Sim 208 1 (ma_stor 0 2 2)) (mt_leaf (ms_ald (e := (.aload_n 0, 3, 0, 0, 0)) rfl (fun _ _ _ => rfl) : mo_Sim 208 2 (ma_lda 0 3)) (mt_none)))
set_option maxRecDepth 100000 in
theorem smt208_3 (k : Nat) : ∀ f, mt208_3 k = some f → mo_Sim 208 k f := mt_leaf (ms_alen (e := (.arraylength, 4, 0, 0, 0)) rfl (fun _ _ _ => rfl) : mo_Sim 208 3 (ma_alen 4)) (mt_leaf (ms_ist (e := (.istore_n 3, 5, 0, 0, 0)) rfl (fun _ _ _ => rfl) : mo_Sim 208 4 (ma_stor 0 3 5)) (mt_leaf (ms_ild (e := (.iload_n 2, 6, 0, 0, 0)) rfl (fun _ _ _ => rfl) : mo_Sim 208 5 (ma_load 0 2 6)) (mt_leaf (ms_ild (e := (.iload_n 3, 7, 0, 0, 0)) rfl (fun _ _ _ => rfl) : mo_Sim 208 6 (ma_load 0 3 7)) (mt_none))))
set_option maxRecDepth 100000 in
theorem smt208_1 (k : Nat) : ∀ f, mt208_1 k = some f → mo_Sim 208 k f := mt_node (smt208_2 k) (smt208_3 k)
set_option maxRecDepth 100000 in
theorem smt208_5 (k : Nat) : ∀ f, mt208_5 k = some f → mo_Sim 208 k f := mt_leaf (ms_if2 (e := (.if_icmp .ge 13, 10, 20, 0, 0)) rfl (fun _ _ _ => rfl) : mo_Sim 208 7 (ma_if2 .ge 20 7 10)) (mt_leaf (ms_ald (e := (.aload_n 0, 11, 0, 0, 0)) rfl (fun _ _ _ => rfl) : mo_Sim 208 10 (ma_lda 0 11)) (mt_leaf (ms_ild (e := (.iload_n 2, 12, 0, 0, 0)) rfl (fun _ _ _ => rfl) : mo_Sim 208 11 (ma_load 0 2 12)) (mt_leaf (ms_ild (e := (.iload_n 1, 13, 0, 0, 0)) rfl (fun _ _ _ => rfl) : mo_Sim 208 12 (ma_load 0 1 13)) (mt_none))))
set_option maxRecDepth 100000 in
theorem smt208_6 (k : Nat) : ∀ f, mt208_6 k = some f → mo_Sim 208 k f := mt_leaf (ms_iast (e := (.iastore, 14, 0, 0, 0)) rfl rfl (fun _ _ _ => rfl) : mo_Sim 208 13 (ma_ast 13 0 13 14)) (mt_leaf (ms_iinc (e := (.iinc 2 1, 17, 0, 0, 0)) rfl (fun _ _ _ => rfl) (by decide) : mo_Sim 208 14 (ma_iinc 2 (.ofNat 1) 14 17)) (mt_leaf (ms_goto (e := (.goto (-12), 20, 5, 0, 0)) rfl (fun _ _ _ => rfl) : mo_Sim 208 17 (ma_goto 5)) (mt_leaf (ms_retv (e := (.return_, 21, 0, 0, 0)) rfl rfl (fun _ _ _ => rfl) : mo_Sim 208 20 (ma_retv)) (mt_none))))
set_option maxRecDepth 100000 in
theorem smt208_4 (k : Nat) : ∀ f, mt208_4 k = some f → mo_Sim 208 k f := mt_node (smt208_5 k) (smt208_6 k)
set_option maxRecDepth 100000 in
theorem smt208_0 (k : Nat) : ∀ f, mt208_0 k = some f → mo_Sim 208 k f := mt_node (smt208_1 k) (smt208_4 k)
set_option maxRecDepth 100000 in
theorem smtj_3 (j k : Nat) : ∀ f, mtj_3 j k = some f → mo_Sim j k f := mt_jleaf (fun _ => smt0_0 k) (mt_jleaf (fun _ => smt1_0 k) (mt_none))
set_option maxRecDepth 100000 in
theorem smtj_5 (j k : Nat) : ∀ f, mtj_5 j k = some f → mo_Sim j k f := mt_jleaf (fun _ => smt10_0 k) (mt_none)
set_option maxRecDepth 100000 in
theorem smtj_6 (j k : Nat) : ∀ f, mtj_6 j k = some f → mo_Sim j k f := mt_jleaf (fun _ => smt11_0 k) (mt_jleaf (fun _ => smt19_0 k) (mt_none))
set_option maxRecDepth 100000 in
theorem smtj_4 (j k : Nat) : ∀ f, mtj_4 j k = some f → mo_Sim j k f := mt_jnode (smtj_5 j k) (smtj_6 j k)
set_option maxRecDepth 100000 in
theorem smtj_2 (j k : Nat) : ∀ f, mtj_2 j k = some f → mo_Sim j k f := mt_jnode (smtj_3 j k) (smtj_4 j k)
set_option maxRecDepth 100000 in
theorem smtj_8 (j k : Nat) : ∀ f, mtj_8 j k = some f → mo_Sim j k f := mt_jleaf (fun _ => smt30_0 k) (mt_jleaf (fun _ => smt35_0 k) (mt_none))
set_option maxRecDepth 100000 in
theorem smtj_10 (j k : Nat) : ∀ f, mtj_10 j k = some f → mo_Sim j k f := mt_jleaf (fun _ => smt43_0 k) (mt_none)
set_option maxRecDepth 100000 in
theorem smtj_11 (j k : Nat) : ∀ f, mtj_11 j k = some f → mo_Sim j k f := mt_jleaf (fun _ => smt44_0 k) (mt_jleaf (fun _ => smt46_0 k) (mt_none))
set_option maxRecDepth 100000 in
theorem smtj_9 (j k : Nat) : ∀ f, mtj_9 j k = some f → mo_Sim j k f := mt_jnode (smtj_10 j k) (smtj_11 j k)
set_option maxRecDepth 100000 in
theorem smtj_7 (j k : Nat) : ∀ f, mtj_7 j k = some f → mo_Sim j k f := mt_jnode (smtj_8 j k) (smtj_9 j k)
set_option maxRecDepth 100000 in
theorem smtj_1 (j k : Nat) : ∀ f, mtj_1 j k = some f → mo_Sim j k f := mt_jnode (smtj_2 j k) (smtj_7 j k)
set_option maxRecDepth 100000 in
theorem smtj_14 (j k : Nat) : ∀ f, mtj_14 j k = some f → mo_Sim j k f := mt_jleaf (fun _ => smt48_0 k) (mt_jleaf (fun _ => smt63_0 k) (mt_none))
set_option maxRecDepth 100000 in
theorem smtj_16 (j k : Nat) : ∀ f, mtj_16 j k = some f → mo_Sim j k f := mt_jleaf (fun _ => smt73_0 k) (mt_none)
set_option maxRecDepth 100000 in
theorem smtj_17 (j k : Nat) : ∀ f, mtj_17 j k = some f → mo_Sim j k f := mt_jleaf (fun _ => smt74_0 k) (mt_jleaf (fun _ => smt83_0 k) (mt_none))
set_option maxRecDepth 100000 in
theorem smtj_15 (j k : Nat) : ∀ f, mtj_15 j k = some f → mo_Sim j k f := mt_jnode (smtj_16 j k) (smtj_17 j k)
set_option maxRecDepth 100000 in
theorem smtj_13 (j k : Nat) : ∀ f, mtj_13 j k = some f → mo_Sim j k f := mt_jnode (smtj_14 j k) (smtj_15 j k)
set_option maxRecDepth 100000 in
theorem smtj_20 (j k : Nat) : ∀ f, mtj_20 j k = some f → mo_Sim j k f := mt_jleaf (fun _ => smt92_0 k) (mt_none)
set_option maxRecDepth 100000 in
theorem smtj_21 (j k : Nat) : ∀ f, mtj_21 j k = some f → mo_Sim j k f := mt_jleaf (fun _ => smt122_0 k) (mt_jleaf (fun _ => smt123_0 k) (mt_none))
set_option maxRecDepth 100000 in
theorem smtj_19 (j k : Nat) : ∀ f, mtj_19 j k = some f → mo_Sim j k f := mt_jnode (smtj_20 j k) (smtj_21 j k)
set_option maxRecDepth 100000 in
theorem smtj_23 (j k : Nat) : ∀ f, mtj_23 j k = some f → mo_Sim j k f := mt_jleaf (fun _ => smt139_0 k) (mt_none)
set_option maxRecDepth 100000 in
theorem smtj_24 (j k : Nat) : ∀ f, mtj_24 j k = some f → mo_Sim j k f := mt_jleaf (fun _ => smt205_0 k) (mt_jleaf (fun _ => smt208_0 k) (mt_none))
set_option maxRecDepth 100000 in
theorem smtj_22 (j k : Nat) : ∀ f, mtj_22 j k = some f → mo_Sim j k f := mt_jnode (smtj_23 j k) (smtj_24 j k)
set_option maxRecDepth 100000 in
theorem smtj_18 (j k : Nat) : ∀ f, mtj_18 j k = some f → mo_Sim j k f := mt_jnode (smtj_19 j k) (smtj_22 j k)
set_option maxRecDepth 100000 in
theorem smtj_12 (j k : Nat) : ∀ f, mtj_12 j k = some f → mo_Sim j k f := mt_jnode (smtj_13 j k) (smtj_18 j k)
set_option maxRecDepth 100000 in
theorem smtj_0 (j k : Nat) : ∀ f, mtj_0 j k = some f → mo_Sim j k f := mt_jnode (smtj_1 j k) (smtj_12 j k)
set_option maxRecDepth 100000 in
theorem ma_mt_ok (j k : Nat) : ∀ f, ma_mt j k = some f → mo_Sim j k f := smtj_0 j k
