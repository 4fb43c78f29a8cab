/-! Methods, two things. -/
set_option maxHeartbeats 4000000 in
theorem ibits_2 {xs : List Int32} {e : Nat} {ac : Int} {M0 M : nM} {x : Int} (hS : Sf 2 ac M0 M) (hx : -2147483648 ≤ x ∧ x ≤ 2147483647) : nW xs e 202 0 [some (0, x)] [] M (nPI fun z M1 => M = M1 ∧ (0 ≤ z ∧ z ≤ 63)) := by
  have hd : (2 : Int) = 2 ∨ (2 : Int) = 3 := by decide
  have hac := hS.2.2.2.2
  refine n_iload_n c_202_0 rfl ?_
  refine n_iload_n c_202_1 rfl ?_
  refine n_iconst c_202_2 ?_
  refine n_i_iushr c_202_3 rfl ?_
  have f1 := n_ushr_r x 1
  generalize (n_ushr x 1) = z2 at f1 ⊢
  refine n_ldc_w (n := 1431655765) c_202_4 rfl ?_
  refine n_i_iand c_202_7 rfl ?_
  have f3 := n_and_y (x := z2) (y := 1431655765) (by omega)
  generalize (n_and z2 1431655765) = z4 at f3 ⊢
  refine n_isub c_202_8 rfl ?_
  refine n_wrap ?_
  have f5 := n_wr_r (x - z4)
  generalize n_wr (x - z4) = z6 at f5 ⊢
  refine n_istore_n c_202_9 rfl rfl ?_
  refine n_iload_n c_202_10 rfl ?_
  refine n_ldc_w (n := 858993459) c_202_11 rfl ?_
  refine n_i_iand c_202_14 rfl ?_
  have f7 := n_and_y (x := z6) (y := 858993459) (by omega)
  generalize (n_and z6 858993459) = z8 at f7 ⊢
  refine n_iload_n c_202_15 rfl ?_
  refine n_iconst c_202_16 ?_
  refine n_i_iushr c_202_17 rfl ?_
  have f9 := n_ushr_r z6 2
  generalize (n_ushr z6 2) = z10 at f9 ⊢
  refine n_ldc_w (n := 858993459) c_202_18 rfl ?_
  refine n_i_iand c_202_21 rfl ?_
  have f11 := n_and_y (x := z10) (y := 858993459) (by omega)
  generalize (n_and z10 858993459) = z12 at f11 ⊢
  refine n_iadd c_202_22 rfl ?_
  refine n_istore_n c_202_23 rfl rfl ?_
  refine n_iload_n c_202_24 rfl ?_
  refine n_iload_n c_202_25 rfl ?_
  refine n_iconst c_202_26 ?_
  refine n_i_iushr c_202_27 rfl ?_
  have f13 := n_ushr_r (z8 + z12) 4
  generalize (n_ushr (z8 + z12) 4) = z14 at f13 ⊢
  refine n_iadd c_202_28 rfl ?_
  refine n_wrap ?_
  have f15 := n_wr_r ((z8 + z12) + z14)
  generalize n_wr ((z8 + z12) + z14) = z16 at f15 ⊢
  refine n_ldc_w (n := 252645135) c_202_29 rfl ?_
  refine n_i_iand c_202_32 rfl ?_
  have f17 := n_and_y (x := z16) (y := 252645135) (by omega)
  generalize (n_and z16 252645135) = z18 at f17 ⊢
  refine n_istore_n c_202_33 rfl rfl ?_
  refine n_iload_n c_202_34 rfl ?_
  refine n_iload_n c_202_35 rfl ?_
  refine n_bipush c_202_36 rfl ?_
  refine n_i_iushr c_202_38 rfl ?_
  have f19 := n_ushr_r z18 8
  generalize (n_ushr z18 8) = z20 at f19 ⊢
  refine n_iadd c_202_39 rfl ?_
  refine n_wrap ?_
  have f21 := n_wr_r (z18 + z20)
  generalize n_wr (z18 + z20) = z22 at f21 ⊢
  refine n_istore_n c_202_40 rfl rfl ?_
  refine n_iload_n c_202_41 rfl ?_
  refine n_iload_n c_202_42 rfl ?_
  refine n_bipush c_202_43 rfl ?_
  refine n_i_iushr c_202_45 rfl ?_
  have f23 := n_ushr_r z22 16
  generalize (n_ushr z22 16) = z24 at f23 ⊢
  refine n_iadd c_202_46 rfl ?_
  refine n_wrap ?_
  have f25 := n_wr_r (z22 + z24)
  generalize n_wr (z22 + z24) = z26 at f25 ⊢
  refine n_istore_n c_202_47 rfl rfl ?_
  refine n_iload_n c_202_48 rfl ?_
  refine n_bipush c_202_49 rfl ?_
  refine n_i_iand c_202_51 rfl ?_
  have f27 := n_and_y (x := z26) (y := 63) (by omega)
  generalize (n_and z26 63) = z28 at f27 ⊢
  exact n_rI c_202_52 rfl ⟨rfl, by omega⟩

set_option maxHeartbeats 4000000 in
theorem lbits_2 {xs : List Int32} {e : Nat} {ac : Int} {M0 M : nM} {x : Int} (hS : Sf 2 ac M0 M) (hx : -9223372036854775808 ≤ x ∧ x ≤ 9223372036854775807) : nW xs e 203 0 [some (1, x), none] [] M (nPI fun z M1 => M = M1 ∧ (0 ≤ z ∧ z ≤ 127)) := by
  have hd : (2 : Int) = 2 ∨ (2 : Int) = 3 := by decide
  have hac := hS.2.2.2.2
  refine n_lload_n c_203_0 rfl ?_
  refine n_lload_n c_203_1 rfl ?_
  refine n_iconst c_203_2 ?_
  refine n_i_lushr c_203_3 rfl ?_
  have f1 := n_lushr_r x 1
  generalize (n_lushr x 1) = z2 at f1 ⊢
  refine n_ldc2 (n := 6148914691236517205) c_203_4 rfl ?_
  refine n_i_land c_203_7 rfl ?_
  have f3 := n_land_r z2 6148914691236517205
  generalize (n_land z2 6148914691236517205) = z4 at f3 ⊢
  refine n_lsub c_203_8 rfl ?_
  refine n_wrapl ?_
  have f5 := n_wl_r (x - z4)
  generalize n_wl (x - z4) = z6 at f5 ⊢
  refine n_lstore_n c_203_9 rfl rfl ?_
  refine n_lload_n c_203_10 rfl ?_
  refine n_ldc2 (n := 3689348814741910323) c_203_11 rfl ?_
  refine n_i_land c_203_14 rfl ?_
  have f7 := n_land_r z6 3689348814741910323
  generalize (n_land z6 3689348814741910323) = z8 at f7 ⊢
  refine n_lload_n c_203_15 rfl ?_
  refine n_iconst c_203_16 ?_
  refine n_i_lushr c_203_17 rfl ?_
  have f9 := n_lushr_r z6 2
  generalize (n_lushr z6 2) = z10 at f9 ⊢
  refine n_ldc2 (n := 3689348814741910323) c_203_18 rfl ?_
  refine n_i_land c_203_21 rfl ?_
  have f11 := n_land_r z10 3689348814741910323
  generalize (n_land z10 3689348814741910323) = z12 at f11 ⊢
  refine n_ladd c_203_22 rfl ?_
  refine n_wrapl ?_
  have f13 := n_wl_r (z8 + z12)
  generalize n_wl (z8 + z12) = z14 at f13 ⊢
  refine n_lstore_n c_203_23 rfl rfl ?_
  refine n_lload_n c_203_24 rfl ?_
  refine n_lload_n c_203_25 rfl ?_
  refine n_iconst c_203_26 ?_
  refine n_i_lushr c_203_27 rfl ?_
  have f15 := n_lushr_r z14 4
  generalize (n_lushr z14 4) = z16 at f15 ⊢
  refine n_ladd c_203_28 rfl ?_
  refine n_wrapl ?_
  have f17 := n_wl_r (z14 + z16)
  generalize n_wl (z14 + z16) = z18 at f17 ⊢
  refine n_ldc2 (n := 1085102592571150095) c_203_29 rfl ?_
  refine n_i_land c_203_32 rfl ?_
  have f19 := n_land_r z18 1085102592571150095
  generalize (n_land z18 1085102592571150095) = z20 at f19 ⊢
  refine n_lstore_n c_203_33 rfl rfl ?_
  refine n_lload_n c_203_34 rfl ?_
  refine n_lload_n c_203_35 rfl ?_
  refine n_bipush c_203_36 rfl ?_
  refine n_i_lushr c_203_38 rfl ?_
  have f21 := n_lushr_r z20 8
  generalize (n_lushr z20 8) = z22 at f21 ⊢
  refine n_ladd c_203_39 rfl ?_
  refine n_wrapl ?_
  have f23 := n_wl_r (z20 + z22)
  generalize n_wl (z20 + z22) = z24 at f23 ⊢
  refine n_lstore_n c_203_40 rfl rfl ?_
  refine n_lload_n c_203_41 rfl ?_
  refine n_lload_n c_203_42 rfl ?_
  refine n_bipush c_203_43 rfl ?_
  refine n_i_lushr c_203_45 rfl ?_
  have f25 := n_lushr_r z24 16
  generalize (n_lushr z24 16) = z26 at f25 ⊢
  refine n_ladd c_203_46 rfl ?_
  refine n_wrapl ?_
  have f27 := n_wl_r (z24 + z26)
  generalize n_wl (z24 + z26) = z28 at f27 ⊢
  refine n_lstore_n c_203_47 rfl rfl ?_
  refine n_lload_n c_203_48 rfl ?_
  refine n_lload_n c_203_49 rfl ?_
  refine n_bipush c_203_50 rfl ?_
  refine n_i_lushr c_203_52 rfl ?_
  have f29 := n_lushr_r z28 32
  generalize (n_lushr z28 32) = z30 at f29 ⊢
  refine n_ladd c_203_53 rfl ?_
  refine n_wrapl ?_
  have f31 := n_wl_r (z28 + z30)
  generalize n_wl (z28 + z30) = z32 at f31 ⊢
  refine n_lstore_n c_203_54 rfl rfl ?_
  refine n_lload_n c_203_55 rfl ?_
  refine n_l2i c_203_56 ?_
  refine n_wrap ?_
  have f33 := n_wr_r z32
  generalize n_wr z32 = z34 at f33 ⊢
  refine n_bipush c_203_57 rfl ?_
  refine n_i_iand c_203_59 rfl ?_
  have f35 := n_and_y (x := z34) (y := 127) (by omega)
  generalize (n_and z34 127) = z36 at f35 ⊢
  exact n_rI c_203_60 rfl ⟨rfl, by omega⟩

set_option maxHeartbeats 4000000 in
theorem imax_2 {xs : List Int32} {e : Nat} {ac : Int} {M0 M : nM} {x y : Int} (hS : Sf 2 ac M0 M) (hx : -2147483648 ≤ x ∧ x ≤ 2147483647) (hy : -2147483648 ≤ y ∧ y ≤ 2147483647) : nW xs e 205 0 [some (0, x), some (0, y)] [] M (nPI fun z M1 => M = M1 ∧ (-2147483648 ≤ z ∧ z ≤ 2147483647) ∧ (x ≤ z ∧ y ≤ z ∧ (z = x ∨ z = y))) := by
  have hd : (2 : Int) = 2 ∨ (2 : Int) = 3 := by decide
  have hac := hS.2.2.2.2
  refine n_iload_n c_205_0 rfl ?_
  refine n_iload_n c_205_1 rfl ?_
  refine n_if2_lt c_205_2 (by omega) (by omega) ?_ ?_
  · intro h1
    refine n_iload_n c_205_9 rfl ?_
    exact n_rI c_205_10 rfl ⟨rfl, by omega, by omega⟩
  · intro h2
    refine n_iload_n c_205_5 rfl ?_
    refine n_goto c_205_6 ?_
    exact n_rI c_205_10 rfl ⟨rfl, by omega, by omega⟩

set_option maxHeartbeats 4000000 in
theorem imin_2 {xs : List Int32} {e : Nat} {ac : Int} {M0 M : nM} {x y : Int} (hS : Sf 2 ac M0 M) (hx : -2147483648 ≤ x ∧ x ≤ 2147483647) (hy : -2147483648 ≤ y ∧ y ≤ 2147483647) : nW xs e 206 0 [some (0, x), some (0, y)] [] M (nPI fun z M1 => M = M1 ∧ (-2147483648 ≤ z ∧ z ≤ 2147483647) ∧ (z ≤ x ∧ z ≤ y ∧ (z = x ∨ z = y))) := by
  have hd : (2 : Int) = 2 ∨ (2 : Int) = 3 := by decide
  have hac := hS.2.2.2.2
  refine n_iload_n c_206_0 rfl ?_
  refine n_iload_n c_206_1 rfl ?_
  refine n_if2_gt c_206_2 (by omega) (by omega) ?_ ?_
  · intro h1
    refine n_iload_n c_206_9 rfl ?_
    exact n_rI c_206_10 rfl ⟨rfl, by omega, by omega⟩
  · intro h2
    refine n_iload_n c_206_5 rfl ?_
    refine n_goto c_206_6 ?_
    exact n_rI c_206_10 rfl ⟨rfl, by omega, by omega⟩

set_option maxHeartbeats 4000000 in
theorem fill40_2_c {xs : List Int32} {e : Nat} {ac : Int} {M0 M : nM} {v : Int} (hS : Sf 2 ac M0 M) (hv : -2147483648 ≤ v ∧ v ≤ 2147483647) : ∀ m : Nat, (∀ (x2 x3 : Int) (M : nM), Sf 2 ac M0 M → (0 ≤ x2 ∧ x2 ≤ 729) → (729 ≤ x3 ∧ x3 ≤ 729) → (729 - x2) * 1 + 1 < (m : Int) → nW xs e 208 5 [some (2, 40), some (0, v), some (0, x2), some (0, x3)] [] M (nPV fun M1 => Sf 2 ac M0 M1)) := by
  have hd : (2 : Int) = 2 ∨ (2 : Int) = 3 := by decide
  have hac := hS.2.2.2.2
  intro m
  induction m with
  | zero => intros; omega
  | succ m ih =>
    intro x2 x3 M hS k2 k3 hm
    refine n_iload_n c_208_5 rfl ?_
    refine n_iload_n c_208_6 rfl ?_
    refine n_if2_ge c_208_7 (by omega) (by omega) ?_ ?_
    · intro h1
      exact n_rV c_208_20 rfl hS
    · intro h2
      refine n_aload_n c_208_10 rfl ?_
      refine n_iload_n c_208_11 rfl ?_
      refine n_iload_n c_208_12 rfl ?_
      refine n_iastoreV hS c_208_13 sc_40.n rfl (by omega) (w_40 (by omega) (by omega)) ?_
      intro M3 eM3 hS3
      have g3_0 : M3 40 x2 = v := by rw [eM3]; exact nu_s _ _ _ _
      refine n_iinc c_208_14 rfl rfl rfl ?_
      refine n_goto c_208_17 ?_
      refine n_fg (le_s (le_s (le_s (le_s le_0)))) ?_
      exact ih _ _ M3 hS3 (by omega) (by omega) (by omega)
set_option maxHeartbeats 4000000 in
theorem fill40_2 {xs : List Int32} {e : Nat} {ac : Int} {M0 M : nM} {v : Int} (hS : Sf 2 ac M0 M) (hv : -2147483648 ≤ v ∧ v ≤ 2147483647) : nW xs e 208 0 [some (2, 40), some (0, v), none, none] [] M (nPV fun M1 => Sf 2 ac M0 M1) := by
  have hd : (2 : Int) = 2 ∨ (2 : Int) = 3 := by decide
  have hac := hS.2.2.2.2
  refine n_iconst c_208_0 ?_
  refine n_istore_n c_208_1 rfl rfl ?_
  refine n_aload_n c_208_2 rfl ?_
  refine n_alen c_208_3 sc_40.n rfl ?_
  refine n_istore_n c_208_4 rfl rfl ?_
  refine n_fg (le_s (le_s (le_s (le_s le_0)))) ?_
  exact (fill40_2_c hS hv 1472) _ _ M hS (by omega) (by omega) (by omega)

set_option maxHeartbeats 4000000 in
theorem fill37_2_c {xs : List Int32} {e : Nat} {ac : Int} {M0 M : nM} {v : Int} (hS : Sf 2 ac M0 M) (hv : -2147483648 ≤ v ∧ v ≤ 2147483647) : ∀ m : Nat, (∀ (x2 x3 : Int) (M : nM), Sf 2 ac M0 M → (0 ≤ x2 ∧ x2 ≤ 8) → (8 ≤ x3 ∧ x3 ≤ 8) → (8 - x2) * 1 + 1 < (m : Int) → nW xs e 208 5 [some (2, 37), some (0, v), some (0, x2), some (0, x3)] [] M (nPV fun M1 => Sf 2 ac M0 M1)) := by
  have hd : (2 : Int) = 2 ∨ (2 : Int) = 3 := by decide
  have hac := hS.2.2.2.2
  intro m
  induction m with
  | zero => intros; omega
  | succ m ih =>
    intro x2 x3 M hS k2 k3 hm
    refine n_iload_n c_208_5 rfl ?_
    refine n_iload_n c_208_6 rfl ?_
    refine n_if2_ge c_208_7 (by omega) (by omega) ?_ ?_
    · intro h1
      exact n_rV c_208_20 rfl hS
    · intro h2
      refine n_aload_n c_208_10 rfl ?_
      refine n_iload_n c_208_11 rfl ?_
      refine n_iload_n c_208_12 rfl ?_
      refine n_iastoreV hS c_208_13 sc_37.n rfl (by omega) (w_37 (by omega) (by omega)) ?_
      intro M3 eM3 hS3
      have g3_0 : M3 37 x2 = v := by rw [eM3]; exact nu_s _ _ _ _
      refine n_iinc c_208_14 rfl rfl rfl ?_
      refine n_goto c_208_17 ?_
      refine n_fg (le_s (le_s (le_s (le_s le_0)))) ?_
      exact ih _ _ M3 hS3 (by omega) (by omega) (by omega)
set_option maxHeartbeats 4000000 in
theorem fill37_2 {xs : List Int32} {e : Nat} {ac : Int} {M0 M : nM} {v : Int} (hS : Sf 2 ac M0 M) (hv : -2147483648 ≤ v ∧ v ≤ 2147483647) : nW xs e 208 0 [some (2, 37), some (0, v), none, none] [] M (nPV fun M1 => Sf 2 ac M0 M1) := by
  have hd : (2 : Int) = 2 ∨ (2 : Int) = 3 := by decide
  have hac := hS.2.2.2.2
  refine n_iconst c_208_0 ?_
  refine n_istore_n c_208_1 rfl rfl ?_
  refine n_aload_n c_208_2 rfl ?_
  refine n_alen c_208_3 sc_37.n rfl ?_
  refine n_istore_n c_208_4 rfl rfl ?_
  refine n_fg (le_s (le_s (le_s (le_s le_0)))) ?_
  exact (fill37_2_c hS hv 30) _ _ M hS (by omega) (by omega) (by omega)

set_option maxHeartbeats 4000000 in
theorem fill47_2_c {xs : List Int32} {e : Nat} {ac : Int} {M0 M : nM} {v : Int} (hS : Sf 2 ac M0 M) (hv : -9223372036854775808 ≤ v ∧ v ≤ 9223372036854775807) : ∀ m : Nat, (∀ (x3 x4 : Int) (M : nM), Sf 2 ac M0 M → (0 ≤ x3 ∧ x3 ≤ 308) → (308 ≤ x4 ∧ x4 ≤ 308) → (308 - x3) * 1 + 1 < (m : Int) → nW xs e 207 6 [some (2, 47), some (1, v), none, some (0, x3), some (0, x4)] [] M (nPV fun M1 => Sf 2 ac M0 M1)) := by
  have hd : (2 : Int) = 2 ∨ (2 : Int) = 3 := by decide
  have hac := hS.2.2.2.2
  intro m
  induction m with
  | zero => intros; omega
  | succ m ih =>
    intro x3 x4 M hS k3 k4 hm
    refine n_iload_n c_207_6 rfl ?_
    refine n_iload c_207_7 rfl ?_
    refine n_if2_ge c_207_9 (by omega) (by omega) ?_ ?_
    · intro h1
      exact n_rV c_207_22 rfl hS
    · intro h2
      refine n_aload_n c_207_12 rfl ?_
      refine n_iload_n c_207_13 rfl ?_
      refine n_lload_n c_207_14 rfl ?_
      refine n_lastoreV hS c_207_15 sc_47.n rfl (by omega) (w_47 (by omega) (by omega)) ?_
      intro M3 eM3 hS3
      have g3_0 : M3 47 x3 = v := by rw [eM3]; exact nu_s _ _ _ _
      refine n_iinc c_207_16 rfl rfl rfl ?_
      refine n_goto c_207_19 ?_
      refine n_fg (le_s (le_s (le_n (le_s (le_s le_0))))) ?_
      exact ih _ _ M3 hS3 (by omega) (by omega) (by omega)
set_option maxHeartbeats 4000000 in
theorem fill47_2 {xs : List Int32} {e : Nat} {ac : Int} {M0 M : nM} {v : Int} (hS : Sf 2 ac M0 M) (hv : -9223372036854775808 ≤ v ∧ v ≤ 9223372036854775807) : nW xs e 207 0 [some (2, 47), some (1, v), none, none, none] [] M (nPV fun M1 => Sf 2 ac M0 M1) := by
  have hd : (2 : Int) = 2 ∨ (2 : Int) = 3 := by decide
  have hac := hS.2.2.2.2
  refine n_iconst c_207_0 ?_
  refine n_istore_n c_207_1 rfl rfl ?_
  refine n_aload_n c_207_2 rfl ?_
  refine n_alen c_207_3 sc_47.n rfl ?_
  refine n_istore c_207_4 rfl rfl ?_
  refine n_fg (le_s (le_s (le_n (le_s (le_s le_0))))) ?_
  exact (fill47_2_c hS hv 630) _ _ M hS (by omega) (by omega) (by omega)

set_option maxHeartbeats 4000000 in
theorem fill49_2_c {xs : List Int32} {e : Nat} {ac : Int} {M0 M : nM} {v : Int} (hS : Sf 2 ac M0 M) (hv : -9223372036854775808 ≤ v ∧ v ≤ 9223372036854775807) : ∀ m : Nat, (∀ (x3 x4 : Int) (M : nM), Sf 2 ac M0 M → (0 ≤ x3 ∧ x3 ≤ 103) → (103 ≤ x4 ∧ x4 ≤ 103) → (103 - x3) * 1 + 1 < (m : Int) → nW xs e 207 6 [some (2, 49), some (1, v), none, some (0, x3), some (0, x4)] [] M (nPV fun M1 => Sf 2 ac M0 M1)) := by
  have hd : (2 : Int) = 2 ∨ (2 : Int) = 3 := by decide
  have hac := hS.2.2.2.2
  intro m
  induction m with
  | zero => intros; omega
  | succ m ih =>
    intro x3 x4 M hS k3 k4 hm
    refine n_iload_n c_207_6 rfl ?_
    refine n_iload c_207_7 rfl ?_
    refine n_if2_ge c_207_9 (by omega) (by omega) ?_ ?_
    · intro h1
      exact n_rV c_207_22 rfl hS
    · intro h2
      refine n_aload_n c_207_12 rfl ?_
      refine n_iload_n c_207_13 rfl ?_
      refine n_lload_n c_207_14 rfl ?_
      refine n_lastoreV hS c_207_15 sc_49.n rfl (by omega) (w_49 (by omega) (by omega)) ?_
      intro M3 eM3 hS3
      have g3_0 : M3 49 x3 = v := by rw [eM3]; exact nu_s _ _ _ _
      refine n_iinc c_207_16 rfl rfl rfl ?_
      refine n_goto c_207_19 ?_
      refine n_fg (le_s (le_s (le_n (le_s (le_s le_0))))) ?_
      exact ih _ _ M3 hS3 (by omega) (by omega) (by omega)
set_option maxHeartbeats 4000000 in
theorem fill49_2 {xs : List Int32} {e : Nat} {ac : Int} {M0 M : nM} {v : Int} (hS : Sf 2 ac M0 M) (hv : -9223372036854775808 ≤ v ∧ v ≤ 9223372036854775807) : nW xs e 207 0 [some (2, 49), some (1, v), none, none, none] [] M (nPV fun M1 => Sf 2 ac M0 M1) := by
  have hd : (2 : Int) = 2 ∨ (2 : Int) = 3 := by decide
  have hac := hS.2.2.2.2
  refine n_iconst c_207_0 ?_
  refine n_istore_n c_207_1 rfl rfl ?_
  refine n_aload_n c_207_2 rfl ?_
  refine n_alen c_207_3 sc_49.n rfl ?_
  refine n_istore c_207_4 rfl rfl ?_
  refine n_fg (le_s (le_s (le_n (le_s (le_s le_0))))) ?_
  exact (fill49_2_c hS hv 220) _ _ M hS (by omega) (by omega) (by omega)

set_option maxHeartbeats 4000000 in
theorem power0_2 {xs : List Int32} {e : Nat} {ac : Int} {M0 M : nM} (hS : Sf 2 ac M0 M)  : nW xs e 12 0 [some (2, 4), some (0, 0), none, none] [] M (nPI fun z M1 => M = M1 ∧ (1 ≤ z ∧ z ≤ 1)) := by
  have hd : (2 : Int) = 2 ∨ (2 : Int) = 3 := by decide
  have hac := hS.2.2.2.2
  refine n_iconst c_12_0 ?_
  refine n_istore_n c_12_1 rfl rfl ?_
  refine n_iconst c_12_2 ?_
  refine n_istore_n c_12_3 rfl rfl ?_
  refine n_iload_n c_12_4 rfl ?_
  refine n_iload_n c_12_5 rfl ?_
  refine n_if2_ge c_12_6 (by omega) (by omega) ?_ ?_
  · intro h1
    refine n_iload_n c_12_22 rfl ?_
    exact n_rI c_12_23 rfl ⟨rfl, by omega⟩
  · intro h2
    exfalso; omega

set_option maxHeartbeats 4000000 in
theorem power1_2 {xs : List Int32} {e : Nat} {ac : Int} {M0 M : nM} (hS : Sf 2 ac M0 M)  : nW xs e 12 0 [some (2, 4), some (0, 1), none, none] [] M (nPI fun z M1 => M = M1 ∧ (2 ≤ z ∧ z ≤ 2)) := by
  have hd : (2 : Int) = 2 ∨ (2 : Int) = 3 := by decide
  have hac := hS.2.2.2.2
  refine n_iconst c_12_0 ?_
  refine n_istore_n c_12_1 rfl rfl ?_
  refine n_iconst c_12_2 ?_
  refine n_istore_n c_12_3 rfl rfl ?_
  refine n_iload_n c_12_4 rfl ?_
  refine n_iload_n c_12_5 rfl ?_
  refine n_if2_ge c_12_6 (by omega) (by omega) ?_ ?_
  · intro h1
    exfalso; omega
  · intro h2
    refine n_iload_n c_12_9 rfl ?_
    refine n_aload_n c_12_10 rfl ?_
    refine n_getV (bi := 0) c_12_11 sc_4.n rfl rfl rfl (t_4_0 hS) ?_
    intro z3 ez3 f4
    obtain rfl : z3 = 2 := by omega
    refine n_imul c_12_14 rfl ?_
    refine n_istore_n c_12_15 rfl rfl ?_
    refine n_iinc c_12_16 rfl rfl rfl ?_
    refine n_goto c_12_19 ?_
    refine n_iload_n c_12_4 rfl ?_
    refine n_iload_n c_12_5 rfl ?_
    refine n_if2_ge c_12_6 (by omega) (by omega) ?_ ?_
    · intro h5
      refine n_iload_n c_12_22 rfl ?_
      exact n_rI c_12_23 rfl ⟨rfl, by omega⟩
    · intro h6
      exfalso; omega

set_option maxHeartbeats 4000000 in
theorem power2_2 {xs : List Int32} {e : Nat} {ac : Int} {M0 M : nM} (hS : Sf 2 ac M0 M)  : nW xs e 12 0 [some (2, 4), some (0, 2), none, none] [] M (nPI fun z M1 => M = M1 ∧ (4 ≤ z ∧ z ≤ 4)) := by
  have hd : (2 : Int) = 2 ∨ (2 : Int) = 3 := by decide
  have hac := hS.2.2.2.2
  refine n_iconst c_12_0 ?_
  refine n_istore_n c_12_1 rfl rfl ?_
  refine n_iconst c_12_2 ?_
  refine n_istore_n c_12_3 rfl rfl ?_
  refine n_iload_n c_12_4 rfl ?_
  refine n_iload_n c_12_5 rfl ?_
  refine n_if2_ge c_12_6 (by omega) (by omega) ?_ ?_
  · intro h1
    exfalso; omega
  · intro h2
    refine n_iload_n c_12_9 rfl ?_
    refine n_aload_n c_12_10 rfl ?_
    refine n_getV (bi := 0) c_12_11 sc_4.n rfl rfl rfl (t_4_0 hS) ?_
    intro z3 ez3 f4
    obtain rfl : z3 = 2 := by omega
    refine n_imul c_12_14 rfl ?_
    refine n_istore_n c_12_15 rfl rfl ?_
    refine n_iinc c_12_16 rfl rfl rfl ?_
    refine n_goto c_12_19 ?_
    refine n_iload_n c_12_4 rfl ?_
    refine n_iload_n c_12_5 rfl ?_
    refine n_if2_ge c_12_6 (by omega) (by omega) ?_ ?_
    · intro h5
      exfalso; omega
    · intro h6
      refine n_iload_n c_12_9 rfl ?_
      refine n_aload_n c_12_10 rfl ?_
      refine n_getV (bi := 0) c_12_11 sc_4.n rfl rfl rfl (t_4_0 hS) ?_
      intro z7 ez7 f8
      obtain rfl : z7 = 2 := by omega
      refine n_imul c_12_14 rfl ?_
      refine n_istore_n c_12_15 rfl rfl ?_
      refine n_iinc c_12_16 rfl rfl rfl ?_
      refine n_goto c_12_19 ?_
      refine n_iload_n c_12_4 rfl ?_
      refine n_iload_n c_12_5 rfl ?_
      refine n_if2_ge c_12_6 (by omega) (by omega) ?_ ?_
      · intro h9
        refine n_iload_n c_12_22 rfl ?_
        exact n_rI c_12_23 rfl ⟨rfl, by omega⟩
      · intro h10
        exfalso; omega

set_option maxHeartbeats 4000000 in
theorem power3_2 {xs : List Int32} {e : Nat} {ac : Int} {M0 M : nM} (hS : Sf 2 ac M0 M)  : nW xs e 12 0 [some (2, 4), some (0, 3), none, none] [] M (nPI fun z M1 => M = M1 ∧ (8 ≤ z ∧ z ≤ 8)) := by
  have hd : (2 : Int) = 2 ∨ (2 : Int) = 3 := by decide
  have hac := hS.2.2.2.2
  refine n_iconst c_12_0 ?_
  refine n_istore_n c_12_1 rfl rfl ?_
  refine n_iconst c_12_2 ?_
  refine n_istore_n c_12_3 rfl rfl ?_
  refine n_iload_n c_12_4 rfl ?_
  refine n_iload_n c_12_5 rfl ?_
  refine n_if2_ge c_12_6 (by omega) (by omega) ?_ ?_
  · intro h1
    exfalso; omega
  · intro h2
    refine n_iload_n c_12_9 rfl ?_
    refine n_aload_n c_12_10 rfl ?_
    refine n_getV (bi := 0) c_12_11 sc_4.n rfl rfl rfl (t_4_0 hS) ?_
    intro z3 ez3 f4
    obtain rfl : z3 = 2 := by omega
    refine n_imul c_12_14 rfl ?_
    refine n_istore_n c_12_15 rfl rfl ?_
    refine n_iinc c_12_16 rfl rfl rfl ?_
    refine n_goto c_12_19 ?_
    refine n_iload_n c_12_4 rfl ?_
    refine n_iload_n c_12_5 rfl ?_
    refine n_if2_ge c_12_6 (by omega) (by omega) ?_ ?_
    · intro h5
      exfalso; omega
    · intro h6
      refine n_iload_n c_12_9 rfl ?_
      refine n_aload_n c_12_10 rfl ?_
      refine n_getV (bi := 0) c_12_11 sc_4.n rfl rfl rfl (t_4_0 hS) ?_
      intro z7 ez7 f8
      obtain rfl : z7 = 2 := by omega
      refine n_imul c_12_14 rfl ?_
      refine n_istore_n c_12_15 rfl rfl ?_
      refine n_iinc c_12_16 rfl rfl rfl ?_
      refine n_goto c_12_19 ?_
      refine n_iload_n c_12_4 rfl ?_
      refine n_iload_n c_12_5 rfl ?_
      refine n_if2_ge c_12_6 (by omega) (by omega) ?_ ?_
      · intro h9
        exfalso; omega
      · intro h10
        refine n_iload_n c_12_9 rfl ?_
        refine n_aload_n c_12_10 rfl ?_
        refine n_getV (bi := 0) c_12_11 sc_4.n rfl rfl rfl (t_4_0 hS) ?_
        intro z11 ez11 f12
        obtain rfl : z11 = 2 := by omega
        refine n_imul c_12_14 rfl ?_
        refine n_istore_n c_12_15 rfl rfl ?_
        refine n_iinc c_12_16 rfl rfl rfl ?_
        refine n_goto c_12_19 ?_
        refine n_iload_n c_12_4 rfl ?_
        refine n_iload_n c_12_5 rfl ?_
        refine n_if2_ge c_12_6 (by omega) (by omega) ?_ ?_
        · intro h13
          refine n_iload_n c_12_22 rfl ?_
          exact n_rI c_12_23 rfl ⟨rfl, by omega⟩
        · intro h14
          exfalso; omega

set_option maxHeartbeats 4000000 in
theorem power4_2 {xs : List Int32} {e : Nat} {ac : Int} {M0 M : nM} (hS : Sf 2 ac M0 M)  : nW xs e 12 0 [some (2, 4), some (0, 4), none, none] [] M (nPI fun z M1 => M = M1 ∧ (16 ≤ z ∧ z ≤ 16)) := by
  have hd : (2 : Int) = 2 ∨ (2 : Int) = 3 := by decide
  have hac := hS.2.2.2.2
  refine n_iconst c_12_0 ?_
  refine n_istore_n c_12_1 rfl rfl ?_
  refine n_iconst c_12_2 ?_
  refine n_istore_n c_12_3 rfl rfl ?_
  refine n_iload_n c_12_4 rfl ?_
  refine n_iload_n c_12_5 rfl ?_
  refine n_if2_ge c_12_6 (by omega) (by omega) ?_ ?_
  · intro h1
    exfalso; omega
  · intro h2
    refine n_iload_n c_12_9 rfl ?_
    refine n_aload_n c_12_10 rfl ?_
    refine n_getV (bi := 0) c_12_11 sc_4.n rfl rfl rfl (t_4_0 hS) ?_
    intro z3 ez3 f4
    obtain rfl : z3 = 2 := by omega
    refine n_imul c_12_14 rfl ?_
    refine n_istore_n c_12_15 rfl rfl ?_
    refine n_iinc c_12_16 rfl rfl rfl ?_
    refine n_goto c_12_19 ?_
    refine n_iload_n c_12_4 rfl ?_
    refine n_iload_n c_12_5 rfl ?_
    refine n_if2_ge c_12_6 (by omega) (by omega) ?_ ?_
    · intro h5
      exfalso; omega
    · intro h6
      refine n_iload_n c_12_9 rfl ?_
      refine n_aload_n c_12_10 rfl ?_
      refine n_getV (bi := 0) c_12_11 sc_4.n rfl rfl rfl (t_4_0 hS) ?_
      intro z7 ez7 f8
      obtain rfl : z7 = 2 := by omega
      refine n_imul c_12_14 rfl ?_
      refine n_istore_n c_12_15 rfl rfl ?_
      refine n_iinc c_12_16 rfl rfl rfl ?_
      refine n_goto c_12_19 ?_
      refine n_iload_n c_12_4 rfl ?_
      refine n_iload_n c_12_5 rfl ?_
      refine n_if2_ge c_12_6 (by omega) (by omega) ?_ ?_
      · intro h9
        exfalso; omega
      · intro h10
        refine n_iload_n c_12_9 rfl ?_
        refine n_aload_n c_12_10 rfl ?_
        refine n_getV (bi := 0) c_12_11 sc_4.n rfl rfl rfl (t_4_0 hS) ?_
        intro z11 ez11 f12
        obtain rfl : z11 = 2 := by omega
        refine n_imul c_12_14 rfl ?_
        refine n_istore_n c_12_15 rfl rfl ?_
        refine n_iinc c_12_16 rfl rfl rfl ?_
        refine n_goto c_12_19 ?_
        refine n_iload_n c_12_4 rfl ?_
        refine n_iload_n c_12_5 rfl ?_
        refine n_if2_ge c_12_6 (by omega) (by omega) ?_ ?_
        · intro h13
          exfalso; omega
        · intro h14
          refine n_iload_n c_12_9 rfl ?_
          refine n_aload_n c_12_10 rfl ?_
          refine n_getV (bi := 0) c_12_11 sc_4.n rfl rfl rfl (t_4_0 hS) ?_
          intro z15 ez15 f16
          obtain rfl : z15 = 2 := by omega
          refine n_imul c_12_14 rfl ?_
          refine n_istore_n c_12_15 rfl rfl ?_
          refine n_iinc c_12_16 rfl rfl rfl ?_
          refine n_goto c_12_19 ?_
          refine n_iload_n c_12_4 rfl ?_
          refine n_iload_n c_12_5 rfl ?_
          refine n_if2_ge c_12_6 (by omega) (by omega) ?_ ?_
          · intro h17
            refine n_iload_n c_12_22 rfl ?_
            exact n_rI c_12_23 rfl ⟨rfl, by omega⟩
          · intro h18
            exfalso; omega

set_option maxHeartbeats 4000000 in
theorem power5_2 {xs : List Int32} {e : Nat} {ac : Int} {M0 M : nM} (hS : Sf 2 ac M0 M)  : nW xs e 12 0 [some (2, 4), some (0, 5), none, none] [] M (nPI fun z M1 => M = M1 ∧ (32 ≤ z ∧ z ≤ 32)) := by
  have hd : (2 : Int) = 2 ∨ (2 : Int) = 3 := by decide
  have hac := hS.2.2.2.2
  refine n_iconst c_12_0 ?_
  refine n_istore_n c_12_1 rfl rfl ?_
  refine n_iconst c_12_2 ?_
  refine n_istore_n c_12_3 rfl rfl ?_
  refine n_iload_n c_12_4 rfl ?_
  refine n_iload_n c_12_5 rfl ?_
  refine n_if2_ge c_12_6 (by omega) (by omega) ?_ ?_
  · intro h1
    exfalso; omega
  · intro h2
    refine n_iload_n c_12_9 rfl ?_
    refine n_aload_n c_12_10 rfl ?_
    refine n_getV (bi := 0) c_12_11 sc_4.n rfl rfl rfl (t_4_0 hS) ?_
    intro z3 ez3 f4
    obtain rfl : z3 = 2 := by omega
    refine n_imul c_12_14 rfl ?_
    refine n_istore_n c_12_15 rfl rfl ?_
    refine n_iinc c_12_16 rfl rfl rfl ?_
    refine n_goto c_12_19 ?_
    refine n_iload_n c_12_4 rfl ?_
    refine n_iload_n c_12_5 rfl ?_
    refine n_if2_ge c_12_6 (by omega) (by omega) ?_ ?_
    · intro h5
      exfalso; omega
    · intro h6
      refine n_iload_n c_12_9 rfl ?_
      refine n_aload_n c_12_10 rfl ?_
      refine n_getV (bi := 0) c_12_11 sc_4.n rfl rfl rfl (t_4_0 hS) ?_
      intro z7 ez7 f8
      obtain rfl : z7 = 2 := by omega
      refine n_imul c_12_14 rfl ?_
      refine n_istore_n c_12_15 rfl rfl ?_
      refine n_iinc c_12_16 rfl rfl rfl ?_
      refine n_goto c_12_19 ?_
      refine n_iload_n c_12_4 rfl ?_
      refine n_iload_n c_12_5 rfl ?_
      refine n_if2_ge c_12_6 (by omega) (by omega) ?_ ?_
      · intro h9
        exfalso; omega
      · intro h10
        refine n_iload_n c_12_9 rfl ?_
        refine n_aload_n c_12_10 rfl ?_
        refine n_getV (bi := 0) c_12_11 sc_4.n rfl rfl rfl (t_4_0 hS) ?_
        intro z11 ez11 f12
        obtain rfl : z11 = 2 := by omega
        refine n_imul c_12_14 rfl ?_
        refine n_istore_n c_12_15 rfl rfl ?_
        refine n_iinc c_12_16 rfl rfl rfl ?_
        refine n_goto c_12_19 ?_
        refine n_iload_n c_12_4 rfl ?_
        refine n_iload_n c_12_5 rfl ?_
        refine n_if2_ge c_12_6 (by omega) (by omega) ?_ ?_
        · intro h13
          exfalso; omega
        · intro h14
          refine n_iload_n c_12_9 rfl ?_
          refine n_aload_n c_12_10 rfl ?_
          refine n_getV (bi := 0) c_12_11 sc_4.n rfl rfl rfl (t_4_0 hS) ?_
          intro z15 ez15 f16
          obtain rfl : z15 = 2 := by omega
          refine n_imul c_12_14 rfl ?_
          refine n_istore_n c_12_15 rfl rfl ?_
          refine n_iinc c_12_16 rfl rfl rfl ?_
          refine n_goto c_12_19 ?_
          refine n_iload_n c_12_4 rfl ?_
          refine n_iload_n c_12_5 rfl ?_
          refine n_if2_ge c_12_6 (by omega) (by omega) ?_ ?_
          · intro h17
            exfalso; omega
          · intro h18
            refine n_iload_n c_12_9 rfl ?_
            refine n_aload_n c_12_10 rfl ?_
            refine n_getV (bi := 0) c_12_11 sc_4.n rfl rfl rfl (t_4_0 hS) ?_
            intro z19 ez19 f20
            obtain rfl : z19 = 2 := by omega
            refine n_imul c_12_14 rfl ?_
            refine n_istore_n c_12_15 rfl rfl ?_
            refine n_iinc c_12_16 rfl rfl rfl ?_
            refine n_goto c_12_19 ?_
            refine n_iload_n c_12_4 rfl ?_
            refine n_iload_n c_12_5 rfl ?_
            refine n_if2_ge c_12_6 (by omega) (by omega) ?_ ?_
            · intro h21
              refine n_iload_n c_12_22 rfl ?_
              exact n_rI c_12_23 rfl ⟨rfl, by omega⟩
            · intro h22
              exfalso; omega

set_option maxHeartbeats 4000000 in
theorem power6_2 {xs : List Int32} {e : Nat} {ac : Int} {M0 M : nM} (hS : Sf 2 ac M0 M)  : nW xs e 12 0 [some (2, 4), some (0, 6), none, none] [] M (nPI fun z M1 => M = M1 ∧ (64 ≤ z ∧ z ≤ 64)) := by
  have hd : (2 : Int) = 2 ∨ (2 : Int) = 3 := by decide
  have hac := hS.2.2.2.2
  refine n_iconst c_12_0 ?_
  refine n_istore_n c_12_1 rfl rfl ?_
  refine n_iconst c_12_2 ?_
  refine n_istore_n c_12_3 rfl rfl ?_
  refine n_iload_n c_12_4 rfl ?_
  refine n_iload_n c_12_5 rfl ?_
  refine n_if2_ge c_12_6 (by omega) (by omega) ?_ ?_
  · intro h1
    exfalso; omega
  · intro h2
    refine n_iload_n c_12_9 rfl ?_
    refine n_aload_n c_12_10 rfl ?_
    refine n_getV (bi := 0) c_12_11 sc_4.n rfl rfl rfl (t_4_0 hS) ?_
    intro z3 ez3 f4
    obtain rfl : z3 = 2 := by omega
    refine n_imul c_12_14 rfl ?_
    refine n_istore_n c_12_15 rfl rfl ?_
    refine n_iinc c_12_16 rfl rfl rfl ?_
    refine n_goto c_12_19 ?_
    refine n_iload_n c_12_4 rfl ?_
    refine n_iload_n c_12_5 rfl ?_
    refine n_if2_ge c_12_6 (by omega) (by omega) ?_ ?_
    · intro h5
      exfalso; omega
    · intro h6
      refine n_iload_n c_12_9 rfl ?_
      refine n_aload_n c_12_10 rfl ?_
      refine n_getV (bi := 0) c_12_11 sc_4.n rfl rfl rfl (t_4_0 hS) ?_
      intro z7 ez7 f8
      obtain rfl : z7 = 2 := by omega
      refine n_imul c_12_14 rfl ?_
      refine n_istore_n c_12_15 rfl rfl ?_
      refine n_iinc c_12_16 rfl rfl rfl ?_
      refine n_goto c_12_19 ?_
      refine n_iload_n c_12_4 rfl ?_
      refine n_iload_n c_12_5 rfl ?_
      refine n_if2_ge c_12_6 (by omega) (by omega) ?_ ?_
      · intro h9
        exfalso; omega
      · intro h10
        refine n_iload_n c_12_9 rfl ?_
        refine n_aload_n c_12_10 rfl ?_
        refine n_getV (bi := 0) c_12_11 sc_4.n rfl rfl rfl (t_4_0 hS) ?_
        intro z11 ez11 f12
        obtain rfl : z11 = 2 := by omega
        refine n_imul c_12_14 rfl ?_
        refine n_istore_n c_12_15 rfl rfl ?_
        refine n_iinc c_12_16 rfl rfl rfl ?_
        refine n_goto c_12_19 ?_
        refine n_iload_n c_12_4 rfl ?_
        refine n_iload_n c_12_5 rfl ?_
        refine n_if2_ge c_12_6 (by omega) (by omega) ?_ ?_
        · intro h13
          exfalso; omega
        · intro h14
          refine n_iload_n c_12_9 rfl ?_
          refine n_aload_n c_12_10 rfl ?_
          refine n_getV (bi := 0) c_12_11 sc_4.n rfl rfl rfl (t_4_0 hS) ?_
          intro z15 ez15 f16
          obtain rfl : z15 = 2 := by omega
          refine n_imul c_12_14 rfl ?_
          refine n_istore_n c_12_15 rfl rfl ?_
          refine n_iinc c_12_16 rfl rfl rfl ?_
          refine n_goto c_12_19 ?_
          refine n_iload_n c_12_4 rfl ?_
          refine n_iload_n c_12_5 rfl ?_
          refine n_if2_ge c_12_6 (by omega) (by omega) ?_ ?_
          · intro h17
            exfalso; omega
          · intro h18
            refine n_iload_n c_12_9 rfl ?_
            refine n_aload_n c_12_10 rfl ?_
            refine n_getV (bi := 0) c_12_11 sc_4.n rfl rfl rfl (t_4_0 hS) ?_
            intro z19 ez19 f20
            obtain rfl : z19 = 2 := by omega
            refine n_imul c_12_14 rfl ?_
            refine n_istore_n c_12_15 rfl rfl ?_
            refine n_iinc c_12_16 rfl rfl rfl ?_
            refine n_goto c_12_19 ?_
            refine n_iload_n c_12_4 rfl ?_
            refine n_iload_n c_12_5 rfl ?_
            refine n_if2_ge c_12_6 (by omega) (by omega) ?_ ?_
            · intro h21
              exfalso; omega
            · intro h22
              refine n_iload_n c_12_9 rfl ?_
              refine n_aload_n c_12_10 rfl ?_
              refine n_getV (bi := 0) c_12_11 sc_4.n rfl rfl rfl (t_4_0 hS) ?_
              intro z23 ez23 f24
              obtain rfl : z23 = 2 := by omega
              refine n_imul c_12_14 rfl ?_
              refine n_istore_n c_12_15 rfl rfl ?_
              refine n_iinc c_12_16 rfl rfl rfl ?_
              refine n_goto c_12_19 ?_
              refine n_iload_n c_12_4 rfl ?_
              refine n_iload_n c_12_5 rfl ?_
              refine n_if2_ge c_12_6 (by omega) (by omega) ?_ ?_
              · intro h25
                refine n_iload_n c_12_22 rfl ?_
                exact n_rI c_12_23 rfl ⟨rfl, by omega⟩
              · intro h26
                exfalso; omega

set_option maxHeartbeats 4000000 in
theorem power7_2 {xs : List Int32} {e : Nat} {ac : Int} {M0 M : nM} (hS : Sf 2 ac M0 M)  : nW xs e 12 0 [some (2, 4), some (0, 7), none, none] [] M (nPI fun z M1 => M = M1 ∧ (128 ≤ z ∧ z ≤ 128)) := by
  have hd : (2 : Int) = 2 ∨ (2 : Int) = 3 := by decide
  have hac := hS.2.2.2.2
  refine n_iconst c_12_0 ?_
  refine n_istore_n c_12_1 rfl rfl ?_
  refine n_iconst c_12_2 ?_
  refine n_istore_n c_12_3 rfl rfl ?_
  refine n_iload_n c_12_4 rfl ?_
  refine n_iload_n c_12_5 rfl ?_
  refine n_if2_ge c_12_6 (by omega) (by omega) ?_ ?_
  · intro h1
    exfalso; omega
  · intro h2
    refine n_iload_n c_12_9 rfl ?_
    refine n_aload_n c_12_10 rfl ?_
    refine n_getV (bi := 0) c_12_11 sc_4.n rfl rfl rfl (t_4_0 hS) ?_
    intro z3 ez3 f4
    obtain rfl : z3 = 2 := by omega
    refine n_imul c_12_14 rfl ?_
    refine n_istore_n c_12_15 rfl rfl ?_
    refine n_iinc c_12_16 rfl rfl rfl ?_
    refine n_goto c_12_19 ?_
    refine n_iload_n c_12_4 rfl ?_
    refine n_iload_n c_12_5 rfl ?_
    refine n_if2_ge c_12_6 (by omega) (by omega) ?_ ?_
    · intro h5
      exfalso; omega
    · intro h6
      refine n_iload_n c_12_9 rfl ?_
      refine n_aload_n c_12_10 rfl ?_
      refine n_getV (bi := 0) c_12_11 sc_4.n rfl rfl rfl (t_4_0 hS) ?_
      intro z7 ez7 f8
      obtain rfl : z7 = 2 := by omega
      refine n_imul c_12_14 rfl ?_
      refine n_istore_n c_12_15 rfl rfl ?_
      refine n_iinc c_12_16 rfl rfl rfl ?_
      refine n_goto c_12_19 ?_
      refine n_iload_n c_12_4 rfl ?_
      refine n_iload_n c_12_5 rfl ?_
      refine n_if2_ge c_12_6 (by omega) (by omega) ?_ ?_
      · intro h9
        exfalso; omega
      · intro h10
        refine n_iload_n c_12_9 rfl ?_
        refine n_aload_n c_12_10 rfl ?_
        refine n_getV (bi := 0) c_12_11 sc_4.n rfl rfl rfl (t_4_0 hS) ?_
        intro z11 ez11 f12
        obtain rfl : z11 = 2 := by omega
        refine n_imul c_12_14 rfl ?_
        refine n_istore_n c_12_15 rfl rfl ?_
        refine n_iinc c_12_16 rfl rfl rfl ?_
        refine n_goto c_12_19 ?_
        refine n_iload_n c_12_4 rfl ?_
        refine n_iload_n c_12_5 rfl ?_
        refine n_if2_ge c_12_6 (by omega) (by omega) ?_ ?_
        · intro h13
          exfalso; omega
        · intro h14
          refine n_iload_n c_12_9 rfl ?_
          refine n_aload_n c_12_10 rfl ?_
          refine n_getV (bi := 0) c_12_11 sc_4.n rfl rfl rfl (t_4_0 hS) ?_
          intro z15 ez15 f16
          obtain rfl : z15 = 2 := by omega
          refine n_imul c_12_14 rfl ?_
          refine n_istore_n c_12_15 rfl rfl ?_
          refine n_iinc c_12_16 rfl rfl rfl ?_
          refine n_goto c_12_19 ?_
          refine n_iload_n c_12_4 rfl ?_
          refine n_iload_n c_12_5 rfl ?_
          refine n_if2_ge c_12_6 (by omega) (by omega) ?_ ?_
          · intro h17
            exfalso; omega
          · intro h18
            refine n_iload_n c_12_9 rfl ?_
            refine n_aload_n c_12_10 rfl ?_
            refine n_getV (bi := 0) c_12_11 sc_4.n rfl rfl rfl (t_4_0 hS) ?_
            intro z19 ez19 f20
            obtain rfl : z19 = 2 := by omega
            refine n_imul c_12_14 rfl ?_
            refine n_istore_n c_12_15 rfl rfl ?_
            refine n_iinc c_12_16 rfl rfl rfl ?_
            refine n_goto c_12_19 ?_
            refine n_iload_n c_12_4 rfl ?_
            refine n_iload_n c_12_5 rfl ?_
            refine n_if2_ge c_12_6 (by omega) (by omega) ?_ ?_
            · intro h21
              exfalso; omega
            · intro h22
              refine n_iload_n c_12_9 rfl ?_
              refine n_aload_n c_12_10 rfl ?_
              refine n_getV (bi := 0) c_12_11 sc_4.n rfl rfl rfl (t_4_0 hS) ?_
              intro z23 ez23 f24
              obtain rfl : z23 = 2 := by omega
              refine n_imul c_12_14 rfl ?_
              refine n_istore_n c_12_15 rfl rfl ?_
              refine n_iinc c_12_16 rfl rfl rfl ?_
              refine n_goto c_12_19 ?_
              refine n_iload_n c_12_4 rfl ?_
              refine n_iload_n c_12_5 rfl ?_
              refine n_if2_ge c_12_6 (by omega) (by omega) ?_ ?_
              · intro h25
                exfalso; omega
              · intro h26
                refine n_iload_n c_12_9 rfl ?_
                refine n_aload_n c_12_10 rfl ?_
                refine n_getV (bi := 0) c_12_11 sc_4.n rfl rfl rfl (t_4_0 hS) ?_
                intro z27 ez27 f28
                obtain rfl : z27 = 2 := by omega
                refine n_imul c_12_14 rfl ?_
                refine n_istore_n c_12_15 rfl rfl ?_
                refine n_iinc c_12_16 rfl rfl rfl ?_
                refine n_goto c_12_19 ?_
                refine n_iload_n c_12_4 rfl ?_
                refine n_iload_n c_12_5 rfl ?_
                refine n_if2_ge c_12_6 (by omega) (by omega) ?_ ?_
                · intro h29
                  refine n_iload_n c_12_22 rfl ?_
                  exact n_rI c_12_23 rfl ⟨rfl, by omega⟩
                · intro h30
                  exfalso; omega

set_option maxHeartbeats 4000000 in
theorem power8_2 {xs : List Int32} {e : Nat} {ac : Int} {M0 M : nM} (hS : Sf 2 ac M0 M)  : nW xs e 12 0 [some (2, 4), some (0, 8), none, none] [] M (nPI fun z M1 => M = M1 ∧ (256 ≤ z ∧ z ≤ 256)) := by
  have hd : (2 : Int) = 2 ∨ (2 : Int) = 3 := by decide
  have hac := hS.2.2.2.2
  refine n_iconst c_12_0 ?_
  refine n_istore_n c_12_1 rfl rfl ?_
  refine n_iconst c_12_2 ?_
  refine n_istore_n c_12_3 rfl rfl ?_
  refine n_iload_n c_12_4 rfl ?_
  refine n_iload_n c_12_5 rfl ?_
  refine n_if2_ge c_12_6 (by omega) (by omega) ?_ ?_
  · intro h1
    exfalso; omega
  · intro h2
    refine n_iload_n c_12_9 rfl ?_
    refine n_aload_n c_12_10 rfl ?_
    refine n_getV (bi := 0) c_12_11 sc_4.n rfl rfl rfl (t_4_0 hS) ?_
    intro z3 ez3 f4
    obtain rfl : z3 = 2 := by omega
    refine n_imul c_12_14 rfl ?_
    refine n_istore_n c_12_15 rfl rfl ?_
    refine n_iinc c_12_16 rfl rfl rfl ?_
    refine n_goto c_12_19 ?_
    refine n_iload_n c_12_4 rfl ?_
    refine n_iload_n c_12_5 rfl ?_
    refine n_if2_ge c_12_6 (by omega) (by omega) ?_ ?_
    · intro h5
      exfalso; omega
    · intro h6
      refine n_iload_n c_12_9 rfl ?_
      refine n_aload_n c_12_10 rfl ?_
      refine n_getV (bi := 0) c_12_11 sc_4.n rfl rfl rfl (t_4_0 hS) ?_
      intro z7 ez7 f8
      obtain rfl : z7 = 2 := by omega
      refine n_imul c_12_14 rfl ?_
      refine n_istore_n c_12_15 rfl rfl ?_
      refine n_iinc c_12_16 rfl rfl rfl ?_
      refine n_goto c_12_19 ?_
      refine n_iload_n c_12_4 rfl ?_
      refine n_iload_n c_12_5 rfl ?_
      refine n_if2_ge c_12_6 (by omega) (by omega) ?_ ?_
      · intro h9
        exfalso; omega
      · intro h10
        refine n_iload_n c_12_9 rfl ?_
        refine n_aload_n c_12_10 rfl ?_
        refine n_getV (bi := 0) c_12_11 sc_4.n rfl rfl rfl (t_4_0 hS) ?_
        intro z11 ez11 f12
        obtain rfl : z11 = 2 := by omega
        refine n_imul c_12_14 rfl ?_
        refine n_istore_n c_12_15 rfl rfl ?_
        refine n_iinc c_12_16 rfl rfl rfl ?_
        refine n_goto c_12_19 ?_
        refine n_iload_n c_12_4 rfl ?_
        refine n_iload_n c_12_5 rfl ?_
        refine n_if2_ge c_12_6 (by omega) (by omega) ?_ ?_
        · intro h13
          exfalso; omega
        · intro h14
          refine n_iload_n c_12_9 rfl ?_
          refine n_aload_n c_12_10 rfl ?_
          refine n_getV (bi := 0) c_12_11 sc_4.n rfl rfl rfl (t_4_0 hS) ?_
          intro z15 ez15 f16
          obtain rfl : z15 = 2 := by omega
          refine n_imul c_12_14 rfl ?_
          refine n_istore_n c_12_15 rfl rfl ?_
          refine n_iinc c_12_16 rfl rfl rfl ?_
          refine n_goto c_12_19 ?_
          refine n_iload_n c_12_4 rfl ?_
          refine n_iload_n c_12_5 rfl ?_
          refine n_if2_ge c_12_6 (by omega) (by omega) ?_ ?_
          · intro h17
            exfalso; omega
          · intro h18
            refine n_iload_n c_12_9 rfl ?_
            refine n_aload_n c_12_10 rfl ?_
            refine n_getV (bi := 0) c_12_11 sc_4.n rfl rfl rfl (t_4_0 hS) ?_
            intro z19 ez19 f20
            obtain rfl : z19 = 2 := by omega
            refine n_imul c_12_14 rfl ?_
            refine n_istore_n c_12_15 rfl rfl ?_
            refine n_iinc c_12_16 rfl rfl rfl ?_
            refine n_goto c_12_19 ?_
            refine n_iload_n c_12_4 rfl ?_
            refine n_iload_n c_12_5 rfl ?_
            refine n_if2_ge c_12_6 (by omega) (by omega) ?_ ?_
            · intro h21
              exfalso; omega
            · intro h22
              refine n_iload_n c_12_9 rfl ?_
              refine n_aload_n c_12_10 rfl ?_
              refine n_getV (bi := 0) c_12_11 sc_4.n rfl rfl rfl (t_4_0 hS) ?_
              intro z23 ez23 f24
              obtain rfl : z23 = 2 := by omega
              refine n_imul c_12_14 rfl ?_
              refine n_istore_n c_12_15 rfl rfl ?_
              refine n_iinc c_12_16 rfl rfl rfl ?_
              refine n_goto c_12_19 ?_
              refine n_iload_n c_12_4 rfl ?_
              refine n_iload_n c_12_5 rfl ?_
              refine n_if2_ge c_12_6 (by omega) (by omega) ?_ ?_
              · intro h25
                exfalso; omega
              · intro h26
                refine n_iload_n c_12_9 rfl ?_
                refine n_aload_n c_12_10 rfl ?_
                refine n_getV (bi := 0) c_12_11 sc_4.n rfl rfl rfl (t_4_0 hS) ?_
                intro z27 ez27 f28
                obtain rfl : z27 = 2 := by omega
                refine n_imul c_12_14 rfl ?_
                refine n_istore_n c_12_15 rfl rfl ?_
                refine n_iinc c_12_16 rfl rfl rfl ?_
                refine n_goto c_12_19 ?_
                refine n_iload_n c_12_4 rfl ?_
                refine n_iload_n c_12_5 rfl ?_
                refine n_if2_ge c_12_6 (by omega) (by omega) ?_ ?_
                · intro h29
                  exfalso; omega
                · intro h30
                  refine n_iload_n c_12_9 rfl ?_
                  refine n_aload_n c_12_10 rfl ?_
                  refine n_getV (bi := 0) c_12_11 sc_4.n rfl rfl rfl (t_4_0 hS) ?_
                  intro z31 ez31 f32
                  obtain rfl : z31 = 2 := by omega
                  refine n_imul c_12_14 rfl ?_
                  refine n_istore_n c_12_15 rfl rfl ?_
                  refine n_iinc c_12_16 rfl rfl rfl ?_
                  refine n_goto c_12_19 ?_
                  refine n_iload_n c_12_4 rfl ?_
                  refine n_iload_n c_12_5 rfl ?_
                  refine n_if2_ge c_12_6 (by omega) (by omega) ?_ ?_
                  · intro h33
                    refine n_iload_n c_12_22 rfl ?_
                    exact n_rI c_12_23 rfl ⟨rfl, by omega⟩
                  · intro h34
                    exfalso; omega

set_option maxHeartbeats 4000000 in
theorem power9_2 {xs : List Int32} {e : Nat} {ac : Int} {M0 M : nM} (hS : Sf 2 ac M0 M)  : nW xs e 12 0 [some (2, 4), some (0, 9), none, none] [] M (nPI fun z M1 => M = M1 ∧ (512 ≤ z ∧ z ≤ 512)) := by
  have hd : (2 : Int) = 2 ∨ (2 : Int) = 3 := by decide
  have hac := hS.2.2.2.2
  refine n_iconst c_12_0 ?_
  refine n_istore_n c_12_1 rfl rfl ?_
  refine n_iconst c_12_2 ?_
  refine n_istore_n c_12_3 rfl rfl ?_
  refine n_iload_n c_12_4 rfl ?_
  refine n_iload_n c_12_5 rfl ?_
  refine n_if2_ge c_12_6 (by omega) (by omega) ?_ ?_
  · intro h1
    exfalso; omega
  · intro h2
    refine n_iload_n c_12_9 rfl ?_
    refine n_aload_n c_12_10 rfl ?_
    refine n_getV (bi := 0) c_12_11 sc_4.n rfl rfl rfl (t_4_0 hS) ?_
    intro z3 ez3 f4
    obtain rfl : z3 = 2 := by omega
    refine n_imul c_12_14 rfl ?_
    refine n_istore_n c_12_15 rfl rfl ?_
    refine n_iinc c_12_16 rfl rfl rfl ?_
    refine n_goto c_12_19 ?_
    refine n_iload_n c_12_4 rfl ?_
    refine n_iload_n c_12_5 rfl ?_
    refine n_if2_ge c_12_6 (by omega) (by omega) ?_ ?_
    · intro h5
      exfalso; omega
    · intro h6
      refine n_iload_n c_12_9 rfl ?_
      refine n_aload_n c_12_10 rfl ?_
      refine n_getV (bi := 0) c_12_11 sc_4.n rfl rfl rfl (t_4_0 hS) ?_
      intro z7 ez7 f8
      obtain rfl : z7 = 2 := by omega
      refine n_imul c_12_14 rfl ?_
      refine n_istore_n c_12_15 rfl rfl ?_
      refine n_iinc c_12_16 rfl rfl rfl ?_
      refine n_goto c_12_19 ?_
      refine n_iload_n c_12_4 rfl ?_
      refine n_iload_n c_12_5 rfl ?_
      refine n_if2_ge c_12_6 (by omega) (by omega) ?_ ?_
      · intro h9
        exfalso; omega
      · intro h10
        refine n_iload_n c_12_9 rfl ?_
        refine n_aload_n c_12_10 rfl ?_
        refine n_getV (bi := 0) c_12_11 sc_4.n rfl rfl rfl (t_4_0 hS) ?_
        intro z11 ez11 f12
        obtain rfl : z11 = 2 := by omega
        refine n_imul c_12_14 rfl ?_
        refine n_istore_n c_12_15 rfl rfl ?_
        refine n_iinc c_12_16 rfl rfl rfl ?_
        refine n_goto c_12_19 ?_
        refine n_iload_n c_12_4 rfl ?_
        refine n_iload_n c_12_5 rfl ?_
        refine n_if2_ge c_12_6 (by omega) (by omega) ?_ ?_
        · intro h13
          exfalso; omega
        · intro h14
          refine n_iload_n c_12_9 rfl ?_
          refine n_aload_n c_12_10 rfl ?_
          refine n_getV (bi := 0) c_12_11 sc_4.n rfl rfl rfl (t_4_0 hS) ?_
          intro z15 ez15 f16
          obtain rfl : z15 = 2 := by omega
          refine n_imul c_12_14 rfl ?_
          refine n_istore_n c_12_15 rfl rfl ?_
          refine n_iinc c_12_16 rfl rfl rfl ?_
          refine n_goto c_12_19 ?_
          refine n_iload_n c_12_4 rfl ?_
          refine n_iload_n c_12_5 rfl ?_
          refine n_if2_ge c_12_6 (by omega) (by omega) ?_ ?_
          · intro h17
            exfalso; omega
          · intro h18
            refine n_iload_n c_12_9 rfl ?_
            refine n_aload_n c_12_10 rfl ?_
            refine n_getV (bi := 0) c_12_11 sc_4.n rfl rfl rfl (t_4_0 hS) ?_
            intro z19 ez19 f20
            obtain rfl : z19 = 2 := by omega
            refine n_imul c_12_14 rfl ?_
            refine n_istore_n c_12_15 rfl rfl ?_
            refine n_iinc c_12_16 rfl rfl rfl ?_
            refine n_goto c_12_19 ?_
            refine n_iload_n c_12_4 rfl ?_
            refine n_iload_n c_12_5 rfl ?_
            refine n_if2_ge c_12_6 (by omega) (by omega) ?_ ?_
            · intro h21
              exfalso; omega
            · intro h22
              refine n_iload_n c_12_9 rfl ?_
              refine n_aload_n c_12_10 rfl ?_
              refine n_getV (bi := 0) c_12_11 sc_4.n rfl rfl rfl (t_4_0 hS) ?_
              intro z23 ez23 f24
              obtain rfl : z23 = 2 := by omega
              refine n_imul c_12_14 rfl ?_
              refine n_istore_n c_12_15 rfl rfl ?_
              refine n_iinc c_12_16 rfl rfl rfl ?_
              refine n_goto c_12_19 ?_
              refine n_iload_n c_12_4 rfl ?_
              refine n_iload_n c_12_5 rfl ?_
              refine n_if2_ge c_12_6 (by omega) (by omega) ?_ ?_
              · intro h25
                exfalso; omega
              · intro h26
                refine n_iload_n c_12_9 rfl ?_
                refine n_aload_n c_12_10 rfl ?_
                refine n_getV (bi := 0) c_12_11 sc_4.n rfl rfl rfl (t_4_0 hS) ?_
                intro z27 ez27 f28
                obtain rfl : z27 = 2 := by omega
                refine n_imul c_12_14 rfl ?_
                refine n_istore_n c_12_15 rfl rfl ?_
                refine n_iinc c_12_16 rfl rfl rfl ?_
                refine n_goto c_12_19 ?_
                refine n_iload_n c_12_4 rfl ?_
                refine n_iload_n c_12_5 rfl ?_
                refine n_if2_ge c_12_6 (by omega) (by omega) ?_ ?_
                · intro h29
                  exfalso; omega
                · intro h30
                  refine n_iload_n c_12_9 rfl ?_
                  refine n_aload_n c_12_10 rfl ?_
                  refine n_getV (bi := 0) c_12_11 sc_4.n rfl rfl rfl (t_4_0 hS) ?_
                  intro z31 ez31 f32
                  obtain rfl : z31 = 2 := by omega
                  refine n_imul c_12_14 rfl ?_
                  refine n_istore_n c_12_15 rfl rfl ?_
                  refine n_iinc c_12_16 rfl rfl rfl ?_
                  refine n_goto c_12_19 ?_
                  refine n_iload_n c_12_4 rfl ?_
                  refine n_iload_n c_12_5 rfl ?_
                  refine n_if2_ge c_12_6 (by omega) (by omega) ?_ ?_
                  · intro h33
                    exfalso; omega
                  · intro h34
                    refine n_iload_n c_12_9 rfl ?_
                    refine n_aload_n c_12_10 rfl ?_
                    refine n_getV (bi := 0) c_12_11 sc_4.n rfl rfl rfl (t_4_0 hS) ?_
                    intro z35 ez35 f36
                    obtain rfl : z35 = 2 := by omega
                    refine n_imul c_12_14 rfl ?_
                    refine n_istore_n c_12_15 rfl rfl ?_
                    refine n_iinc c_12_16 rfl rfl rfl ?_
                    refine n_goto c_12_19 ?_
                    refine n_iload_n c_12_4 rfl ?_
                    refine n_iload_n c_12_5 rfl ?_
                    refine n_if2_ge c_12_6 (by omega) (by omega) ?_ ?_
                    · intro h37
                      refine n_iload_n c_12_22 rfl ?_
                      exact n_rI c_12_23 rfl ⟨rfl, by omega⟩
                    · intro h38
                      exfalso; omega

set_option maxHeartbeats 4000000 in
theorem powerU_2 {xs : List Int32} {e : Nat} {ac : Int} {M0 M : nM} {n : Int} (hS : Sf 2 ac M0 M) (hn : 0 ≤ n ∧ n ≤ 3) : nW xs e 12 0 [some (2, 4), some (0, n), none, none] [] M (nPI fun z M1 => M = M1 ∧ (1 ≤ z ∧ z ≤ 8)) := by
  rcases (show n = 0 ∨ n = 1 ∨ n = 2 ∨ n = 3 by omega) with rfl | rfl | rfl | rfl
  · exact n_post (power0_2 hS ) (fun w M1 h => by obtain ⟨z, rfl, h1, h2⟩ := h; exact ⟨z, rfl, h1, by omega⟩)
  · exact n_post (power1_2 hS ) (fun w M1 h => by obtain ⟨z, rfl, h1, h2⟩ := h; exact ⟨z, rfl, h1, by omega⟩)
  · exact n_post (power2_2 hS ) (fun w M1 h => by obtain ⟨z, rfl, h1, h2⟩ := h; exact ⟨z, rfl, h1, by omega⟩)
  · exact n_post (power3_2 hS ) (fun w M1 h => by obtain ⟨z, rfl, h1, h2⟩ := h; exact ⟨z, rfl, h1, by omega⟩)

set_option maxHeartbeats 4000000 in
theorem isMadeOf_2_c {xs : List Int32} {e : Nat} {ac : Int} {M0 M : nM} {n : Int} (hS : Sf 2 ac M0 M) (hn : -2147483648 ≤ n ∧ n ≤ 2147483647) : ∀ m : Nat, (1 < (m : Int) → nW xs e 13 26 [none, none] [] M (nPI fun z M1 => M = M1 ∧ (0 ≤ z ∧ z ≤ 1) ∧ (z = 0 ∨ (1 ≤ n ∧ n ≤ 3)))) := by
  have hd : (2 : Int) = 2 ∨ (2 : Int) = 3 := by decide
  have hac := hS.2.2.2.2
  intro m
  induction m with
  | zero => intros; omega
  | succ m ih =>
    intro hm
    refine n_iconst c_13_26 ?_
    exact n_rZ c_13_27 rfl (by omega) ⟨rfl, by omega, by omega⟩
set_option maxHeartbeats 4000000 in
theorem isMadeOf_2 {xs : List Int32} {e : Nat} {ac : Int} {M0 M : nM} {n : Int} (hS : Sf 2 ac M0 M) (hn : -2147483648 ≤ n ∧ n ≤ 2147483647) : nW xs e 13 0 [some (2, 4), some (0, n)] [] M (nPI fun z M1 => M = M1 ∧ (0 ≤ z ∧ z ≤ 1) ∧ (z = 0 ∨ (1 ≤ n ∧ n ≤ 3))) := by
  have hd : (2 : Int) = 2 ∨ (2 : Int) = 3 := by decide
  have hac := hS.2.2.2.2
  refine n_iload_n c_13_0 rfl ?_
  refine n_iconst c_13_1 ?_
  refine n_if2_lt c_13_2 (by omega) (by omega) ?_ ?_
  · intro h1
    refine n_fg (le_n (le_n le_0)) ?_
    exact (isMadeOf_2_c hS hn 12)   (by omega)
  · intro h2
    refine n_iload_n c_13_5 rfl ?_
    refine n_aload_n c_13_6 rfl ?_
    refine n_getV (bi := 0) c_13_7 sc_4.n rfl rfl rfl (t_4_0 hS) ?_
    intro z3 ez3 f4
    obtain rfl : z3 = 2 := by omega
    refine n_iconst c_13_10 ?_
    refine n_if2_ne c_13_11 (by omega) (by omega) ?_ ?_
    · intro h5
      exfalso; omega
    · intro h6
      refine n_iconst c_13_14 ?_
      refine n_goto c_13_15 ?_
      refine n_if2_gt c_13_19 (by omega) (by omega) ?_ ?_
      · intro h7
        refine n_fg (le_n (le_n le_0)) ?_
        exact (isMadeOf_2_c hS hn 12)   (by omega)
      · intro h8
        refine n_iconst c_13_22 ?_
        refine n_goto c_13_23 ?_
        exact n_rZ c_13_27 rfl (by omega) ⟨rfl, by omega, by omega⟩

set_option maxHeartbeats 4000000 in
theorem codes1_2 {xs : List Int32} {e : Nat} {ac : Int} {M0 M : nM} (hS : Sf 2 ac M0 M)  : nW xs (e + 1) 14 0 [some (2, 4), some (0, 1)] [] M (nPI fun z M1 => M = M1 ∧ (4 ≤ z ∧ z ≤ 4)) := by
  have hd : (2 : Int) = 2 ∨ (2 : Int) = 3 := by decide
  have hac := hS.2.2.2.2
  refine n_aload_n c_14_0 rfl ?_
  refine n_aload_n c_14_1 rfl ?_
  refine n_iload_n c_14_2 rfl ?_
  refine n_v1I c_14_3 rfl sc_4.n rfl rfl rfl rfl (power1_2  hS ) ?_
  intro z1 M2 hP3
  obtain ⟨eM, f3⟩ := hP3
  subst eM
  obtain rfl : z1 = 2 := by omega
  refine n_v1I c_14_6 rfl sc_4.n rfl rfl rfl rfl (power2_2  hS ) ?_
  intro z4 M5 hP6
  obtain ⟨eM, f6⟩ := hP6
  subst eM
  obtain rfl : z4 = 4 := by omega
  exact n_rI c_14_9 rfl ⟨rfl, by omega⟩

set_option maxHeartbeats 4000000 in
theorem codes2_2 {xs : List Int32} {e : Nat} {ac : Int} {M0 M : nM} (hS : Sf 2 ac M0 M)  : nW xs (e + 1) 14 0 [some (2, 4), some (0, 2)] [] M (nPI fun z M1 => M = M1 ∧ (16 ≤ z ∧ z ≤ 16)) := by
  have hd : (2 : Int) = 2 ∨ (2 : Int) = 3 := by decide
  have hac := hS.2.2.2.2
  refine n_aload_n c_14_0 rfl ?_
  refine n_aload_n c_14_1 rfl ?_
  refine n_iload_n c_14_2 rfl ?_
  refine n_v1I c_14_3 rfl sc_4.n rfl rfl rfl rfl (power2_2  hS ) ?_
  intro z1 M2 hP3
  obtain ⟨eM, f3⟩ := hP3
  subst eM
  obtain rfl : z1 = 4 := by omega
  refine n_v1I c_14_6 rfl sc_4.n rfl rfl rfl rfl (power4_2  hS ) ?_
  intro z4 M5 hP6
  obtain ⟨eM, f6⟩ := hP6
  subst eM
  obtain rfl : z4 = 16 := by omega
  exact n_rI c_14_9 rfl ⟨rfl, by omega⟩

set_option maxHeartbeats 4000000 in
theorem codes3_2 {xs : List Int32} {e : Nat} {ac : Int} {M0 M : nM} (hS : Sf 2 ac M0 M)  : nW xs (e + 1) 14 0 [some (2, 4), some (0, 3)] [] M (nPI fun z M1 => M = M1 ∧ (256 ≤ z ∧ z ≤ 256)) := by
  have hd : (2 : Int) = 2 ∨ (2 : Int) = 3 := by decide
  have hac := hS.2.2.2.2
  refine n_aload_n c_14_0 rfl ?_
  refine n_aload_n c_14_1 rfl ?_
  refine n_iload_n c_14_2 rfl ?_
  refine n_v1I c_14_3 rfl sc_4.n rfl rfl rfl rfl (power3_2  hS ) ?_
  intro z1 M2 hP3
  obtain ⟨eM, f3⟩ := hP3
  subst eM
  obtain rfl : z1 = 8 := by omega
  refine n_v1I c_14_6 rfl sc_4.n rfl rfl rfl rfl (power8_2  hS ) ?_
  intro z4 M5 hP6
  obtain ⟨eM, f6⟩ := hP6
  subst eM
  obtain rfl : z4 = 256 := by omega
  exact n_rI c_14_9 rfl ⟨rfl, by omega⟩

set_option maxHeartbeats 4000000 in
theorem allThings_2 {xs : List Int32} {e : Nat} {ac : Int} {M0 M : nM} (hS : Sf 2 ac M0 M)  : nW xs e 15 0 [some (2, 4)] [] M (nPI fun z M1 => M = M1 ∧ (3 ≤ z ∧ z ≤ 3)) := by
  have hd : (2 : Int) = 2 ∨ (2 : Int) = 3 := by decide
  have hac := hS.2.2.2.2
  refine n_iconst c_15_0 ?_
  refine n_aload_n c_15_1 rfl ?_
  refine n_getV (bi := 0) c_15_2 sc_4.n rfl rfl rfl (t_4_0 hS) ?_
  intro z1 ez1 f2
  obtain rfl : z1 = 2 := by omega
  refine n_i_ishl (z := 4) c_15_5 (by decide) ?_
  refine n_iconst c_15_6 ?_
  refine n_isub c_15_7 rfl ?_
  exact n_rI c_15_8 rfl ⟨rfl, by omega⟩
