/-! The methods, by program. -/
set_option maxHeartbeats 4000000 in
theorem ibits_3 {xs : List Int32} {e : Nat} {ac : Int} {M0 M : nM} {x : Int} (hS : Sf 3 ac M0 M) (hx : -2147483648 ≤ x ∧ x ≤ 2147483647) : nW xs e 202 0 [some (0, x)] [] M (nPI fun z M1 => M = M1 ∧ (0 ≤ z ∧ z ≤ 63)) := by
  have hd : (3 : Int) = 2 ∨ (3 : Int) = 3 := by decide
  have hac := hS.2.2.2.2
  refine n_iload_n c_202_0 rfl ?_
  refine n_iload_n c_202_1 rfl ?_
  refine n_iconst c_202_2 ?_
  refine n_i_iushr c_202_3 rfl ?_
  have f1 := n_ushr_r x 1
  generalize (n_ushr x 1) = z2 at f1 ⊢
  refine n_ldc_w (n := 1431655765) c_202_4 rfl ?_
  refine n_i_iand c_202_7 rfl ?_
  have f3 := n_and_y (x := z2) (y := 1431655765) (by omega)
  generalize (n_and z2 1431655765) = z4 at f3 ⊢
  refine n_isub c_202_8 rfl ?_
  refine n_wrap ?_
  have f5 := n_wr_r (x - z4)
  generalize n_wr (x - z4) = z6 at f5 ⊢
  refine n_istore_n (L2 := [some (0, z6)]) c_202_9 rfl rfl ?_
  refine n_iload_n c_202_10 rfl ?_
  refine n_ldc_w (n := 858993459) c_202_11 rfl ?_
  refine n_i_iand c_202_14 rfl ?_
  have f7 := n_and_y (x := z6) (y := 858993459) (by omega)
  generalize (n_and z6 858993459) = z8 at f7 ⊢
  refine n_iload_n c_202_15 rfl ?_
  refine n_iconst c_202_16 ?_
  refine n_i_iushr c_202_17 rfl ?_
  have f9 := n_ushr_r z6 2
  generalize (n_ushr z6 2) = z10 at f9 ⊢
  refine n_ldc_w (n := 858993459) c_202_18 rfl ?_
  refine n_i_iand c_202_21 rfl ?_
  have f11 := n_and_y (x := z10) (y := 858993459) (by omega)
  generalize (n_and z10 858993459) = z12 at f11 ⊢
  refine n_iadd c_202_22 rfl ?_
  refine n_istore_n (L2 := [some (0, (z8 + z12))]) c_202_23 rfl rfl ?_
  refine n_iload_n c_202_24 rfl ?_
  refine n_iload_n c_202_25 rfl ?_
  refine n_iconst c_202_26 ?_
  refine n_i_iushr c_202_27 rfl ?_
  have f13 := n_ushr_r (z8 + z12) 4
  generalize (n_ushr (z8 + z12) 4) = z14 at f13 ⊢
  refine n_iadd c_202_28 rfl ?_
  refine n_wrap ?_
  have f15 := n_wr_r ((z8 + z12) + z14)
  generalize n_wr ((z8 + z12) + z14) = z16 at f15 ⊢
  refine n_ldc_w (n := 252645135) c_202_29 rfl ?_
  refine n_i_iand c_202_32 rfl ?_
  have f17 := n_and_y (x := z16) (y := 252645135) (by omega)
  generalize (n_and z16 252645135) = z18 at f17 ⊢
  refine n_istore_n (L2 := [some (0, z18)]) c_202_33 rfl rfl ?_
  refine n_iload_n c_202_34 rfl ?_
  refine n_iload_n c_202_35 rfl ?_
  refine n_bipush c_202_36 rfl ?_
  refine n_i_iushr c_202_38 rfl ?_
  have f19 := n_ushr_r z18 8
  generalize (n_ushr z18 8) = z20 at f19 ⊢
  refine n_iadd c_202_39 rfl ?_
  refine n_wrap ?_
  have f21 := n_wr_r (z18 + z20)
  generalize n_wr (z18 + z20) = z22 at f21 ⊢
  refine n_istore_n (L2 := [some (0, z22)]) c_202_40 rfl rfl ?_
  refine n_iload_n c_202_41 rfl ?_
  refine n_iload_n c_202_42 rfl ?_
  refine n_bipush c_202_43 rfl ?_
  refine n_i_iushr c_202_45 rfl ?_
  have f23 := n_ushr_r z22 16
  generalize (n_ushr z22 16) = z24 at f23 ⊢
  refine n_iadd c_202_46 rfl ?_
  refine n_wrap ?_
  have f25 := n_wr_r (z22 + z24)
  generalize n_wr (z22 + z24) = z26 at f25 ⊢
  refine n_istore_n (L2 := [some (0, z26)]) c_202_47 rfl rfl ?_
  refine n_iload_n c_202_48 rfl ?_
  refine n_bipush c_202_49 rfl ?_
  refine n_i_iand c_202_51 rfl ?_
  have f27 := n_and_y (x := z26) (y := 63) (by omega)
  generalize (n_and z26 63) = z28 at f27 ⊢
  exact n_rI c_202_52 rfl ⟨rfl, by omega⟩

set_option maxHeartbeats 4000000 in
theorem lbits_3 {xs : List Int32} {e : Nat} {ac : Int} {M0 M : nM} {x : Int} (hS : Sf 3 ac M0 M) (hx : -9223372036854775808 ≤ x ∧ x ≤ 9223372036854775807) : nW xs e 203 0 [some (1, x), none] [] M (nPI fun z M1 => M = M1 ∧ (0 ≤ z ∧ z ≤ 127)) := by
  have hd : (3 : Int) = 2 ∨ (3 : Int) = 3 := by decide
  have hac := hS.2.2.2.2
  refine n_lload_n c_203_0 rfl ?_
  refine n_lload_n c_203_1 rfl ?_
  refine n_iconst c_203_2 ?_
  refine n_i_lushr c_203_3 rfl ?_
  have f1 := n_lushr_r x 1
  generalize (n_lushr x 1) = z2 at f1 ⊢
  refine n_ldc2 (n := 6148914691236517205) c_203_4 rfl ?_
  refine n_i_land c_203_7 rfl ?_
  have f3 := n_land_r z2 6148914691236517205
  generalize (n_land z2 6148914691236517205) = z4 at f3 ⊢
  refine n_lsub c_203_8 rfl ?_
  refine n_wrapl ?_
  have f5 := n_wl_r (x - z4)
  generalize n_wl (x - z4) = z6 at f5 ⊢
  refine n_lstore_n (L2 := [some (1, z6), none]) c_203_9 rfl rfl ?_
  refine n_lload_n c_203_10 rfl ?_
  refine n_ldc2 (n := 3689348814741910323) c_203_11 rfl ?_
  refine n_i_land c_203_14 rfl ?_
  have f7 := n_land_r z6 3689348814741910323
  generalize (n_land z6 3689348814741910323) = z8 at f7 ⊢
  refine n_lload_n c_203_15 rfl ?_
  refine n_iconst c_203_16 ?_
  refine n_i_lushr c_203_17 rfl ?_
  have f9 := n_lushr_r z6 2
  generalize (n_lushr z6 2) = z10 at f9 ⊢
  refine n_ldc2 (n := 3689348814741910323) c_203_18 rfl ?_
  refine n_i_land c_203_21 rfl ?_
  have f11 := n_land_r z10 3689348814741910323
  generalize (n_land z10 3689348814741910323) = z12 at f11 ⊢
  refine n_ladd c_203_22 rfl ?_
  refine n_wrapl ?_
  have f13 := n_wl_r (z8 + z12)
  generalize n_wl (z8 + z12) = z14 at f13 ⊢
  refine n_lstore_n (L2 := [some (1, z14), none]) c_203_23 rfl rfl ?_
  refine n_lload_n c_203_24 rfl ?_
  refine n_lload_n c_203_25 rfl ?_
  refine n_iconst c_203_26 ?_
  refine n_i_lushr c_203_27 rfl ?_
  have f15 := n_lushr_r z14 4
  generalize (n_lushr z14 4) = z16 at f15 ⊢
  refine n_ladd c_203_28 rfl ?_
  refine n_wrapl ?_
  have f17 := n_wl_r (z14 + z16)
  generalize n_wl (z14 + z16) = z18 at f17 ⊢
  refine n_ldc2 (n := 1085102592571150095) c_203_29 rfl ?_
  refine n_i_land c_203_32 rfl ?_
  have f19 := n_land_r z18 1085102592571150095
  generalize (n_land z18 1085102592571150095) = z20 at f19 ⊢
  refine n_lstore_n (L2 := [some (1, z20), none]) c_203_33 rfl rfl ?_
  refine n_lload_n c_203_34 rfl ?_
  refine n_lload_n c_203_35 rfl ?_
  refine n_bipush c_203_36 rfl ?_
  refine n_i_lushr c_203_38 rfl ?_
  have f21 := n_lushr_r z20 8
  generalize (n_lushr z20 8) = z22 at f21 ⊢
  refine n_ladd c_203_39 rfl ?_
  refine n_wrapl ?_
  have f23 := n_wl_r (z20 + z22)
  generalize n_wl (z20 + z22) = z24 at f23 ⊢
  refine n_lstore_n (L2 := [some (1, z24), none]) c_203_40 rfl rfl ?_
  refine n_lload_n c_203_41 rfl ?_
  refine n_lload_n c_203_42 rfl ?_
  refine n_bipush c_203_43 rfl ?_
  refine n_i_lushr c_203_45 rfl ?_
  have f25 := n_lushr_r z24 16
  generalize (n_lushr z24 16) = z26 at f25 ⊢
  refine n_ladd c_203_46 rfl ?_
  refine n_wrapl ?_
  have f27 := n_wl_r (z24 + z26)
  generalize n_wl (z24 + z26) = z28 at f27 ⊢
  refine n_lstore_n (L2 := [some (1, z28), none]) c_203_47 rfl rfl ?_
  refine n_lload_n c_203_48 rfl ?_
  refine n_lload_n c_203_49 rfl ?_
  refine n_bipush c_203_50 rfl ?_
  refine n_i_lushr c_203_52 rfl ?_
  have f29 := n_lushr_r z28 32
  generalize (n_lushr z28 32) = z30 at f29 ⊢
  refine n_ladd c_203_53 rfl ?_
  refine n_wrapl ?_
  have f31 := n_wl_r (z28 + z30)
  generalize n_wl (z28 + z30) = z32 at f31 ⊢
  refine n_lstore_n (L2 := [some (1, z32), none]) c_203_54 rfl rfl ?_
  refine n_lload_n c_203_55 rfl ?_
  refine n_l2i c_203_56 ?_
  refine n_wrap ?_
  have f33 := n_wr_r z32
  generalize n_wr z32 = z34 at f33 ⊢
  refine n_bipush c_203_57 rfl ?_
  refine n_i_iand c_203_59 rfl ?_
  have f35 := n_and_y (x := z34) (y := 127) (by omega)
  generalize (n_and z34 127) = z36 at f35 ⊢
  exact n_rI c_203_60 rfl ⟨rfl, by omega⟩

set_option maxHeartbeats 4000000 in
theorem imax_3 {xs : List Int32} {e : Nat} {ac : Int} {M0 M : nM} {x y : Int} (hS : Sf 3 ac M0 M) (hx : -2147483648 ≤ x ∧ x ≤ 2147483647) (hy : -2147483648 ≤ y ∧ y ≤ 2147483647) : nW xs e 205 0 [some (0, x), some (0, y)] [] M (nPI fun z M1 => M = M1 ∧ (-2147483648 ≤ z ∧ z ≤ 2147483647) ∧ (x ≤ z ∧ y ≤ z ∧ (z = x ∨ z = y))) := by
  have hd : (3 : Int) = 2 ∨ (3 : Int) = 3 := by decide
  have hac := hS.2.2.2.2
  refine n_iload_n c_205_0 rfl ?_
  refine n_iload_n c_205_1 rfl ?_
  refine n_if2_lt c_205_2 (by omega) (by omega) ?_ ?_
  · intro h1
    refine n_iload_n c_205_9 rfl ?_
    exact n_rI c_205_10 rfl ⟨rfl, by omega, by omega⟩
  · intro h2
    refine n_iload_n c_205_5 rfl ?_
    refine n_goto c_205_6 ?_
    exact n_rI c_205_10 rfl ⟨rfl, by omega, by omega⟩

set_option maxHeartbeats 4000000 in
theorem imin_3 {xs : List Int32} {e : Nat} {ac : Int} {M0 M : nM} {x y : Int} (hS : Sf 3 ac M0 M) (hx : -2147483648 ≤ x ∧ x ≤ 2147483647) (hy : -2147483648 ≤ y ∧ y ≤ 2147483647) : nW xs e 206 0 [some (0, x), some (0, y)] [] M (nPI fun z M1 => M = M1 ∧ (-2147483648 ≤ z ∧ z ≤ 2147483647) ∧ (z ≤ x ∧ z ≤ y ∧ (z = x ∨ z = y))) := by
  have hd : (3 : Int) = 2 ∨ (3 : Int) = 3 := by decide
  have hac := hS.2.2.2.2
  refine n_iload_n c_206_0 rfl ?_
  refine n_iload_n c_206_1 rfl ?_
  refine n_if2_gt c_206_2 (by omega) (by omega) ?_ ?_
  · intro h1
    refine n_iload_n c_206_9 rfl ?_
    exact n_rI c_206_10 rfl ⟨rfl, by omega, by omega⟩
  · intro h2
    refine n_iload_n c_206_5 rfl ?_
    refine n_goto c_206_6 ?_
    exact n_rI c_206_10 rfl ⟨rfl, by omega, by omega⟩

set_option maxHeartbeats 4000000 in
theorem fill40_3_c {xs : List Int32} {e : Nat} {ac : Int} {M0 M : nM} {v : Int} (hS : Sf 3 ac M0 M) (hv : -2147483648 ≤ v ∧ v ≤ 2147483647) : ∀ nn : Nat, (∀ (x2 x3 : Int) (M : nM), Sf 3 ac M0 M → (0 ≤ x2 ∧ x2 ≤ 729) → (729 ≤ x3 ∧ x3 ≤ 729) → (729 - x2) * 1 + 1 < (nn : Int) → nW xs e 208 5 [some (2, 40), some (0, v), some (0, x2), some (0, x3)] [] M (nPV fun M1 => Sf 3 ac M0 M1)) := by
  have hd : (3 : Int) = 2 ∨ (3 : Int) = 3 := by decide
  have hac := hS.2.2.2.2
  intro nn
  induction nn with
  | zero => intros; omega
  | succ nn ih =>
    intro x2 x3 M hS k2 k3 hnn
    refine n_iload_n c_208_5 rfl ?_
    refine n_iload_n c_208_6 rfl ?_
    refine n_if2_ge c_208_7 (by omega) (by omega) ?_ ?_
    · intro h1
      exact n_rV c_208_20 rfl hS
    · intro h2
      refine n_aload_n c_208_10 rfl ?_
      refine n_iload_n c_208_11 rfl ?_
      refine n_iload_n c_208_12 rfl ?_
      refine n_iastoreV hS c_208_13 sc_40.n rfl (by omega) (w_40 (by omega) (by omega)) ?_
      intro M3 eM3 hS3
      refine n_iinc (L2 := [some (2, 40), some (0, v), some (0, (x2 + 1)), some (0, x3)]) c_208_14 rfl rfl rfl ?_
      refine n_goto c_208_17 ?_
      refine n_fg (le_s (le_s (le_s (le_s le_0)))) ?_
      exact ih _ _ M3 hS3 (by omega) (by omega) (by omega)
set_option maxHeartbeats 4000000 in
theorem fill40_3 {xs : List Int32} {e : Nat} {ac : Int} {M0 M : nM} {v : Int} (hS : Sf 3 ac M0 M) (hv : -2147483648 ≤ v ∧ v ≤ 2147483647) : nW xs e 208 0 [some (2, 40), some (0, v), none, none] [] M (nPV fun M1 => Sf 3 ac M0 M1) := by
  have hd : (3 : Int) = 2 ∨ (3 : Int) = 3 := by decide
  have hac := hS.2.2.2.2
  refine n_iconst c_208_0 ?_
  refine n_istore_n (L2 := [some (2, 40), some (0, v), some (0, 0), none]) c_208_1 rfl rfl ?_
  refine n_aload_n c_208_2 rfl ?_
  refine n_alen c_208_3 sc_40.n rfl ?_
  refine n_istore_n (L2 := [some (2, 40), some (0, v), some (0, 0), some (0, ((729 : Nat) : Int))]) c_208_4 rfl rfl ?_
  refine n_fg (le_s (le_s (le_s (le_s le_0)))) ?_
  exact (fill40_3_c hS hv 1472) _ _ M hS (by omega) (by omega) (by omega)

set_option maxHeartbeats 4000000 in
theorem fill37_3_c {xs : List Int32} {e : Nat} {ac : Int} {M0 M : nM} {v : Int} (hS : Sf 3 ac M0 M) (hv : -2147483648 ≤ v ∧ v ≤ 2147483647) : ∀ nn : Nat, (∀ (x2 x3 : Int) (M : nM), Sf 3 ac M0 M → (0 ≤ x2 ∧ x2 ≤ 8) → (8 ≤ x3 ∧ x3 ≤ 8) → (8 - x2) * 1 + 1 < (nn : Int) → nW xs e 208 5 [some (2, 37), some (0, v), some (0, x2), some (0, x3)] [] M (nPV fun M1 => Sf 3 ac M0 M1)) := by
  have hd : (3 : Int) = 2 ∨ (3 : Int) = 3 := by decide
  have hac := hS.2.2.2.2
  intro nn
  induction nn with
  | zero => intros; omega
  | succ nn ih =>
    intro x2 x3 M hS k2 k3 hnn
    refine n_iload_n c_208_5 rfl ?_
    refine n_iload_n c_208_6 rfl ?_
    refine n_if2_ge c_208_7 (by omega) (by omega) ?_ ?_
    · intro h1
      exact n_rV c_208_20 rfl hS
    · intro h2
      refine n_aload_n c_208_10 rfl ?_
      refine n_iload_n c_208_11 rfl ?_
      refine n_iload_n c_208_12 rfl ?_
      refine n_iastoreV hS c_208_13 sc_37.n rfl (by omega) (w_37 (by omega) (by omega)) ?_
      intro M3 eM3 hS3
      refine n_iinc (L2 := [some (2, 37), some (0, v), some (0, (x2 + 1)), some (0, x3)]) c_208_14 rfl rfl rfl ?_
      refine n_goto c_208_17 ?_
      refine n_fg (le_s (le_s (le_s (le_s le_0)))) ?_
      exact ih _ _ M3 hS3 (by omega) (by omega) (by omega)
set_option maxHeartbeats 4000000 in
theorem fill37_3 {xs : List Int32} {e : Nat} {ac : Int} {M0 M : nM} {v : Int} (hS : Sf 3 ac M0 M) (hv : -2147483648 ≤ v ∧ v ≤ 2147483647) : nW xs e 208 0 [some (2, 37), some (0, v), none, none] [] M (nPV fun M1 => Sf 3 ac M0 M1) := by
  have hd : (3 : Int) = 2 ∨ (3 : Int) = 3 := by decide
  have hac := hS.2.2.2.2
  refine n_iconst c_208_0 ?_
  refine n_istore_n (L2 := [some (2, 37), some (0, v), some (0, 0), none]) c_208_1 rfl rfl ?_
  refine n_aload_n c_208_2 rfl ?_
  refine n_alen c_208_3 sc_37.n rfl ?_
  refine n_istore_n (L2 := [some (2, 37), some (0, v), some (0, 0), some (0, ((8 : Nat) : Int))]) c_208_4 rfl rfl ?_
  refine n_fg (le_s (le_s (le_s (le_s le_0)))) ?_
  exact (fill37_3_c hS hv 30) _ _ M hS (by omega) (by omega) (by omega)

set_option maxHeartbeats 4000000 in
theorem fill47_3_c {xs : List Int32} {e : Nat} {ac : Int} {M0 M : nM} {v : Int} (hS : Sf 3 ac M0 M) (hv : -9223372036854775808 ≤ v ∧ v ≤ 9223372036854775807) : ∀ nn : Nat, (∀ (x3 x4 : Int) (M : nM), Sf 3 ac M0 M → (0 ≤ x3 ∧ x3 ≤ 308) → (308 ≤ x4 ∧ x4 ≤ 308) → (308 - x3) * 1 + 1 < (nn : Int) → nW xs e 207 6 [some (2, 47), some (1, v), none, some (0, x3), some (0, x4)] [] M (nPV fun M1 => Sf 3 ac M0 M1)) := by
  have hd : (3 : Int) = 2 ∨ (3 : Int) = 3 := by decide
  have hac := hS.2.2.2.2
  intro nn
  induction nn with
  | zero => intros; omega
  | succ nn ih =>
    intro x3 x4 M hS k3 k4 hnn
    refine n_iload_n c_207_6 rfl ?_
    refine n_iload c_207_7 rfl ?_
    refine n_if2_ge c_207_9 (by omega) (by omega) ?_ ?_
    · intro h1
      exact n_rV c_207_22 rfl hS
    · intro h2
      refine n_aload_n c_207_12 rfl ?_
      refine n_iload_n c_207_13 rfl ?_
      refine n_lload_n c_207_14 rfl ?_
      refine n_lastoreV hS c_207_15 sc_47.n rfl (by omega) (w_47 (by omega) (by omega)) ?_
      intro M3 eM3 hS3
      refine n_iinc (L2 := [some (2, 47), some (1, v), none, some (0, (x3 + 1)), some (0, x4)]) c_207_16 rfl rfl rfl ?_
      refine n_goto c_207_19 ?_
      refine n_fg (le_s (le_s (le_n (le_s (le_s le_0))))) ?_
      exact ih _ _ M3 hS3 (by omega) (by omega) (by omega)
set_option maxHeartbeats 4000000 in
theorem fill47_3 {xs : List Int32} {e : Nat} {ac : Int} {M0 M : nM} {v : Int} (hS : Sf 3 ac M0 M) (hv : -9223372036854775808 ≤ v ∧ v ≤ 9223372036854775807) : nW xs e 207 0 [some (2, 47), some (1, v), none, none, none] [] M (nPV fun M1 => Sf 3 ac M0 M1) := by
  have hd : (3 : Int) = 2 ∨ (3 : Int) = 3 := by decide
  have hac := hS.2.2.2.2
  refine n_iconst c_207_0 ?_
  refine n_istore_n (L2 := [some (2, 47), some (1, v), none, some (0, 0), none]) c_207_1 rfl rfl ?_
  refine n_aload_n c_207_2 rfl ?_
  refine n_alen c_207_3 sc_47.n rfl ?_
  refine n_istore (L2 := [some (2, 47), some (1, v), none, some (0, 0), some (0, ((308 : Nat) : Int))]) c_207_4 rfl rfl ?_
  refine n_fg (le_s (le_s (le_n (le_s (le_s le_0))))) ?_
  exact (fill47_3_c hS hv 630) _ _ M hS (by omega) (by omega) (by omega)

set_option maxHeartbeats 4000000 in
theorem fill49_3_c {xs : List Int32} {e : Nat} {ac : Int} {M0 M : nM} {v : Int} (hS : Sf 3 ac M0 M) (hv : -9223372036854775808 ≤ v ∧ v ≤ 9223372036854775807) : ∀ nn : Nat, (∀ (x3 x4 : Int) (M : nM), Sf 3 ac M0 M → (0 ≤ x3 ∧ x3 ≤ 103) → (103 ≤ x4 ∧ x4 ≤ 103) → (103 - x3) * 1 + 1 < (nn : Int) → nW xs e 207 6 [some (2, 49), some (1, v), none, some (0, x3), some (0, x4)] [] M (nPV fun M1 => Sf 3 ac M0 M1)) := by
  have hd : (3 : Int) = 2 ∨ (3 : Int) = 3 := by decide
  have hac := hS.2.2.2.2
  intro nn
  induction nn with
  | zero => intros; omega
  | succ nn ih =>
    intro x3 x4 M hS k3 k4 hnn
    refine n_iload_n c_207_6 rfl ?_
    refine n_iload c_207_7 rfl ?_
    refine n_if2_ge c_207_9 (by omega) (by omega) ?_ ?_
    · intro h1
      exact n_rV c_207_22 rfl hS
    · intro h2
      refine n_aload_n c_207_12 rfl ?_
      refine n_iload_n c_207_13 rfl ?_
      refine n_lload_n c_207_14 rfl ?_
      refine n_lastoreV hS c_207_15 sc_49.n rfl (by omega) (w_49 (by omega) (by omega)) ?_
      intro M3 eM3 hS3
      refine n_iinc (L2 := [some (2, 49), some (1, v), none, some (0, (x3 + 1)), some (0, x4)]) c_207_16 rfl rfl rfl ?_
      refine n_goto c_207_19 ?_
      refine n_fg (le_s (le_s (le_n (le_s (le_s le_0))))) ?_
      exact ih _ _ M3 hS3 (by omega) (by omega) (by omega)
set_option maxHeartbeats 4000000 in
theorem fill49_3 {xs : List Int32} {e : Nat} {ac : Int} {M0 M : nM} {v : Int} (hS : Sf 3 ac M0 M) (hv : -9223372036854775808 ≤ v ∧ v ≤ 9223372036854775807) : nW xs e 207 0 [some (2, 49), some (1, v), none, none, none] [] M (nPV fun M1 => Sf 3 ac M0 M1) := by
  have hd : (3 : Int) = 2 ∨ (3 : Int) = 3 := by decide
  have hac := hS.2.2.2.2
  refine n_iconst c_207_0 ?_
  refine n_istore_n (L2 := [some (2, 49), some (1, v), none, some (0, 0), none]) c_207_1 rfl rfl ?_
  refine n_aload_n c_207_2 rfl ?_
  refine n_alen c_207_3 sc_49.n rfl ?_
  refine n_istore (L2 := [some (2, 49), some (1, v), none, some (0, 0), some (0, ((103 : Nat) : Int))]) c_207_4 rfl rfl ?_
  refine n_fg (le_s (le_s (le_n (le_s (le_s le_0))))) ?_
  exact (fill49_3_c hS hv 220) _ _ M hS (by omega) (by omega) (by omega)

set_option maxHeartbeats 4000000 in
theorem power0_3 {xs : List Int32} {e : Nat} {ac : Int} {M0 M : nM} (hS : Sf 3 ac M0 M)  : nW xs e 12 0 [some (2, 4), some (0, 0), none, none] [] M (nPI fun z M1 => M = M1 ∧ (1 ≤ z ∧ z ≤ 1)) := by
  have hd : (3 : Int) = 2 ∨ (3 : Int) = 3 := by decide
  have hac := hS.2.2.2.2
  refine n_iconst c_12_0 ?_
  refine n_istore_n (L2 := [some (2, 4), some (0, 0), some (0, 1), none]) c_12_1 rfl rfl ?_
  refine n_iconst c_12_2 ?_
  refine n_istore_n (L2 := [some (2, 4), some (0, 0), some (0, 1), some (0, 0)]) c_12_3 rfl rfl ?_
  refine n_iload_n c_12_4 rfl ?_
  refine n_iload_n c_12_5 rfl ?_
  refine n_if2_ge c_12_6 (by omega) (by omega) ?_ ?_
  · intro h1
    refine n_iload_n c_12_22 rfl ?_
    exact n_rI c_12_23 rfl ⟨rfl, by omega⟩
  · intro h2
    exfalso; omega

set_option maxHeartbeats 4000000 in
theorem power1_3 {xs : List Int32} {e : Nat} {ac : Int} {M0 M : nM} (hS : Sf 3 ac M0 M)  : nW xs e 12 0 [some (2, 4), some (0, 1), none, none] [] M (nPI fun z M1 => M = M1 ∧ (3 ≤ z ∧ z ≤ 3)) := by
  have hd : (3 : Int) = 2 ∨ (3 : Int) = 3 := by decide
  have hac := hS.2.2.2.2
  refine n_iconst c_12_0 ?_
  refine n_istore_n (L2 := [some (2, 4), some (0, 1), some (0, 1), none]) c_12_1 rfl rfl ?_
  refine n_iconst c_12_2 ?_
  refine n_istore_n (L2 := [some (2, 4), some (0, 1), some (0, 1), some (0, 0)]) c_12_3 rfl rfl ?_
  refine n_iload_n c_12_4 rfl ?_
  refine n_iload_n c_12_5 rfl ?_
  refine n_if2_ge c_12_6 (by omega) (by omega) ?_ ?_
  · intro h1
    exfalso; omega
  · intro h2
    refine n_iload_n c_12_9 rfl ?_
    refine n_aload_n c_12_10 rfl ?_
    refine n_getV (bi := 0) c_12_11 sc_4.n rfl rfl rfl (t_4_0 hS) ?_
    intro z3 ez3 f4
    obtain rfl : z3 = 3 := by omega
    refine n_imul c_12_14 rfl ?_
    refine n_istore_n (L2 := [some (2, 4), some (0, 1), some (0, (1 * 3)), some (0, 0)]) c_12_15 rfl rfl ?_
    refine n_iinc (L2 := [some (2, 4), some (0, 1), some (0, (1 * 3)), some (0, (0 + 1))]) c_12_16 rfl rfl rfl ?_
    refine n_goto c_12_19 ?_
    refine n_iload_n c_12_4 rfl ?_
    refine n_iload_n c_12_5 rfl ?_
    refine n_if2_ge c_12_6 (by omega) (by omega) ?_ ?_
    · intro h5
      refine n_iload_n c_12_22 rfl ?_
      exact n_rI c_12_23 rfl ⟨rfl, by omega⟩
    · intro h6
      exfalso; omega

set_option maxHeartbeats 4000000 in
theorem power2_3 {xs : List Int32} {e : Nat} {ac : Int} {M0 M : nM} (hS : Sf 3 ac M0 M)  : nW xs e 12 0 [some (2, 4), some (0, 2), none, none] [] M (nPI fun z M1 => M = M1 ∧ (9 ≤ z ∧ z ≤ 9)) := by
  have hd : (3 : Int) = 2 ∨ (3 : Int) = 3 := by decide
  have hac := hS.2.2.2.2
  refine n_iconst c_12_0 ?_
  refine n_istore_n (L2 := [some (2, 4), some (0, 2), some (0, 1), none]) c_12_1 rfl rfl ?_
  refine n_iconst c_12_2 ?_
  refine n_istore_n (L2 := [some (2, 4), some (0, 2), some (0, 1), some (0, 0)]) c_12_3 rfl rfl ?_
  refine n_iload_n c_12_4 rfl ?_
  refine n_iload_n c_12_5 rfl ?_
  refine n_if2_ge c_12_6 (by omega) (by omega) ?_ ?_
  · intro h1
    exfalso; omega
  · intro h2
    refine n_iload_n c_12_9 rfl ?_
    refine n_aload_n c_12_10 rfl ?_
    refine n_getV (bi := 0) c_12_11 sc_4.n rfl rfl rfl (t_4_0 hS) ?_
    intro z3 ez3 f4
    obtain rfl : z3 = 3 := by omega
    refine n_imul c_12_14 rfl ?_
    refine n_istore_n (L2 := [some (2, 4), some (0, 2), some (0, (1 * 3)), some (0, 0)]) c_12_15 rfl rfl ?_
    refine n_iinc (L2 := [some (2, 4), some (0, 2), some (0, (1 * 3)), some (0, (0 + 1))]) c_12_16 rfl rfl rfl ?_
    refine n_goto c_12_19 ?_
    refine n_iload_n c_12_4 rfl ?_
    refine n_iload_n c_12_5 rfl ?_
    refine n_if2_ge c_12_6 (by omega) (by omega) ?_ ?_
    · intro h5
      exfalso; omega
    · intro h6
      refine n_iload_n c_12_9 rfl ?_
      refine n_aload_n c_12_10 rfl ?_
      refine n_getV (bi := 0) c_12_11 sc_4.n rfl rfl rfl (t_4_0 hS) ?_
      intro z7 ez7 f8
      obtain rfl : z7 = 3 := by omega
      refine n_imul c_12_14 rfl ?_
      refine n_istore_n (L2 := [some (2, 4), some (0, 2), some (0, ((1 * 3) * 3)), some (0, (0 + 1))]) c_12_15 rfl rfl ?_
      refine n_iinc (L2 := [some (2, 4), some (0, 2), some (0, ((1 * 3) * 3)), some (0, ((0 + 1) + 1))]) c_12_16 rfl rfl rfl ?_
      refine n_goto c_12_19 ?_
      refine n_iload_n c_12_4 rfl ?_
      refine n_iload_n c_12_5 rfl ?_
      refine n_if2_ge c_12_6 (by omega) (by omega) ?_ ?_
      · intro h9
        refine n_iload_n c_12_22 rfl ?_
        exact n_rI c_12_23 rfl ⟨rfl, by omega⟩
      · intro h10
        exfalso; omega

set_option maxHeartbeats 4000000 in
theorem power3_3 {xs : List Int32} {e : Nat} {ac : Int} {M0 M : nM} (hS : Sf 3 ac M0 M)  : nW xs e 12 0 [some (2, 4), some (0, 3), none, none] [] M (nPI fun z M1 => M = M1 ∧ (27 ≤ z ∧ z ≤ 27)) := by
  have hd : (3 : Int) = 2 ∨ (3 : Int) = 3 := by decide
  have hac := hS.2.2.2.2
  refine n_iconst c_12_0 ?_
  refine n_istore_n (L2 := [some (2, 4), some (0, 3), some (0, 1), none]) c_12_1 rfl rfl ?_
  refine n_iconst c_12_2 ?_
  refine n_istore_n (L2 := [some (2, 4), some (0, 3), some (0, 1), some (0, 0)]) c_12_3 rfl rfl ?_
  refine n_iload_n c_12_4 rfl ?_
  refine n_iload_n c_12_5 rfl ?_
  refine n_if2_ge c_12_6 (by omega) (by omega) ?_ ?_
  · intro h1
    exfalso; omega
  · intro h2
    refine n_iload_n c_12_9 rfl ?_
    refine n_aload_n c_12_10 rfl ?_
    refine n_getV (bi := 0) c_12_11 sc_4.n rfl rfl rfl (t_4_0 hS) ?_
    intro z3 ez3 f4
    obtain rfl : z3 = 3 := by omega
    refine n_imul c_12_14 rfl ?_
    refine n_istore_n (L2 := [some (2, 4), some (0, 3), some (0, (1 * 3)), some (0, 0)]) c_12_15 rfl rfl ?_
    refine n_iinc (L2 := [some (2, 4), some (0, 3), some (0, (1 * 3)), some (0, (0 + 1))]) c_12_16 rfl rfl rfl ?_
    refine n_goto c_12_19 ?_
    refine n_iload_n c_12_4 rfl ?_
    refine n_iload_n c_12_5 rfl ?_
    refine n_if2_ge c_12_6 (by omega) (by omega) ?_ ?_
    · intro h5
      exfalso; omega
    · intro h6
      refine n_iload_n c_12_9 rfl ?_
      refine n_aload_n c_12_10 rfl ?_
      refine n_getV (bi := 0) c_12_11 sc_4.n rfl rfl rfl (t_4_0 hS) ?_
      intro z7 ez7 f8
      obtain rfl : z7 = 3 := by omega
      refine n_imul c_12_14 rfl ?_
      refine n_istore_n (L2 := [some (2, 4), some (0, 3), some (0, ((1 * 3) * 3)), some (0, (0 + 1))]) c_12_15 rfl rfl ?_
      refine n_iinc (L2 := [some (2, 4), some (0, 3), some (0, ((1 * 3) * 3)), some (0, ((0 + 1) + 1))]) c_12_16 rfl rfl rfl ?_
      refine n_goto c_12_19 ?_
      refine n_iload_n c_12_4 rfl ?_
      refine n_iload_n c_12_5 rfl ?_
      refine n_if2_ge c_12_6 (by omega) (by omega) ?_ ?_
      · intro h9
        exfalso; omega
      · intro h10
        refine n_iload_n c_12_9 rfl ?_
        refine n_aload_n c_12_10 rfl ?_
        refine n_getV (bi := 0) c_12_11 sc_4.n rfl rfl rfl (t_4_0 hS) ?_
        intro z11 ez11 f12
        obtain rfl : z11 = 3 := by omega
        refine n_imul c_12_14 rfl ?_
        refine n_istore_n (L2 := [some (2, 4), some (0, 3), some (0, (((1 * 3) * 3) * 3)), some (0, ((0 + 1) + 1))]) c_12_15 rfl rfl ?_
        refine n_iinc (L2 := [some (2, 4), some (0, 3), some (0, (((1 * 3) * 3) * 3)), some (0, (((0 + 1) + 1) + 1))]) c_12_16 rfl rfl rfl ?_
        refine n_goto c_12_19 ?_
        refine n_iload_n c_12_4 rfl ?_
        refine n_iload_n c_12_5 rfl ?_
        refine n_if2_ge c_12_6 (by omega) (by omega) ?_ ?_
        · intro h13
          refine n_iload_n c_12_22 rfl ?_
          exact n_rI c_12_23 rfl ⟨rfl, by omega⟩
        · intro h14
          exfalso; omega

set_option maxHeartbeats 4000000 in
theorem power4_3 {xs : List Int32} {e : Nat} {ac : Int} {M0 M : nM} (hS : Sf 3 ac M0 M)  : nW xs e 12 0 [some (2, 4), some (0, 4), none, none] [] M (nPI fun z M1 => M = M1 ∧ (81 ≤ z ∧ z ≤ 81)) := by
  have hd : (3 : Int) = 2 ∨ (3 : Int) = 3 := by decide
  have hac := hS.2.2.2.2
  refine n_iconst c_12_0 ?_
  refine n_istore_n (L2 := [some (2, 4), some (0, 4), some (0, 1), none]) c_12_1 rfl rfl ?_
  refine n_iconst c_12_2 ?_
  refine n_istore_n (L2 := [some (2, 4), some (0, 4), some (0, 1), some (0, 0)]) c_12_3 rfl rfl ?_
  refine n_iload_n c_12_4 rfl ?_
  refine n_iload_n c_12_5 rfl ?_
  refine n_if2_ge c_12_6 (by omega) (by omega) ?_ ?_
  · intro h1
    exfalso; omega
  · intro h2
    refine n_iload_n c_12_9 rfl ?_
    refine n_aload_n c_12_10 rfl ?_
    refine n_getV (bi := 0) c_12_11 sc_4.n rfl rfl rfl (t_4_0 hS) ?_
    intro z3 ez3 f4
    obtain rfl : z3 = 3 := by omega
    refine n_imul c_12_14 rfl ?_
    refine n_istore_n (L2 := [some (2, 4), some (0, 4), some (0, (1 * 3)), some (0, 0)]) c_12_15 rfl rfl ?_
    refine n_iinc (L2 := [some (2, 4), some (0, 4), some (0, (1 * 3)), some (0, (0 + 1))]) c_12_16 rfl rfl rfl ?_
    refine n_goto c_12_19 ?_
    refine n_iload_n c_12_4 rfl ?_
    refine n_iload_n c_12_5 rfl ?_
    refine n_if2_ge c_12_6 (by omega) (by omega) ?_ ?_
    · intro h5
      exfalso; omega
    · intro h6
      refine n_iload_n c_12_9 rfl ?_
      refine n_aload_n c_12_10 rfl ?_
      refine n_getV (bi := 0) c_12_11 sc_4.n rfl rfl rfl (t_4_0 hS) ?_
      intro z7 ez7 f8
      obtain rfl : z7 = 3 := by omega
      refine n_imul c_12_14 rfl ?_
      refine n_istore_n (L2 := [some (2, 4), some (0, 4), some (0, ((1 * 3) * 3)), some (0, (0 + 1))]) c_12_15 rfl rfl ?_
      refine n_iinc (L2 := [some (2, 4), some (0, 4), some (0, ((1 * 3) * 3)), some (0, ((0 + 1) + 1))]) c_12_16 rfl rfl rfl ?_
      refine n_goto c_12_19 ?_
      refine n_iload_n c_12_4 rfl ?_
      refine n_iload_n c_12_5 rfl ?_
      refine n_if2_ge c_12_6 (by omega) (by omega) ?_ ?_
      · intro h9
        exfalso; omega
      · intro h10
        refine n_iload_n c_12_9 rfl ?_
        refine n_aload_n c_12_10 rfl ?_
        refine n_getV (bi := 0) c_12_11 sc_4.n rfl rfl rfl (t_4_0 hS) ?_
        intro z11 ez11 f12
        obtain rfl : z11 = 3 := by omega
        refine n_imul c_12_14 rfl ?_
        refine n_istore_n (L2 := [some (2, 4), some (0, 4), some (0, (((1 * 3) * 3) * 3)), some (0, ((0 + 1) + 1))]) c_12_15 rfl rfl ?_
        refine n_iinc (L2 := [some (2, 4), some (0, 4), some (0, (((1 * 3) * 3) * 3)), some (0, (((0 + 1) + 1) + 1))]) c_12_16 rfl rfl rfl ?_
        refine n_goto c_12_19 ?_
        refine n_iload_n c_12_4 rfl ?_
        refine n_iload_n c_12_5 rfl ?_
        refine n_if2_ge c_12_6 (by omega) (by omega) ?_ ?_
        · intro h13
          exfalso; omega
        · intro h14
          refine n_iload_n c_12_9 rfl ?_
          refine n_aload_n c_12_10 rfl ?_
          refine n_getV (bi := 0) c_12_11 sc_4.n rfl rfl rfl (t_4_0 hS) ?_
          intro z15 ez15 f16
          obtain rfl : z15 = 3 := by omega
          refine n_imul c_12_14 rfl ?_
          refine n_istore_n (L2 := [some (2, 4), some (0, 4), some (0, ((((1 * 3) * 3) * 3) * 3)), some (0, (((0 + 1) + 1) + 1))]) c_12_15 rfl rfl ?_
          refine n_iinc (L2 := [some (2, 4), some (0, 4), some (0, ((((1 * 3) * 3) * 3) * 3)), some (0, ((((0 + 1) + 1) + 1) + 1))]) c_12_16 rfl rfl rfl ?_
          refine n_goto c_12_19 ?_
          refine n_iload_n c_12_4 rfl ?_
          refine n_iload_n c_12_5 rfl ?_
          refine n_if2_ge c_12_6 (by omega) (by omega) ?_ ?_
          · intro h17
            refine n_iload_n c_12_22 rfl ?_
            exact n_rI c_12_23 rfl ⟨rfl, by omega⟩
          · intro h18
            exfalso; omega

set_option maxHeartbeats 4000000 in
theorem power5_3 {xs : List Int32} {e : Nat} {ac : Int} {M0 M : nM} (hS : Sf 3 ac M0 M)  : nW xs e 12 0 [some (2, 4), some (0, 5), none, none] [] M (nPI fun z M1 => M = M1 ∧ (243 ≤ z ∧ z ≤ 243)) := by
  have hd : (3 : Int) = 2 ∨ (3 : Int) = 3 := by decide
  have hac := hS.2.2.2.2
  refine n_iconst c_12_0 ?_
  refine n_istore_n (L2 := [some (2, 4), some (0, 5), some (0, 1), none]) c_12_1 rfl rfl ?_
  refine n_iconst c_12_2 ?_
  refine n_istore_n (L2 := [some (2, 4), some (0, 5), some (0, 1), some (0, 0)]) c_12_3 rfl rfl ?_
  refine n_iload_n c_12_4 rfl ?_
  refine n_iload_n c_12_5 rfl ?_
  refine n_if2_ge c_12_6 (by omega) (by omega) ?_ ?_
  · intro h1
    exfalso; omega
  · intro h2
    refine n_iload_n c_12_9 rfl ?_
    refine n_aload_n c_12_10 rfl ?_
    refine n_getV (bi := 0) c_12_11 sc_4.n rfl rfl rfl (t_4_0 hS) ?_
    intro z3 ez3 f4
    obtain rfl : z3 = 3 := by omega
    refine n_imul c_12_14 rfl ?_
    refine n_istore_n (L2 := [some (2, 4), some (0, 5), some (0, (1 * 3)), some (0, 0)]) c_12_15 rfl rfl ?_
    refine n_iinc (L2 := [some (2, 4), some (0, 5), some (0, (1 * 3)), some (0, (0 + 1))]) c_12_16 rfl rfl rfl ?_
    refine n_goto c_12_19 ?_
    refine n_iload_n c_12_4 rfl ?_
    refine n_iload_n c_12_5 rfl ?_
    refine n_if2_ge c_12_6 (by omega) (by omega) ?_ ?_
    · intro h5
      exfalso; omega
    · intro h6
      refine n_iload_n c_12_9 rfl ?_
      refine n_aload_n c_12_10 rfl ?_
      refine n_getV (bi := 0) c_12_11 sc_4.n rfl rfl rfl (t_4_0 hS) ?_
      intro z7 ez7 f8
      obtain rfl : z7 = 3 := by omega
      refine n_imul c_12_14 rfl ?_
      refine n_istore_n (L2 := [some (2, 4), some (0, 5), some (0, ((1 * 3) * 3)), some (0, (0 + 1))]) c_12_15 rfl rfl ?_
      refine n_iinc (L2 := [some (2, 4), some (0, 5), some (0, ((1 * 3) * 3)), some (0, ((0 + 1) + 1))]) c_12_16 rfl rfl rfl ?_
      refine n_goto c_12_19 ?_
      refine n_iload_n c_12_4 rfl ?_
      refine n_iload_n c_12_5 rfl ?_
      refine n_if2_ge c_12_6 (by omega) (by omega) ?_ ?_
      · intro h9
        exfalso; omega
      · intro h10
        refine n_iload_n c_12_9 rfl ?_
        refine n_aload_n c_12_10 rfl ?_
        refine n_getV (bi := 0) c_12_11 sc_4.n rfl rfl rfl (t_4_0 hS) ?_
        intro z11 ez11 f12
        obtain rfl : z11 = 3 := by omega
        refine n_imul c_12_14 rfl ?_
        refine n_istore_n (L2 := [some (2, 4), some (0, 5), some (0, (((1 * 3) * 3) * 3)), some (0, ((0 + 1) + 1))]) c_12_15 rfl rfl ?_
        refine n_iinc (L2 := [some (2, 4), some (0, 5), some (0, (((1 * 3) * 3) * 3)), some (0, (((0 + 1) + 1) + 1))]) c_12_16 rfl rfl rfl ?_
        refine n_goto c_12_19 ?_
        refine n_iload_n c_12_4 rfl ?_
        refine n_iload_n c_12_5 rfl ?_
        refine n_if2_ge c_12_6 (by omega) (by omega) ?_ ?_
        · intro h13
          exfalso; omega
        · intro h14
          refine n_iload_n c_12_9 rfl ?_
          refine n_aload_n c_12_10 rfl ?_
          refine n_getV (bi := 0) c_12_11 sc_4.n rfl rfl rfl (t_4_0 hS) ?_
          intro z15 ez15 f16
          obtain rfl : z15 = 3 := by omega
          refine n_imul c_12_14 rfl ?_
          refine n_istore_n (L2 := [some (2, 4), some (0, 5), some (0, ((((1 * 3) * 3) * 3) * 3)), some (0, (((0 + 1) + 1) + 1))]) c_12_15 rfl rfl ?_
          refine n_iinc (L2 := [some (2, 4), some (0, 5), some (0, ((((1 * 3) * 3) * 3) * 3)), some (0, ((((0 + 1) + 1) + 1) + 1))]) c_12_16 rfl rfl rfl ?_
          refine n_goto c_12_19 ?_
          refine n_iload_n c_12_4 rfl ?_
          refine n_iload_n c_12_5 rfl ?_
          refine n_if2_ge c_12_6 (by omega) (by omega) ?_ ?_
          · intro h17
            exfalso; omega
          · intro h18
            refine n_iload_n c_12_9 rfl ?_
            refine n_aload_n c_12_10 rfl ?_
            refine n_getV (bi := 0) c_12_11 sc_4.n rfl rfl rfl (t_4_0 hS) ?_
            intro z19 ez19 f20
            obtain rfl : z19 = 3 := by omega
            refine n_imul c_12_14 rfl ?_
            refine n_istore_n (L2 := [some (2, 4), some (0, 5), some (0, (((((1 * 3) * 3) * 3) * 3) * 3)), some (0, ((((0 + 1) + 1) + 1) + 1))]) c_12_15 rfl rfl ?_
            refine n_iinc (L2 := [some (2, 4), some (0, 5), some (0, (((((1 * 3) * 3) * 3) * 3) * 3)), some (0, (((((0 + 1) + 1) + 1) + 1) + 1))]) c_12_16 rfl rfl rfl ?_
            refine n_goto c_12_19 ?_
            refine n_iload_n c_12_4 rfl ?_
            refine n_iload_n c_12_5 rfl ?_
            refine n_if2_ge c_12_6 (by omega) (by omega) ?_ ?_
            · intro h21
              refine n_iload_n c_12_22 rfl ?_
              exact n_rI c_12_23 rfl ⟨rfl, by omega⟩
            · intro h22
              exfalso; omega

set_option maxHeartbeats 4000000 in
theorem power6_3 {xs : List Int32} {e : Nat} {ac : Int} {M0 M : nM} (hS : Sf 3 ac M0 M)  : nW xs e 12 0 [some (2, 4), some (0, 6), none, none] [] M (nPI fun z M1 => M = M1 ∧ (729 ≤ z ∧ z ≤ 729)) := by
  have hd : (3 : Int) = 2 ∨ (3 : Int) = 3 := by decide
  have hac := hS.2.2.2.2
  refine n_iconst c_12_0 ?_
  refine n_istore_n (L2 := [some (2, 4), some (0, 6), some (0, 1), none]) c_12_1 rfl rfl ?_
  refine n_iconst c_12_2 ?_
  refine n_istore_n (L2 := [some (2, 4), some (0, 6), some (0, 1), some (0, 0)]) c_12_3 rfl rfl ?_
  refine n_iload_n c_12_4 rfl ?_
  refine n_iload_n c_12_5 rfl ?_
  refine n_if2_ge c_12_6 (by omega) (by omega) ?_ ?_
  · intro h1
    exfalso; omega
  · intro h2
    refine n_iload_n c_12_9 rfl ?_
    refine n_aload_n c_12_10 rfl ?_
    refine n_getV (bi := 0) c_12_11 sc_4.n rfl rfl rfl (t_4_0 hS) ?_
    intro z3 ez3 f4
    obtain rfl : z3 = 3 := by omega
    refine n_imul c_12_14 rfl ?_
    refine n_istore_n (L2 := [some (2, 4), some (0, 6), some (0, (1 * 3)), some (0, 0)]) c_12_15 rfl rfl ?_
    refine n_iinc (L2 := [some (2, 4), some (0, 6), some (0, (1 * 3)), some (0, (0 + 1))]) c_12_16 rfl rfl rfl ?_
    refine n_goto c_12_19 ?_
    refine n_iload_n c_12_4 rfl ?_
    refine n_iload_n c_12_5 rfl ?_
    refine n_if2_ge c_12_6 (by omega) (by omega) ?_ ?_
    · intro h5
      exfalso; omega
    · intro h6
      refine n_iload_n c_12_9 rfl ?_
      refine n_aload_n c_12_10 rfl ?_
      refine n_getV (bi := 0) c_12_11 sc_4.n rfl rfl rfl (t_4_0 hS) ?_
      intro z7 ez7 f8
      obtain rfl : z7 = 3 := by omega
      refine n_imul c_12_14 rfl ?_
      refine n_istore_n (L2 := [some (2, 4), some (0, 6), some (0, ((1 * 3) * 3)), some (0, (0 + 1))]) c_12_15 rfl rfl ?_
      refine n_iinc (L2 := [some (2, 4), some (0, 6), some (0, ((1 * 3) * 3)), some (0, ((0 + 1) + 1))]) c_12_16 rfl rfl rfl ?_
      refine n_goto c_12_19 ?_
      refine n_iload_n c_12_4 rfl ?_
      refine n_iload_n c_12_5 rfl ?_
      refine n_if2_ge c_12_6 (by omega) (by omega) ?_ ?_
      · intro h9
        exfalso; omega
      · intro h10
        refine n_iload_n c_12_9 rfl ?_
        refine n_aload_n c_12_10 rfl ?_
        refine n_getV (bi := 0) c_12_11 sc_4.n rfl rfl rfl (t_4_0 hS) ?_
        intro z11 ez11 f12
        obtain rfl : z11 = 3 := by omega
        refine n_imul c_12_14 rfl ?_
        refine n_istore_n (L2 := [some (2, 4), some (0, 6), some (0, (((1 * 3) * 3) * 3)), some (0, ((0 + 1) + 1))]) c_12_15 rfl rfl ?_
        refine n_iinc (L2 := [some (2, 4), some (0, 6), some (0, (((1 * 3) * 3) * 3)), some (0, (((0 + 1) + 1) + 1))]) c_12_16 rfl rfl rfl ?_
        refine n_goto c_12_19 ?_
        refine n_iload_n c_12_4 rfl ?_
        refine n_iload_n c_12_5 rfl ?_
        refine n_if2_ge c_12_6 (by omega) (by omega) ?_ ?_
        · intro h13
          exfalso; omega
        · intro h14
          refine n_iload_n c_12_9 rfl ?_
          refine n_aload_n c_12_10 rfl ?_
          refine n_getV (bi := 0) c_12_11 sc_4.n rfl rfl rfl (t_4_0 hS) ?_
          intro z15 ez15 f16
          obtain rfl : z15 = 3 := by omega
          refine n_imul c_12_14 rfl ?_
          refine n_istore_n (L2 := [some (2, 4), some (0, 6), some (0, ((((1 * 3) * 3) * 3) * 3)), some (0, (((0 + 1) + 1) + 1))]) c_12_15 rfl rfl ?_
          refine n_iinc (L2 := [some (2, 4), some (0, 6), some (0, ((((1 * 3) * 3) * 3) * 3)), some (0, ((((0 + 1) + 1) + 1) + 1))]) c_12_16 rfl rfl rfl ?_
          refine n_goto c_12_19 ?_
          refine n_iload_n c_12_4 rfl ?_
          refine n_iload_n c_12_5 rfl ?_
          refine n_if2_ge c_12_6 (by omega) (by omega) ?_ ?_
          · intro h17
            exfalso; omega
          · intro h18
            refine n_iload_n c_12_9 rfl ?_
            refine n_aload_n c_12_10 rfl ?_
            refine n_getV (bi := 0) c_12_11 sc_4.n rfl rfl rfl (t_4_0 hS) ?_
            intro z19 ez19 f20
            obtain rfl : z19 = 3 := by omega
            refine n_imul c_12_14 rfl ?_
            refine n_istore_n (L2 := [some (2, 4), some (0, 6), some (0, (((((1 * 3) * 3) * 3) * 3) * 3)), some (0, ((((0 + 1) + 1) + 1) + 1))]) c_12_15 rfl rfl ?_
            refine n_iinc (L2 := [some (2, 4), some (0, 6), some (0, (((((1 * 3) * 3) * 3) * 3) * 3)), some (0, (((((0 + 1) + 1) + 1) + 1) + 1))]) c_12_16 rfl rfl rfl ?_
            refine n_goto c_12_19 ?_
            refine n_iload_n c_12_4 rfl ?_
            refine n_iload_n c_12_5 rfl ?_
            refine n_if2_ge c_12_6 (by omega) (by omega) ?_ ?_
            · intro h21
              exfalso; omega
            · intro h22
              refine n_iload_n c_12_9 rfl ?_
              refine n_aload_n c_12_10 rfl ?_
              refine n_getV (bi := 0) c_12_11 sc_4.n rfl rfl rfl (t_4_0 hS) ?_
              intro z23 ez23 f24
              obtain rfl : z23 = 3 := by omega
              refine n_imul c_12_14 rfl ?_
              refine n_istore_n (L2 := [some (2, 4), some (0, 6), some (0, ((((((1 * 3) * 3) * 3) * 3) * 3) * 3)), some (0, (((((0 + 1) + 1) + 1) + 1) + 1))]) c_12_15 rfl rfl ?_
              refine n_iinc (L2 := [some (2, 4), some (0, 6), some (0, ((((((1 * 3) * 3) * 3) * 3) * 3) * 3)), some (0, ((((((0 + 1) + 1) + 1) + 1) + 1) + 1))]) c_12_16 rfl rfl rfl ?_
              refine n_goto c_12_19 ?_
              refine n_iload_n c_12_4 rfl ?_
              refine n_iload_n c_12_5 rfl ?_
              refine n_if2_ge c_12_6 (by omega) (by omega) ?_ ?_
              · intro h25
                refine n_iload_n c_12_22 rfl ?_
                exact n_rI c_12_23 rfl ⟨rfl, by omega⟩
              · intro h26
                exfalso; omega

set_option maxHeartbeats 4000000 in
theorem power7_3 {xs : List Int32} {e : Nat} {ac : Int} {M0 M : nM} (hS : Sf 3 ac M0 M)  : nW xs e 12 0 [some (2, 4), some (0, 7), none, none] [] M (nPI fun z M1 => M = M1 ∧ (2187 ≤ z ∧ z ≤ 2187)) := by
  have hd : (3 : Int) = 2 ∨ (3 : Int) = 3 := by decide
  have hac := hS.2.2.2.2
  refine n_iconst c_12_0 ?_
  refine n_istore_n (L2 := [some (2, 4), some (0, 7), some (0, 1), none]) c_12_1 rfl rfl ?_
  refine n_iconst c_12_2 ?_
  refine n_istore_n (L2 := [some (2, 4), some (0, 7), some (0, 1), some (0, 0)]) c_12_3 rfl rfl ?_
  refine n_iload_n c_12_4 rfl ?_
  refine n_iload_n c_12_5 rfl ?_
  refine n_if2_ge c_12_6 (by omega) (by omega) ?_ ?_
  · intro h1
    exfalso; omega
  · intro h2
    refine n_iload_n c_12_9 rfl ?_
    refine n_aload_n c_12_10 rfl ?_
    refine n_getV (bi := 0) c_12_11 sc_4.n rfl rfl rfl (t_4_0 hS) ?_
    intro z3 ez3 f4
    obtain rfl : z3 = 3 := by omega
    refine n_imul c_12_14 rfl ?_
    refine n_istore_n (L2 := [some (2, 4), some (0, 7), some (0, (1 * 3)), some (0, 0)]) c_12_15 rfl rfl ?_
    refine n_iinc (L2 := [some (2, 4), some (0, 7), some (0, (1 * 3)), some (0, (0 + 1))]) c_12_16 rfl rfl rfl ?_
    refine n_goto c_12_19 ?_
    refine n_iload_n c_12_4 rfl ?_
    refine n_iload_n c_12_5 rfl ?_
    refine n_if2_ge c_12_6 (by omega) (by omega) ?_ ?_
    · intro h5
      exfalso; omega
    · intro h6
      refine n_iload_n c_12_9 rfl ?_
      refine n_aload_n c_12_10 rfl ?_
      refine n_getV (bi := 0) c_12_11 sc_4.n rfl rfl rfl (t_4_0 hS) ?_
      intro z7 ez7 f8
      obtain rfl : z7 = 3 := by omega
      refine n_imul c_12_14 rfl ?_
      refine n_istore_n (L2 := [some (2, 4), some (0, 7), some (0, ((1 * 3) * 3)), some (0, (0 + 1))]) c_12_15 rfl rfl ?_
      refine n_iinc (L2 := [some (2, 4), some (0, 7), some (0, ((1 * 3) * 3)), some (0, ((0 + 1) + 1))]) c_12_16 rfl rfl rfl ?_
      refine n_goto c_12_19 ?_
      refine n_iload_n c_12_4 rfl ?_
      refine n_iload_n c_12_5 rfl ?_
      refine n_if2_ge c_12_6 (by omega) (by omega) ?_ ?_
      · intro h9
        exfalso; omega
      · intro h10
        refine n_iload_n c_12_9 rfl ?_
        refine n_aload_n c_12_10 rfl ?_
        refine n_getV (bi := 0) c_12_11 sc_4.n rfl rfl rfl (t_4_0 hS) ?_
        intro z11 ez11 f12
        obtain rfl : z11 = 3 := by omega
        refine n_imul c_12_14 rfl ?_
        refine n_istore_n (L2 := [some (2, 4), some (0, 7), some (0, (((1 * 3) * 3) * 3)), some (0, ((0 + 1) + 1))]) c_12_15 rfl rfl ?_
        refine n_iinc (L2 := [some (2, 4), some (0, 7), some (0, (((1 * 3) * 3) * 3)), some (0, (((0 + 1) + 1) + 1))]) c_12_16 rfl rfl rfl ?_
        refine n_goto c_12_19 ?_
        refine n_iload_n c_12_4 rfl ?_
        refine n_iload_n c_12_5 rfl ?_
        refine n_if2_ge c_12_6 (by omega) (by omega) ?_ ?_
        · intro h13
          exfalso; omega
        · intro h14
          refine n_iload_n c_12_9 rfl ?_
          refine n_aload_n c_12_10 rfl ?_
          refine n_getV (bi := 0) c_12_11 sc_4.n rfl rfl rfl (t_4_0 hS) ?_
          intro z15 ez15 f16
          obtain rfl : z15 = 3 := by omega
          refine n_imul c_12_14 rfl ?_
          refine n_istore_n (L2 := [some (2, 4), some (0, 7), some (0, ((((1 * 3) * 3) * 3) * 3)), some (0, (((0 + 1) + 1) + 1))]) c_12_15 rfl rfl ?_
          refine n_iinc (L2 := [some (2, 4), some (0, 7), some (0, ((((1 * 3) * 3) * 3) * 3)), some (0, ((((0 + 1) + 1) + 1) + 1))]) c_12_16 rfl rfl rfl ?_
          refine n_goto c_12_19 ?_
          refine n_iload_n c_12_4 rfl ?_
          refine n_iload_n c_12_5 rfl ?_
          refine n_if2_ge c_12_6 (by omega) (by omega) ?_ ?_
          · intro h17
            exfalso; omega
          · intro h18
            refine n_iload_n c_12_9 rfl ?_
            refine n_aload_n c_12_10 rfl ?_
            refine n_getV (bi := 0) c_12_11 sc_4.n rfl rfl rfl (t_4_0 hS) ?_
            intro z19 ez19 f20
            obtain rfl : z19 = 3 := by omega
            refine n_imul c_12_14 rfl ?_
            refine n_istore_n (L2 := [some (2, 4), some (0, 7), some (0, (((((1 * 3) * 3) * 3) * 3) * 3)), some (0, ((((0 + 1) + 1) + 1) + 1))]) c_12_15 rfl rfl ?_
            refine n_iinc (L2 := [some (2, 4), some (0, 7), some (0, (((((1 * 3) * 3) * 3) * 3) * 3)), some (0, (((((0 + 1) + 1) + 1) + 1) + 1))]) c_12_16 rfl rfl rfl ?_
            refine n_goto c_12_19 ?_
            refine n_iload_n c_12_4 rfl ?_
            refine n_iload_n c_12_5 rfl ?_
            refine n_if2_ge c_12_6 (by omega) (by omega) ?_ ?_
            · intro h21
              exfalso; omega
            · intro h22
              refine n_iload_n c_12_9 rfl ?_
              refine n_aload_n c_12_10 rfl ?_
              refine n_getV (bi := 0) c_12_11 sc_4.n rfl rfl rfl (t_4_0 hS) ?_
              intro z23 ez23 f24
              obtain rfl : z23 = 3 := by omega
              refine n_imul c_12_14 rfl ?_
              refine n_istore_n (L2 := [some (2, 4), some (0, 7), some (0, ((((((1 * 3) * 3) * 3) * 3) * 3) * 3)), some (0, (((((0 + 1) + 1) + 1) + 1) + 1))]) c_12_15 rfl rfl ?_
              refine n_iinc (L2 := [some (2, 4), some (0, 7), some (0, ((((((1 * 3) * 3) * 3) * 3) * 3) * 3)), some (0, ((((((0 + 1) + 1) + 1) + 1) + 1) + 1))]) c_12_16 rfl rfl rfl ?_
              refine n_goto c_12_19 ?_
              refine n_iload_n c_12_4 rfl ?_
              refine n_iload_n c_12_5 rfl ?_
              refine n_if2_ge c_12_6 (by omega) (by omega) ?_ ?_
              · intro h25
                exfalso; omega
              · intro h26
                refine n_iload_n c_12_9 rfl ?_
                refine n_aload_n c_12_10 rfl ?_
                refine n_getV (bi := 0) c_12_11 sc_4.n rfl rfl rfl (t_4_0 hS) ?_
                intro z27 ez27 f28
                obtain rfl : z27 = 3 := by omega
                refine n_imul c_12_14 rfl ?_
                refine n_istore_n (L2 := [some (2, 4), some (0, 7), some (0, (((((((1 * 3) * 3) * 3) * 3) * 3) * 3) * 3)), some (0, ((((((0 + 1) + 1) + 1) + 1) + 1) + 1))]) c_12_15 rfl rfl ?_
                refine n_iinc (L2 := [some (2, 4), some (0, 7), some (0, (((((((1 * 3) * 3) * 3) * 3) * 3) * 3) * 3)), some (0, (((((((0 + 1) + 1) + 1) + 1) + 1) + 1) + 1))]) c_12_16 rfl rfl rfl ?_
                refine n_goto c_12_19 ?_
                refine n_iload_n c_12_4 rfl ?_
                refine n_iload_n c_12_5 rfl ?_
                refine n_if2_ge c_12_6 (by omega) (by omega) ?_ ?_
                · intro h29
                  refine n_iload_n c_12_22 rfl ?_
                  exact n_rI c_12_23 rfl ⟨rfl, by omega⟩
                · intro h30
                  exfalso; omega

set_option maxHeartbeats 4000000 in
theorem power8_3 {xs : List Int32} {e : Nat} {ac : Int} {M0 M : nM} (hS : Sf 3 ac M0 M)  : nW xs e 12 0 [some (2, 4), some (0, 8), none, none] [] M (nPI fun z M1 => M = M1 ∧ (6561 ≤ z ∧ z ≤ 6561)) := by
  have hd : (3 : Int) = 2 ∨ (3 : Int) = 3 := by decide
  have hac := hS.2.2.2.2
  refine n_iconst c_12_0 ?_
  refine n_istore_n (L2 := [some (2, 4), some (0, 8), some (0, 1), none]) c_12_1 rfl rfl ?_
  refine n_iconst c_12_2 ?_
  refine n_istore_n (L2 := [some (2, 4), some (0, 8), some (0, 1), some (0, 0)]) c_12_3 rfl rfl ?_
  refine n_iload_n c_12_4 rfl ?_
  refine n_iload_n c_12_5 rfl ?_
  refine n_if2_ge c_12_6 (by omega) (by omega) ?_ ?_
  · intro h1
    exfalso; omega
  · intro h2
    refine n_iload_n c_12_9 rfl ?_
    refine n_aload_n c_12_10 rfl ?_
    refine n_getV (bi := 0) c_12_11 sc_4.n rfl rfl rfl (t_4_0 hS) ?_
    intro z3 ez3 f4
    obtain rfl : z3 = 3 := by omega
    refine n_imul c_12_14 rfl ?_
    refine n_istore_n (L2 := [some (2, 4), some (0, 8), some (0, (1 * 3)), some (0, 0)]) c_12_15 rfl rfl ?_
    refine n_iinc (L2 := [some (2, 4), some (0, 8), some (0, (1 * 3)), some (0, (0 + 1))]) c_12_16 rfl rfl rfl ?_
    refine n_goto c_12_19 ?_
    refine n_iload_n c_12_4 rfl ?_
    refine n_iload_n c_12_5 rfl ?_
    refine n_if2_ge c_12_6 (by omega) (by omega) ?_ ?_
    · intro h5
      exfalso; omega
    · intro h6
      refine n_iload_n c_12_9 rfl ?_
      refine n_aload_n c_12_10 rfl ?_
      refine n_getV (bi := 0) c_12_11 sc_4.n rfl rfl rfl (t_4_0 hS) ?_
      intro z7 ez7 f8
      obtain rfl : z7 = 3 := by omega
      refine n_imul c_12_14 rfl ?_
      refine n_istore_n (L2 := [some (2, 4), some (0, 8), some (0, ((1 * 3) * 3)), some (0, (0 + 1))]) c_12_15 rfl rfl ?_
      refine n_iinc (L2 := [some (2, 4), some (0, 8), some (0, ((1 * 3) * 3)), some (0, ((0 + 1) + 1))]) c_12_16 rfl rfl rfl ?_
      refine n_goto c_12_19 ?_
      refine n_iload_n c_12_4 rfl ?_
      refine n_iload_n c_12_5 rfl ?_
      refine n_if2_ge c_12_6 (by omega) (by omega) ?_ ?_
      · intro h9
        exfalso; omega
      · intro h10
        refine n_iload_n c_12_9 rfl ?_
        refine n_aload_n c_12_10 rfl ?_
        refine n_getV (bi := 0) c_12_11 sc_4.n rfl rfl rfl (t_4_0 hS) ?_
        intro z11 ez11 f12
        obtain rfl : z11 = 3 := by omega
        refine n_imul c_12_14 rfl ?_
        refine n_istore_n (L2 := [some (2, 4), some (0, 8), some (0, (((1 * 3) * 3) * 3)), some (0, ((0 + 1) + 1))]) c_12_15 rfl rfl ?_
        refine n_iinc (L2 := [some (2, 4), some (0, 8), some (0, (((1 * 3) * 3) * 3)), some (0, (((0 + 1) + 1) + 1))]) c_12_16 rfl rfl rfl ?_
        refine n_goto c_12_19 ?_
        refine n_iload_n c_12_4 rfl ?_
        refine n_iload_n c_12_5 rfl ?_
        refine n_if2_ge c_12_6 (by omega) (by omega) ?_ ?_
        · intro h13
          exfalso; omega
        · intro h14
          refine n_iload_n c_12_9 rfl ?_
          refine n_aload_n c_12_10 rfl ?_
          refine n_getV (bi := 0) c_12_11 sc_4.n rfl rfl rfl (t_4_0 hS) ?_
          intro z15 ez15 f16
          obtain rfl : z15 = 3 := by omega
          refine n_imul c_12_14 rfl ?_
          refine n_istore_n (L2 := [some (2, 4), some (0, 8), some (0, ((((1 * 3) * 3) * 3) * 3)), some (0, (((0 + 1) + 1) + 1))]) c_12_15 rfl rfl ?_
          refine n_iinc (L2 := [some (2, 4), some (0, 8), some (0, ((((1 * 3) * 3) * 3) * 3)), some (0, ((((0 + 1) + 1) + 1) + 1))]) c_12_16 rfl rfl rfl ?_
          refine n_goto c_12_19 ?_
          refine n_iload_n c_12_4 rfl ?_
          refine n_iload_n c_12_5 rfl ?_
          refine n_if2_ge c_12_6 (by omega) (by omega) ?_ ?_
          · intro h17
            exfalso; omega
          · intro h18
            refine n_iload_n c_12_9 rfl ?_
            refine n_aload_n c_12_10 rfl ?_
            refine n_getV (bi := 0) c_12_11 sc_4.n rfl rfl rfl (t_4_0 hS) ?_
            intro z19 ez19 f20
            obtain rfl : z19 = 3 := by omega
            refine n_imul c_12_14 rfl ?_
            refine n_istore_n (L2 := [some (2, 4), some (0, 8), some (0, (((((1 * 3) * 3) * 3) * 3) * 3)), some (0, ((((0 + 1) + 1) + 1) + 1))]) c_12_15 rfl rfl ?_
            refine n_iinc (L2 := [some (2, 4), some (0, 8), some (0, (((((1 * 3) * 3) * 3) * 3) * 3)), some (0, (((((0 + 1) + 1) + 1) + 1) + 1))]) c_12_16 rfl rfl rfl ?_
            refine n_goto c_12_19 ?_
            refine n_iload_n c_12_4 rfl ?_
            refine n_iload_n c_12_5 rfl ?_
            refine n_if2_ge c_12_6 (by omega) (by omega) ?_ ?_
            · intro h21
              exfalso; omega
            · intro h22
              refine n_iload_n c_12_9 rfl ?_
              refine n_aload_n c_12_10 rfl ?_
              refine n_getV (bi := 0) c_12_11 sc_4.n rfl rfl rfl (t_4_0 hS) ?_
              intro z23 ez23 f24
              obtain rfl : z23 = 3 := by omega
              refine n_imul c_12_14 rfl ?_
              refine n_istore_n (L2 := [some (2, 4), some (0, 8), some (0, ((((((1 * 3) * 3) * 3) * 3) * 3) * 3)), some (0, (((((0 + 1) + 1) + 1) + 1) + 1))]) c_12_15 rfl rfl ?_
              refine n_iinc (L2 := [some (2, 4), some (0, 8), some (0, ((((((1 * 3) * 3) * 3) * 3) * 3) * 3)), some (0, ((((((0 + 1) + 1) + 1) + 1) + 1) + 1))]) c_12_16 rfl rfl rfl ?_
              refine n_goto c_12_19 ?_
              refine n_iload_n c_12_4 rfl ?_
              refine n_iload_n c_12_5 rfl ?_
              refine n_if2_ge c_12_6 (by omega) (by omega) ?_ ?_
              · intro h25
                exfalso; omega
              · intro h26
                refine n_iload_n c_12_9 rfl ?_
                refine n_aload_n c_12_10 rfl ?_
                refine n_getV (bi := 0) c_12_11 sc_4.n rfl rfl rfl (t_4_0 hS) ?_
                intro z27 ez27 f28
                obtain rfl : z27 = 3 := by omega
                refine n_imul c_12_14 rfl ?_
                refine n_istore_n (L2 := [some (2, 4), some (0, 8), some (0, (((((((1 * 3) * 3) * 3) * 3) * 3) * 3) * 3)), some (0, ((((((0 + 1) + 1) + 1) + 1) + 1) + 1))]) c_12_15 rfl rfl ?_
                refine n_iinc (L2 := [some (2, 4), some (0, 8), some (0, (((((((1 * 3) * 3) * 3) * 3) * 3) * 3) * 3)), some (0, (((((((0 + 1) + 1) + 1) + 1) + 1) + 1) + 1))]) c_12_16 rfl rfl rfl ?_
                refine n_goto c_12_19 ?_
                refine n_iload_n c_12_4 rfl ?_
                refine n_iload_n c_12_5 rfl ?_
                refine n_if2_ge c_12_6 (by omega) (by omega) ?_ ?_
                · intro h29
                  exfalso; omega
                · intro h30
                  refine n_iload_n c_12_9 rfl ?_
                  refine n_aload_n c_12_10 rfl ?_
                  refine n_getV (bi := 0) c_12_11 sc_4.n rfl rfl rfl (t_4_0 hS) ?_
                  intro z31 ez31 f32
                  obtain rfl : z31 = 3 := by omega
                  refine n_imul c_12_14 rfl ?_
                  refine n_istore_n (L2 := [some (2, 4), some (0, 8), some (0, ((((((((1 * 3) * 3) * 3) * 3) * 3) * 3) * 3) * 3)), some (0, (((((((0 + 1) + 1) + 1) + 1) + 1) + 1) + 1))]) c_12_15 rfl rfl ?_
                  refine n_iinc (L2 := [some (2, 4), some (0, 8), some (0, ((((((((1 * 3) * 3) * 3) * 3) * 3) * 3) * 3) * 3)), some (0, ((((((((0 + 1) + 1) + 1) + 1) + 1) + 1) + 1) + 1))]) c_12_16 rfl rfl rfl ?_
                  refine n_goto c_12_19 ?_
                  refine n_iload_n c_12_4 rfl ?_
                  refine n_iload_n c_12_5 rfl ?_
                  refine n_if2_ge c_12_6 (by omega) (by omega) ?_ ?_
                  · intro h33
                    refine n_iload_n c_12_22 rfl ?_
                    exact n_rI c_12_23 rfl ⟨rfl, by omega⟩
                  · intro h34
                    exfalso; omega

set_option maxHeartbeats 4000000 in
theorem power9_3 {xs : List Int32} {e : Nat} {ac : Int} {M0 M : nM} (hS : Sf 3 ac M0 M)  : nW xs e 12 0 [some (2, 4), some (0, 9), none, none] [] M (nPI fun z M1 => M = M1 ∧ (19683 ≤ z ∧ z ≤ 19683)) := by
  have hd : (3 : Int) = 2 ∨ (3 : Int) = 3 := by decide
  have hac := hS.2.2.2.2
  refine n_iconst c_12_0 ?_
  refine n_istore_n (L2 := [some (2, 4), some (0, 9), some (0, 1), none]) c_12_1 rfl rfl ?_
  refine n_iconst c_12_2 ?_
  refine n_istore_n (L2 := [some (2, 4), some (0, 9), some (0, 1), some (0, 0)]) c_12_3 rfl rfl ?_
  refine n_iload_n c_12_4 rfl ?_
  refine n_iload_n c_12_5 rfl ?_
  refine n_if2_ge c_12_6 (by omega) (by omega) ?_ ?_
  · intro h1
    exfalso; omega
  · intro h2
    refine n_iload_n c_12_9 rfl ?_
    refine n_aload_n c_12_10 rfl ?_
    refine n_getV (bi := 0) c_12_11 sc_4.n rfl rfl rfl (t_4_0 hS) ?_
    intro z3 ez3 f4
    obtain rfl : z3 = 3 := by omega
    refine n_imul c_12_14 rfl ?_
    refine n_istore_n (L2 := [some (2, 4), some (0, 9), some (0, (1 * 3)), some (0, 0)]) c_12_15 rfl rfl ?_
    refine n_iinc (L2 := [some (2, 4), some (0, 9), some (0, (1 * 3)), some (0, (0 + 1))]) c_12_16 rfl rfl rfl ?_
    refine n_goto c_12_19 ?_
    refine n_iload_n c_12_4 rfl ?_
    refine n_iload_n c_12_5 rfl ?_
    refine n_if2_ge c_12_6 (by omega) (by omega) ?_ ?_
    · intro h5
      exfalso; omega
    · intro h6
      refine n_iload_n c_12_9 rfl ?_
      refine n_aload_n c_12_10 rfl ?_
      refine n_getV (bi := 0) c_12_11 sc_4.n rfl rfl rfl (t_4_0 hS) ?_
      intro z7 ez7 f8
      obtain rfl : z7 = 3 := by omega
      refine n_imul c_12_14 rfl ?_
      refine n_istore_n (L2 := [some (2, 4), some (0, 9), some (0, ((1 * 3) * 3)), some (0, (0 + 1))]) c_12_15 rfl rfl ?_
      refine n_iinc (L2 := [some (2, 4), some (0, 9), some (0, ((1 * 3) * 3)), some (0, ((0 + 1) + 1))]) c_12_16 rfl rfl rfl ?_
      refine n_goto c_12_19 ?_
      refine n_iload_n c_12_4 rfl ?_
      refine n_iload_n c_12_5 rfl ?_
      refine n_if2_ge c_12_6 (by omega) (by omega) ?_ ?_
      · intro h9
        exfalso; omega
      · intro h10
        refine n_iload_n c_12_9 rfl ?_
        refine n_aload_n c_12_10 rfl ?_
        refine n_getV (bi := 0) c_12_11 sc_4.n rfl rfl rfl (t_4_0 hS) ?_
        intro z11 ez11 f12
        obtain rfl : z11 = 3 := by omega
        refine n_imul c_12_14 rfl ?_
        refine n_istore_n (L2 := [some (2, 4), some (0, 9), some (0, (((1 * 3) * 3) * 3)), some (0, ((0 + 1) + 1))]) c_12_15 rfl rfl ?_
        refine n_iinc (L2 := [some (2, 4), some (0, 9), some (0, (((1 * 3) * 3) * 3)), some (0, (((0 + 1) + 1) + 1))]) c_12_16 rfl rfl rfl ?_
        refine n_goto c_12_19 ?_
        refine n_iload_n c_12_4 rfl ?_
        refine n_iload_n c_12_5 rfl ?_
        refine n_if2_ge c_12_6 (by omega) (by omega) ?_ ?_
        · intro h13
          exfalso; omega
        · intro h14
          refine n_iload_n c_12_9 rfl ?_
          refine n_aload_n c_12_10 rfl ?_
          refine n_getV (bi := 0) c_12_11 sc_4.n rfl rfl rfl (t_4_0 hS) ?_
          intro z15 ez15 f16
          obtain rfl : z15 = 3 := by omega
          refine n_imul c_12_14 rfl ?_
          refine n_istore_n (L2 := [some (2, 4), some (0, 9), some (0, ((((1 * 3) * 3) * 3) * 3)), some (0, (((0 + 1) + 1) + 1))]) c_12_15 rfl rfl ?_
          refine n_iinc (L2 := [some (2, 4), some (0, 9), some (0, ((((1 * 3) * 3) * 3) * 3)), some (0, ((((0 + 1) + 1) + 1) + 1))]) c_12_16 rfl rfl rfl ?_
          refine n_goto c_12_19 ?_
          refine n_iload_n c_12_4 rfl ?_
          refine n_iload_n c_12_5 rfl ?_
          refine n_if2_ge c_12_6 (by omega) (by omega) ?_ ?_
          · intro h17
            exfalso; omega
          · intro h18
            refine n_iload_n c_12_9 rfl ?_
            refine n_aload_n c_12_10 rfl ?_
            refine n_getV (bi := 0) c_12_11 sc_4.n rfl rfl rfl (t_4_0 hS) ?_
            intro z19 ez19 f20
            obtain rfl : z19 = 3 := by omega
            refine n_imul c_12_14 rfl ?_
            refine n_istore_n (L2 := [some (2, 4), some (0, 9), some (0, (((((1 * 3) * 3) * 3) * 3) * 3)), some (0, ((((0 + 1) + 1) + 1) + 1))]) c_12_15 rfl rfl ?_
            refine n_iinc (L2 := [some (2, 4), some (0, 9), some (0, (((((1 * 3) * 3) * 3) * 3) * 3)), some (0, (((((0 + 1) + 1) + 1) + 1) + 1))]) c_12_16 rfl rfl rfl ?_
            refine n_goto c_12_19 ?_
            refine n_iload_n c_12_4 rfl ?_
            refine n_iload_n c_12_5 rfl ?_
            refine n_if2_ge c_12_6 (by omega) (by omega) ?_ ?_
            · intro h21
              exfalso; omega
            · intro h22
              refine n_iload_n c_12_9 rfl ?_
              refine n_aload_n c_12_10 rfl ?_
              refine n_getV (bi := 0) c_12_11 sc_4.n rfl rfl rfl (t_4_0 hS) ?_
              intro z23 ez23 f24
              obtain rfl : z23 = 3 := by omega
              refine n_imul c_12_14 rfl ?_
              refine n_istore_n (L2 := [some (2, 4), some (0, 9), some (0, ((((((1 * 3) * 3) * 3) * 3) * 3) * 3)), some (0, (((((0 + 1) + 1) + 1) + 1) + 1))]) c_12_15 rfl rfl ?_
              refine n_iinc (L2 := [some (2, 4), some (0, 9), some (0, ((((((1 * 3) * 3) * 3) * 3) * 3) * 3)), some (0, ((((((0 + 1) + 1) + 1) + 1) + 1) + 1))]) c_12_16 rfl rfl rfl ?_
              refine n_goto c_12_19 ?_
              refine n_iload_n c_12_4 rfl ?_
              refine n_iload_n c_12_5 rfl ?_
              refine n_if2_ge c_12_6 (by omega) (by omega) ?_ ?_
              · intro h25
                exfalso; omega
              · intro h26
                refine n_iload_n c_12_9 rfl ?_
                refine n_aload_n c_12_10 rfl ?_
                refine n_getV (bi := 0) c_12_11 sc_4.n rfl rfl rfl (t_4_0 hS) ?_
                intro z27 ez27 f28
                obtain rfl : z27 = 3 := by omega
                refine n_imul c_12_14 rfl ?_
                refine n_istore_n (L2 := [some (2, 4), some (0, 9), some (0, (((((((1 * 3) * 3) * 3) * 3) * 3) * 3) * 3)), some (0, ((((((0 + 1) + 1) + 1) + 1) + 1) + 1))]) c_12_15 rfl rfl ?_
                refine n_iinc (L2 := [some (2, 4), some (0, 9), some (0, (((((((1 * 3) * 3) * 3) * 3) * 3) * 3) * 3)), some (0, (((((((0 + 1) + 1) + 1) + 1) + 1) + 1) + 1))]) c_12_16 rfl rfl rfl ?_
                refine n_goto c_12_19 ?_
                refine n_iload_n c_12_4 rfl ?_
                refine n_iload_n c_12_5 rfl ?_
                refine n_if2_ge c_12_6 (by omega) (by omega) ?_ ?_
                · intro h29
                  exfalso; omega
                · intro h30
                  refine n_iload_n c_12_9 rfl ?_
                  refine n_aload_n c_12_10 rfl ?_
                  refine n_getV (bi := 0) c_12_11 sc_4.n rfl rfl rfl (t_4_0 hS) ?_
                  intro z31 ez31 f32
                  obtain rfl : z31 = 3 := by omega
                  refine n_imul c_12_14 rfl ?_
                  refine n_istore_n (L2 := [some (2, 4), some (0, 9), some (0, ((((((((1 * 3) * 3) * 3) * 3) * 3) * 3) * 3) * 3)), some (0, (((((((0 + 1) + 1) + 1) + 1) + 1) + 1) + 1))]) c_12_15 rfl rfl ?_
                  refine n_iinc (L2 := [some (2, 4), some (0, 9), some (0, ((((((((1 * 3) * 3) * 3) * 3) * 3) * 3) * 3) * 3)), some (0, ((((((((0 + 1) + 1) + 1) + 1) + 1) + 1) + 1) + 1))]) c_12_16 rfl rfl rfl ?_
                  refine n_goto c_12_19 ?_
                  refine n_iload_n c_12_4 rfl ?_
                  refine n_iload_n c_12_5 rfl ?_
                  refine n_if2_ge c_12_6 (by omega) (by omega) ?_ ?_
                  · intro h33
                    exfalso; omega
                  · intro h34
                    refine n_iload_n c_12_9 rfl ?_
                    refine n_aload_n c_12_10 rfl ?_
                    refine n_getV (bi := 0) c_12_11 sc_4.n rfl rfl rfl (t_4_0 hS) ?_
                    intro z35 ez35 f36
                    obtain rfl : z35 = 3 := by omega
                    refine n_imul c_12_14 rfl ?_
                    refine n_istore_n (L2 := [some (2, 4), some (0, 9), some (0, (((((((((1 * 3) * 3) * 3) * 3) * 3) * 3) * 3) * 3) * 3)), some (0, ((((((((0 + 1) + 1) + 1) + 1) + 1) + 1) + 1) + 1))]) c_12_15 rfl rfl ?_
                    refine n_iinc (L2 := [some (2, 4), some (0, 9), some (0, (((((((((1 * 3) * 3) * 3) * 3) * 3) * 3) * 3) * 3) * 3)), some (0, (((((((((0 + 1) + 1) + 1) + 1) + 1) + 1) + 1) + 1) + 1))]) c_12_16 rfl rfl rfl ?_
                    refine n_goto c_12_19 ?_
                    refine n_iload_n c_12_4 rfl ?_
                    refine n_iload_n c_12_5 rfl ?_
                    refine n_if2_ge c_12_6 (by omega) (by omega) ?_ ?_
                    · intro h37
                      refine n_iload_n c_12_22 rfl ?_
                      exact n_rI c_12_23 rfl ⟨rfl, by omega⟩
                    · intro h38
                      exfalso; omega

set_option maxHeartbeats 4000000 in
theorem powerU_3 {xs : List Int32} {e : Nat} {ac : Int} {M0 M : nM} {n : Int} (hS : Sf 3 ac M0 M) (hn : 0 ≤ n ∧ n ≤ 3) : nW xs e 12 0 [some (2, 4), some (0, n), none, none] [] M (nPI fun z M1 => M = M1 ∧ (1 ≤ z ∧ z ≤ 27)) := by
  rcases (show n = 0 ∨ n = 1 ∨ n = 2 ∨ n = 3 by omega) with rfl | rfl | rfl | rfl
  · exact n_post (power0_3 hS ) (fun w M1 h => by obtain ⟨z, rfl, h1, h2⟩ := h; exact ⟨z, rfl, h1, by omega⟩)
  · exact n_post (power1_3 hS ) (fun w M1 h => by obtain ⟨z, rfl, h1, h2⟩ := h; exact ⟨z, rfl, h1, by omega⟩)
  · exact n_post (power2_3 hS ) (fun w M1 h => by obtain ⟨z, rfl, h1, h2⟩ := h; exact ⟨z, rfl, h1, by omega⟩)
  · exact n_post (power3_3 hS ) (fun w M1 h => by obtain ⟨z, rfl, h1, h2⟩ := h; exact ⟨z, rfl, h1, by omega⟩)

set_option maxHeartbeats 4000000 in
theorem isMadeOf_3_c {xs : List Int32} {e : Nat} {ac : Int} {M0 M : nM} {n : Int} (hS : Sf 3 ac M0 M) (hn : -2147483648 ≤ n ∧ n ≤ 2147483647) : ∀ nn : Nat, (1 < (nn : Int) → nW xs e 13 26 [none, none] [] M (nPI fun z M1 => M = M1 ∧ (0 ≤ z ∧ z ≤ 1) ∧ (z = 0 ∨ (1 ≤ n ∧ n ≤ 2)))) := by
  have hd : (3 : Int) = 2 ∨ (3 : Int) = 3 := by decide
  have hac := hS.2.2.2.2
  intro nn
  induction nn with
  | zero => intros; omega
  | succ nn ih =>
    intro hnn
    refine n_iconst c_13_26 ?_
    exact n_rZ c_13_27 rfl (by omega) ⟨rfl, by omega, by omega⟩
set_option maxHeartbeats 4000000 in
theorem isMadeOf_3 {xs : List Int32} {e : Nat} {ac : Int} {M0 M : nM} {n : Int} (hS : Sf 3 ac M0 M) (hn : -2147483648 ≤ n ∧ n ≤ 2147483647) : nW xs e 13 0 [some (2, 4), some (0, n)] [] M (nPI fun z M1 => M = M1 ∧ (0 ≤ z ∧ z ≤ 1) ∧ (z = 0 ∨ (1 ≤ n ∧ n ≤ 2))) := by
  have hd : (3 : Int) = 2 ∨ (3 : Int) = 3 := by decide
  have hac := hS.2.2.2.2
  refine n_iload_n c_13_0 rfl ?_
  refine n_iconst c_13_1 ?_
  refine n_if2_lt c_13_2 (by omega) (by omega) ?_ ?_
  · intro h1
    refine n_fg (le_n (le_n le_0)) ?_
    exact (isMadeOf_3_c hS hn 12)   (by omega)
  · intro h2
    refine n_iload_n c_13_5 rfl ?_
    refine n_aload_n c_13_6 rfl ?_
    refine n_getV (bi := 0) c_13_7 sc_4.n rfl rfl rfl (t_4_0 hS) ?_
    intro z3 ez3 f4
    obtain rfl : z3 = 3 := by omega
    refine n_iconst c_13_10 ?_
    refine n_if2_ne c_13_11 (by omega) (by omega) ?_ ?_
    · intro h5
      refine n_iconst c_13_18 ?_
      refine n_if2_gt c_13_19 (by omega) (by omega) ?_ ?_
      · intro h6
        refine n_fg (le_n (le_n le_0)) ?_
        exact (isMadeOf_3_c hS hn 12)   (by omega)
      · intro h7
        refine n_iconst c_13_22 ?_
        refine n_goto c_13_23 ?_
        exact n_rZ c_13_27 rfl (by omega) ⟨rfl, by omega, by omega⟩
    · intro h8
      exfalso; omega

set_option maxHeartbeats 4000000 in
theorem codes1_3 {xs : List Int32} {e : Nat} {ac : Int} {M0 M : nM} (hS : Sf 3 ac M0 M)  : nW xs (e + 1) 14 0 [some (2, 4), some (0, 1)] [] M (nPI fun z M1 => M = M1 ∧ (27 ≤ z ∧ z ≤ 27)) := by
  have hd : (3 : Int) = 2 ∨ (3 : Int) = 3 := by decide
  have hac := hS.2.2.2.2
  refine n_aload_n c_14_0 rfl ?_
  refine n_aload_n c_14_1 rfl ?_
  refine n_iload_n c_14_2 rfl ?_
  refine n_v1I c_14_3 rfl sc_4.n rfl rfl rfl rfl (power1_3  hS ) ?_
  intro z1 M2 hP3
  obtain ⟨eM, f3⟩ := hP3
  subst eM
  obtain rfl : z1 = 3 := by omega
  refine n_v1I c_14_6 rfl sc_4.n rfl rfl rfl rfl (power3_3  hS ) ?_
  intro z4 M5 hP6
  obtain ⟨eM, f6⟩ := hP6
  subst eM
  obtain rfl : z4 = 27 := by omega
  exact n_rI c_14_9 rfl ⟨rfl, by omega⟩

set_option maxHeartbeats 4000000 in
theorem codes2_3 {xs : List Int32} {e : Nat} {ac : Int} {M0 M : nM} (hS : Sf 3 ac M0 M)  : nW xs (e + 1) 14 0 [some (2, 4), some (0, 2)] [] M (nPI fun z M1 => M = M1 ∧ (19683 ≤ z ∧ z ≤ 19683)) := by
  have hd : (3 : Int) = 2 ∨ (3 : Int) = 3 := by decide
  have hac := hS.2.2.2.2
  refine n_aload_n c_14_0 rfl ?_
  refine n_aload_n c_14_1 rfl ?_
  refine n_iload_n c_14_2 rfl ?_
  refine n_v1I c_14_3 rfl sc_4.n rfl rfl rfl rfl (power2_3  hS ) ?_
  intro z1 M2 hP3
  obtain ⟨eM, f3⟩ := hP3
  subst eM
  obtain rfl : z1 = 9 := by omega
  refine n_v1I c_14_6 rfl sc_4.n rfl rfl rfl rfl (power9_3  hS ) ?_
  intro z4 M5 hP6
  obtain ⟨eM, f6⟩ := hP6
  subst eM
  obtain rfl : z4 = 19683 := by omega
  exact n_rI c_14_9 rfl ⟨rfl, by omega⟩

set_option maxHeartbeats 4000000 in
theorem allThings_3 {xs : List Int32} {e : Nat} {ac : Int} {M0 M : nM} (hS : Sf 3 ac M0 M)  : nW xs e 15 0 [some (2, 4)] [] M (nPI fun z M1 => M = M1 ∧ (7 ≤ z ∧ z ≤ 7)) := by
  have hd : (3 : Int) = 2 ∨ (3 : Int) = 3 := by decide
  have hac := hS.2.2.2.2
  refine n_iconst c_15_0 ?_
  refine n_aload_n c_15_1 rfl ?_
  refine n_getV (bi := 0) c_15_2 sc_4.n rfl rfl rfl (t_4_0 hS) ?_
  intro z1 ez1 f2
  obtain rfl : z1 = 3 := by omega
  refine n_i_ishl (z := 8) c_15_5 (by decide) ?_
  refine n_iconst c_15_6 ?_
  refine n_isub c_15_7 rfl ?_
  exact n_rI c_15_8 rfl ⟨rfl, by omega⟩

set_option maxHeartbeats 4000000 in
theorem thingsOf_3_c {xs : List Int32} {e : Nat} {ac : Int} {M0 M : nM} {r p : Int} (hS : Sf 3 ac M0 M) (hr : 0 ≤ r ∧ r ≤ 26) (hp : 0 ≤ p ∧ p ≤ 3) : ∀ nn : Nat, (∀ (x3 : Int), (0 ≤ x3 ∧ x3 ≤ 7) → 2 < (nn : Int) → nW xs e 16 25 [some (2, 4), some (0, r), some (0, p), some (0, x3)] [] M (nPI fun z M1 => M = M1 ∧ (-2147483648 ≤ z ∧ z ≤ 2147483647))) ∧ (∀ (x3 : Int), (0 ≤ x3 ∧ x3 ≤ 7) → 1 < (nn : Int) → nW xs e 16 41 [none, none, none, some (0, x3)] [] M (nPI fun z M1 => M = M1 ∧ (-2147483648 ≤ z ∧ z ≤ 2147483647))) := by
  have hd : (3 : Int) = 2 ∨ (3 : Int) = 3 := by decide
  have hac := hS.2.2.2.2
  intro nn
  induction nn with
  | zero => refine ⟨?_, ?_⟩ <;> (intros; omega)
  | succ nn ih =>
    refine ⟨?_, ?_⟩
    · intro x3 k3 hnn
      refine n_iload_n c_16_25 rfl ?_
      refine n_iconst c_16_26 ?_
      refine n_if2_le c_16_27 (by omega) (by omega) ?_ ?_
      · intro h1
        refine n_fg (le_n (le_n (le_n (le_s le_0)))) ?_
        exact ih.2 _ (by omega) (by omega)
      · intro h2
        refine n_iload_n c_16_30 rfl ?_
        refine n_iconst c_16_31 ?_
        refine n_aload_n c_16_32 rfl ?_
        refine n_getR c_16_33 sc_4.n rfl rfl rfl r_4_2 ?_
        refine n_iload_n c_16_36 rfl ?_
        refine n_ialoadV c_16_37 sc_5.n rfl rfl rfl (by omega) (t_5d hS hd (by omega) (by omega)) ?_
        intro z3 ez3 f4
        refine n_i_ishl c_16_38 rfl ?_
        have f5 := n_shl_1 (y := z3) (a := 0) (b := 2) (by decide) (by omega)
        generalize (n_shl 1 z3) = z6 at f5 ⊢
        refine n_i_ior c_16_39 rfl ?_
        have f7 := n_or_k (x := x3) (y := z6) (n := 3) (by decide) (by omega) (by omega)
        generalize (n_or x3 z6) = z8 at f7 ⊢
        refine n_istore_n (L2 := [some (2, 4), some (0, r), some (0, p), some (0, z8)]) c_16_40 rfl rfl ?_
        refine n_fg (le_n (le_n (le_n (le_s le_0)))) ?_
        exact ih.2 _ (by omega) (by omega)
    · intro x3 k3 hnn
      refine n_iload_n c_16_41 rfl ?_
      exact n_rI c_16_42 rfl ⟨rfl, by omega⟩
set_option maxHeartbeats 4000000 in
theorem thingsOf_3 {xs : List Int32} {e : Nat} {ac : Int} {M0 M : nM} {r p : Int} (hS : Sf 3 ac M0 M) (hr : 0 ≤ r ∧ r ≤ 26) (hp : 0 ≤ p ∧ p ≤ 3) : nW xs e 16 0 [some (2, 4), some (0, r), some (0, p), none] [] M (nPI fun z M1 => M = M1 ∧ (-2147483648 ≤ z ∧ z ≤ 2147483647)) := by
  have hd : (3 : Int) = 2 ∨ (3 : Int) = 3 := by decide
  have hac := hS.2.2.2.2
  refine n_iconst c_16_0 ?_
  refine n_aload_n c_16_1 rfl ?_
  refine n_getR c_16_2 sc_4.n rfl rfl rfl r_4_4 ?_
  refine n_iload_n c_16_5 rfl ?_
  refine n_ialoadV c_16_6 sc_7.n rfl rfl rfl (by omega) (t_7d hS hd (by omega) (by omega)) ?_
  intro z1 ez1 f2
  refine n_i_ishl c_16_7 rfl ?_
  have f3 := n_shl_1 (y := z1) (a := 0) (b := 2) (by decide) (by omega)
  generalize (n_shl 1 z1) = z4 at f3 ⊢
  refine n_istore_n (L2 := [some (2, 4), some (0, r), some (0, p), some (0, z4)]) c_16_8 rfl rfl ?_
  refine n_iload_n c_16_9 rfl ?_
  refine n_iconst c_16_10 ?_
  refine n_if2_le c_16_11 (by omega) (by omega) ?_ ?_
  · intro h5
    refine n_fg (le_s (le_s (le_s (le_s le_0)))) ?_
    exact (thingsOf_3_c hS hr hp 14).1 _ (by omega) (by omega)
  · intro h6
    refine n_iload_n c_16_14 rfl ?_
    refine n_iconst c_16_15 ?_
    refine n_aload_n c_16_16 rfl ?_
    refine n_getR c_16_17 sc_4.n rfl rfl rfl r_4_3 ?_
    refine n_iload_n c_16_20 rfl ?_
    refine n_ialoadV c_16_21 sc_6.n rfl rfl rfl (by omega) (t_6d hS hd (by omega) (by omega)) ?_
    intro z7 ez7 f8
    refine n_i_ishl c_16_22 rfl ?_
    have f9 := n_shl_1 (y := z7) (a := 0) (b := 2) (by decide) (by omega)
    generalize (n_shl 1 z7) = z10 at f9 ⊢
    refine n_i_ior c_16_23 rfl ?_
    have f11 := n_or_k (x := z4) (y := z10) (n := 3) (by decide) (by omega) (by omega)
    generalize (n_or z4 z10) = z12 at f11 ⊢
    refine n_istore_n (L2 := [some (2, 4), some (0, r), some (0, p), some (0, z12)]) c_16_24 rfl rfl ?_
    refine n_fg (le_s (le_s (le_s (le_s le_0)))) ?_
    exact (thingsOf_3_c hS hr hp 14).1 _ (by omega) (by omega)

set_option maxHeartbeats 4000000 in
theorem widen0_3 {xs : List Int32} {e : Nat} {ac : Int} {M0 M : nM} {n : Int} (hS : Sf 3 ac M0 M) (hn : 0 ≤ n ∧ n ≤ 0) : nW xs e 17 0 [some (2, 4), some (0, n), some (0, 0), none, none] [] M (nPI fun z M1 => M = M1 ∧ (0 ≤ z ∧ z ≤ 26)) := by
  have hd : (3 : Int) = 2 ∨ (3 : Int) = 3 := by decide
  have hac := hS.2.2.2.2
  refine n_iload_n c_17_0 rfl ?_
  refine n_istore_n (L2 := [some (2, 4), some (0, n), some (0, 0), some (0, n), none]) c_17_1 rfl rfl ?_
  refine n_iload_n c_17_2 rfl ?_
  refine n_istore (L2 := [some (2, 4), some (0, n), some (0, 0), some (0, n), some (0, 0)]) c_17_3 rfl rfl ?_
  refine n_iload c_17_5 rfl ?_
  refine n_iconst c_17_7 ?_
  refine n_if2_ge c_17_8 (by omega) (by omega) ?_ ?_
  · intro h1
    exfalso; omega
  · intro h2
    refine n_iload_n c_17_11 rfl ?_
    refine n_aload_n c_17_12 rfl ?_
    refine n_getV (bi := 0) c_17_13 sc_4.n rfl rfl rfl (t_4_0 hS) ?_
    intro z3 ez3 f4
    obtain rfl : z3 = 3 := by omega
    refine n_imul c_17_16 rfl ?_
    refine n_aload_n c_17_17 rfl ?_
    refine n_getR c_17_18 sc_4.n rfl rfl rfl r_4_4 ?_
    refine n_iload_n c_17_21 rfl ?_
    refine n_ialoadV c_17_22 sc_7.n rfl rfl rfl (by omega) (t_7k (z := 0) hS (by omega) (by omega) (by omega)) ?_
    intro z5 ez5 f6
    refine n_iadd c_17_23 rfl ?_
    refine n_istore_n (L2 := [some (2, 4), some (0, n), some (0, 0), some (0, ((n * 3) + z5)), some (0, 0)]) c_17_24 rfl rfl ?_
    refine n_iinc (L2 := [some (2, 4), some (0, n), some (0, 0), some (0, ((n * 3) + z5)), some (0, (0 + 1))]) c_17_25 rfl rfl rfl ?_
    refine n_goto c_17_28 ?_
    refine n_iload c_17_5 rfl ?_
    refine n_iconst c_17_7 ?_
    refine n_if2_ge c_17_8 (by omega) (by omega) ?_ ?_
    · intro h7
      exfalso; omega
    · intro h8
      refine n_iload_n c_17_11 rfl ?_
      refine n_aload_n c_17_12 rfl ?_
      refine n_getV (bi := 0) c_17_13 sc_4.n rfl rfl rfl (t_4_0 hS) ?_
      intro z9 ez9 f10
      obtain rfl : z9 = 3 := by omega
      refine n_imul c_17_16 rfl ?_
      refine n_aload_n c_17_17 rfl ?_
      refine n_getR c_17_18 sc_4.n rfl rfl rfl r_4_4 ?_
      refine n_iload_n c_17_21 rfl ?_
      refine n_ialoadV c_17_22 sc_7.n rfl rfl rfl (by omega) (t_7k (z := 0) hS (by omega) (by omega) (by omega)) ?_
      intro z11 ez11 f12
      refine n_iadd c_17_23 rfl ?_
      refine n_istore_n (L2 := [some (2, 4), some (0, n), some (0, 0), some (0, ((((n * 3) + z5) * 3) + z11)), some (0, (0 + 1))]) c_17_24 rfl rfl ?_
      refine n_iinc (L2 := [some (2, 4), some (0, n), some (0, 0), some (0, ((((n * 3) + z5) * 3) + z11)), some (0, ((0 + 1) + 1))]) c_17_25 rfl rfl rfl ?_
      refine n_goto c_17_28 ?_
      refine n_iload c_17_5 rfl ?_
      refine n_iconst c_17_7 ?_
      refine n_if2_ge c_17_8 (by omega) (by omega) ?_ ?_
      · intro h13
        exfalso; omega
      · intro h14
        refine n_iload_n c_17_11 rfl ?_
        refine n_aload_n c_17_12 rfl ?_
        refine n_getV (bi := 0) c_17_13 sc_4.n rfl rfl rfl (t_4_0 hS) ?_
        intro z15 ez15 f16
        obtain rfl : z15 = 3 := by omega
        refine n_imul c_17_16 rfl ?_
        refine n_aload_n c_17_17 rfl ?_
        refine n_getR c_17_18 sc_4.n rfl rfl rfl r_4_4 ?_
        refine n_iload_n c_17_21 rfl ?_
        refine n_ialoadV c_17_22 sc_7.n rfl rfl rfl (by omega) (t_7k (z := 0) hS (by omega) (by omega) (by omega)) ?_
        intro z17 ez17 f18
        refine n_iadd c_17_23 rfl ?_
        refine n_istore_n (L2 := [some (2, 4), some (0, n), some (0, 0), some (0, ((((((n * 3) + z5) * 3) + z11) * 3) + z17)), some (0, ((0 + 1) + 1))]) c_17_24 rfl rfl ?_
        refine n_iinc (L2 := [some (2, 4), some (0, n), some (0, 0), some (0, ((((((n * 3) + z5) * 3) + z11) * 3) + z17)), some (0, (((0 + 1) + 1) + 1))]) c_17_25 rfl rfl rfl ?_
        refine n_goto c_17_28 ?_
        refine n_iload c_17_5 rfl ?_
        refine n_iconst c_17_7 ?_
        refine n_if2_ge c_17_8 (by omega) (by omega) ?_ ?_
        · intro h19
          refine n_iload_n c_17_31 rfl ?_
          exact n_rI c_17_32 rfl ⟨rfl, by omega⟩
        · intro h20
          exfalso; omega

set_option maxHeartbeats 4000000 in
theorem widen1_3 {xs : List Int32} {e : Nat} {ac : Int} {M0 M : nM} {n : Int} (hS : Sf 3 ac M0 M) (hn : 0 ≤ n ∧ n ≤ 2) : nW xs e 17 0 [some (2, 4), some (0, n), some (0, 1), none, none] [] M (nPI fun z M1 => M = M1 ∧ (0 ≤ z ∧ z ≤ 26)) := by
  have hd : (3 : Int) = 2 ∨ (3 : Int) = 3 := by decide
  have hac := hS.2.2.2.2
  refine n_iload_n c_17_0 rfl ?_
  refine n_istore_n (L2 := [some (2, 4), some (0, n), some (0, 1), some (0, n), none]) c_17_1 rfl rfl ?_
  refine n_iload_n c_17_2 rfl ?_
  refine n_istore (L2 := [some (2, 4), some (0, n), some (0, 1), some (0, n), some (0, 1)]) c_17_3 rfl rfl ?_
  refine n_iload c_17_5 rfl ?_
  refine n_iconst c_17_7 ?_
  refine n_if2_ge c_17_8 (by omega) (by omega) ?_ ?_
  · intro h1
    exfalso; omega
  · intro h2
    refine n_iload_n c_17_11 rfl ?_
    refine n_aload_n c_17_12 rfl ?_
    refine n_getV (bi := 0) c_17_13 sc_4.n rfl rfl rfl (t_4_0 hS) ?_
    intro z3 ez3 f4
    obtain rfl : z3 = 3 := by omega
    refine n_imul c_17_16 rfl ?_
    refine n_aload_n c_17_17 rfl ?_
    refine n_getR c_17_18 sc_4.n rfl rfl rfl r_4_4 ?_
    refine n_iload_n c_17_21 rfl ?_
    refine n_ialoadV c_17_22 sc_7.n rfl rfl rfl (by omega) (t_7d hS hd (by omega) (by omega)) ?_
    intro z5 ez5 f6
    refine n_iadd c_17_23 rfl ?_
    refine n_istore_n (L2 := [some (2, 4), some (0, n), some (0, 1), some (0, ((n * 3) + z5)), some (0, 1)]) c_17_24 rfl rfl ?_
    refine n_iinc (L2 := [some (2, 4), some (0, n), some (0, 1), some (0, ((n * 3) + z5)), some (0, (1 + 1))]) c_17_25 rfl rfl rfl ?_
    refine n_goto c_17_28 ?_
    refine n_iload c_17_5 rfl ?_
    refine n_iconst c_17_7 ?_
    refine n_if2_ge c_17_8 (by omega) (by omega) ?_ ?_
    · intro h7
      exfalso; omega
    · intro h8
      refine n_iload_n c_17_11 rfl ?_
      refine n_aload_n c_17_12 rfl ?_
      refine n_getV (bi := 0) c_17_13 sc_4.n rfl rfl rfl (t_4_0 hS) ?_
      intro z9 ez9 f10
      obtain rfl : z9 = 3 := by omega
      refine n_imul c_17_16 rfl ?_
      refine n_aload_n c_17_17 rfl ?_
      refine n_getR c_17_18 sc_4.n rfl rfl rfl r_4_4 ?_
      refine n_iload_n c_17_21 rfl ?_
      refine n_ialoadV c_17_22 sc_7.n rfl rfl rfl (by omega) (t_7d hS hd (by omega) (by omega)) ?_
      intro z11 ez11 f12
      refine n_iadd c_17_23 rfl ?_
      refine n_istore_n (L2 := [some (2, 4), some (0, n), some (0, 1), some (0, ((((n * 3) + z5) * 3) + z11)), some (0, (1 + 1))]) c_17_24 rfl rfl ?_
      refine n_iinc (L2 := [some (2, 4), some (0, n), some (0, 1), some (0, ((((n * 3) + z5) * 3) + z11)), some (0, ((1 + 1) + 1))]) c_17_25 rfl rfl rfl ?_
      refine n_goto c_17_28 ?_
      refine n_iload c_17_5 rfl ?_
      refine n_iconst c_17_7 ?_
      refine n_if2_ge c_17_8 (by omega) (by omega) ?_ ?_
      · intro h13
        refine n_iload_n c_17_31 rfl ?_
        exact n_rI c_17_32 rfl ⟨rfl, by omega⟩
      · intro h14
        exfalso; omega

set_option maxHeartbeats 4000000 in
theorem widen2_3 {xs : List Int32} {e : Nat} {ac : Int} {M0 M : nM} {n : Int} (hS : Sf 3 ac M0 M) (hn : 0 ≤ n ∧ n ≤ 8) : nW xs e 17 0 [some (2, 4), some (0, n), some (0, 2), none, none] [] M (nPI fun z M1 => M = M1 ∧ (0 ≤ z ∧ z ≤ 26)) := by
  have hd : (3 : Int) = 2 ∨ (3 : Int) = 3 := by decide
  have hac := hS.2.2.2.2
  refine n_iload_n c_17_0 rfl ?_
  refine n_istore_n (L2 := [some (2, 4), some (0, n), some (0, 2), some (0, n), none]) c_17_1 rfl rfl ?_
  refine n_iload_n c_17_2 rfl ?_
  refine n_istore (L2 := [some (2, 4), some (0, n), some (0, 2), some (0, n), some (0, 2)]) c_17_3 rfl rfl ?_
  refine n_iload c_17_5 rfl ?_
  refine n_iconst c_17_7 ?_
  refine n_if2_ge c_17_8 (by omega) (by omega) ?_ ?_
  · intro h1
    exfalso; omega
  · intro h2
    refine n_iload_n c_17_11 rfl ?_
    refine n_aload_n c_17_12 rfl ?_
    refine n_getV (bi := 0) c_17_13 sc_4.n rfl rfl rfl (t_4_0 hS) ?_
    intro z3 ez3 f4
    obtain rfl : z3 = 3 := by omega
    refine n_imul c_17_16 rfl ?_
    refine n_aload_n c_17_17 rfl ?_
    refine n_getR c_17_18 sc_4.n rfl rfl rfl r_4_4 ?_
    refine n_iload_n c_17_21 rfl ?_
    refine n_ialoadV c_17_22 sc_7.n rfl rfl rfl (by omega) (t_7d hS hd (by omega) (by omega)) ?_
    intro z5 ez5 f6
    refine n_iadd c_17_23 rfl ?_
    refine n_istore_n (L2 := [some (2, 4), some (0, n), some (0, 2), some (0, ((n * 3) + z5)), some (0, 2)]) c_17_24 rfl rfl ?_
    refine n_iinc (L2 := [some (2, 4), some (0, n), some (0, 2), some (0, ((n * 3) + z5)), some (0, (2 + 1))]) c_17_25 rfl rfl rfl ?_
    refine n_goto c_17_28 ?_
    refine n_iload c_17_5 rfl ?_
    refine n_iconst c_17_7 ?_
    refine n_if2_ge c_17_8 (by omega) (by omega) ?_ ?_
    · intro h7
      refine n_iload_n c_17_31 rfl ?_
      exact n_rI c_17_32 rfl ⟨rfl, by omega⟩
    · intro h8
      exfalso; omega

set_option maxHeartbeats 4000000 in
theorem widen3_3 {xs : List Int32} {e : Nat} {ac : Int} {M0 M : nM} {n : Int} (hS : Sf 3 ac M0 M) (hn : 0 ≤ n ∧ n ≤ 26) : nW xs e 17 0 [some (2, 4), some (0, n), some (0, 3), none, none] [] M (nPI fun z M1 => M = M1 ∧ (0 ≤ z ∧ z ≤ 26)) := by
  have hd : (3 : Int) = 2 ∨ (3 : Int) = 3 := by decide
  have hac := hS.2.2.2.2
  refine n_iload_n c_17_0 rfl ?_
  refine n_istore_n (L2 := [some (2, 4), some (0, n), some (0, 3), some (0, n), none]) c_17_1 rfl rfl ?_
  refine n_iload_n c_17_2 rfl ?_
  refine n_istore (L2 := [some (2, 4), some (0, n), some (0, 3), some (0, n), some (0, 3)]) c_17_3 rfl rfl ?_
  refine n_iload c_17_5 rfl ?_
  refine n_iconst c_17_7 ?_
  refine n_if2_ge c_17_8 (by omega) (by omega) ?_ ?_
  · intro h1
    refine n_iload_n c_17_31 rfl ?_
    exact n_rI c_17_32 rfl ⟨rfl, by omega⟩
  · intro h2
    exfalso; omega

set_option maxHeartbeats 4000000 in
theorem widenW_3_c {xs : List Int32} {e : Nat} {ac : Int} {M0 M : nM} {n p : Int} (hS : Sf 3 ac M0 M) (hn : 0 ≤ n ∧ n ≤ 26) (hp : 0 ≤ p ∧ p ≤ 3) : ∀ nn : Nat, (∀ (x3 x4 : Int), (-2147483648 ≤ x3 ∧ x3 ≤ 2147483647) → (0 ≤ x4 ∧ x4 ≤ 3) → (3 - x4) * 1 + 1 < (nn : Int) → nW xs e 17 5 [some (2, 4), some (0, n), none, some (0, x3), some (0, x4)] [] M (nPI fun z M1 => M = M1 ∧ (-2147483648 ≤ z ∧ z ≤ 2147483647))) := by
  have hd : (3 : Int) = 2 ∨ (3 : Int) = 3 := by decide
  have hac := hS.2.2.2.2
  intro nn
  induction nn with
  | zero => intros; omega
  | succ nn ih =>
    intro x3 x4 k3 k4 hnn
    refine n_iload c_17_5 rfl ?_
    refine n_iconst c_17_7 ?_
    refine n_if2_ge c_17_8 (by omega) (by omega) ?_ ?_
    · intro h1
      refine n_iload_n c_17_31 rfl ?_
      exact n_rI c_17_32 rfl ⟨rfl, by omega⟩
    · intro h2
      refine n_iload_n c_17_11 rfl ?_
      refine n_aload_n c_17_12 rfl ?_
      refine n_getV (bi := 0) c_17_13 sc_4.n rfl rfl rfl (t_4_0 hS) ?_
      intro z3 ez3 f4
      obtain rfl : z3 = 3 := by omega
      refine n_imul c_17_16 rfl ?_
      refine n_wrap ?_
      have f5 := n_wr_r (x3 * 3)
      generalize n_wr (x3 * 3) = z6 at f5 ⊢
      refine n_aload_n c_17_17 rfl ?_
      refine n_getR c_17_18 sc_4.n rfl rfl rfl r_4_4 ?_
      refine n_iload_n c_17_21 rfl ?_
      refine n_ialoadV c_17_22 sc_7.n rfl rfl rfl (by omega) (t_7d hS hd (by omega) (by omega)) ?_
      intro z7 ez7 f8
      refine n_iadd c_17_23 rfl ?_
      refine n_wrap ?_
      have f9 := n_wr_r (z6 + z7)
      generalize n_wr (z6 + z7) = z10 at f9 ⊢
      refine n_istore_n (L2 := [some (2, 4), some (0, n), none, some (0, z10), some (0, x4)]) c_17_24 rfl rfl ?_
      refine n_iinc (L2 := [some (2, 4), some (0, n), none, some (0, z10), some (0, (x4 + 1))]) c_17_25 rfl rfl rfl ?_
      refine n_goto c_17_28 ?_
      refine n_fg (le_s (le_s (le_n (le_s (le_s le_0))))) ?_
      exact ih _ _ (by omega) (by omega) (by omega)
set_option maxHeartbeats 4000000 in
theorem widenW_3 {xs : List Int32} {e : Nat} {ac : Int} {M0 M : nM} {n p : Int} (hS : Sf 3 ac M0 M) (hn : 0 ≤ n ∧ n ≤ 26) (hp : 0 ≤ p ∧ p ≤ 3) : nW xs e 17 0 [some (2, 4), some (0, n), some (0, p), none, none] [] M (nPI fun z M1 => M = M1 ∧ (-2147483648 ≤ z ∧ z ≤ 2147483647)) := by
  have hd : (3 : Int) = 2 ∨ (3 : Int) = 3 := by decide
  have hac := hS.2.2.2.2
  refine n_iload_n c_17_0 rfl ?_
  refine n_istore_n (L2 := [some (2, 4), some (0, n), some (0, p), some (0, n), none]) c_17_1 rfl rfl ?_
  refine n_iload_n c_17_2 rfl ?_
  refine n_istore (L2 := [some (2, 4), some (0, n), some (0, p), some (0, n), some (0, p)]) c_17_3 rfl rfl ?_
  refine n_fg (le_s (le_s (le_n (le_s (le_s le_0))))) ?_
  exact (widenW_3_c hS hn hp 20) _ _ (by omega) (by omega) (by omega)

set_option maxHeartbeats 4000000 in
theorem threeOf0_3 {xs : List Int32} {e : Nat} {ac : Int} {M0 M : nM} {c : Int} (hS : Sf 3 ac M0 M) (hc : 0 ≤ c ∧ c ≤ 19682) : nW xs e 18 0 [some (2, 4), some (0, c), some (0, 0), none, none, none, none] [] M (nPI fun z M1 => M = M1 ∧ (0 ≤ z ∧ z ≤ 26)) := by
  have hd : (3 : Int) = 2 ∨ (3 : Int) = 3 := by decide
  have hac := hS.2.2.2.2
  refine n_iload_n c_18_0 rfl ?_
  refine n_istore_n (L2 := [some (2, 4), some (0, c), some (0, 0), some (0, c), none, none, none]) c_18_1 rfl rfl ?_
  refine n_iconst c_18_2 ?_
  refine n_istore (L2 := [some (2, 4), some (0, c), some (0, 0), some (0, c), some (0, 0), none, none]) c_18_3 rfl rfl ?_
  refine n_iconst c_18_5 ?_
  refine n_istore (L2 := [some (2, 4), some (0, c), some (0, 0), some (0, c), some (0, 0), some (0, 0), none]) c_18_6 rfl rfl ?_
  refine n_iload c_18_8 rfl ?_
  refine n_iload_n c_18_10 rfl ?_
  refine n_iconst c_18_11 ?_
  refine n_iadd c_18_12 rfl ?_
  refine n_if2_ge c_18_13 (by omega) (by omega) ?_ ?_
  · intro h1
    exfalso; omega
  · intro h2
    refine n_aload_n c_18_16 rfl ?_
    refine n_getV (bi := 0) c_18_17 sc_4.n rfl rfl rfl (t_4_0 hS) ?_
    intro z3 ez3 f4
    obtain rfl : z3 = 3 := by omega
    refine n_iconst c_18_20 ?_
    refine n_if2_ne c_18_21 (by omega) (by omega) ?_ ?_
    · intro h5
      refine n_iload_n c_18_30 rfl ?_
      refine n_iconst c_18_31 ?_
      refine n_iremV c_18_32 (by omega) (by omega) ?_
      intro z6 _ f7
      refine n_istore (L2 := [some (2, 4), some (0, c), some (0, 0), some (0, c), some (0, 0), some (0, 0), some (0, z6)]) c_18_33 rfl rfl ?_
      refine n_aload_n c_18_35 rfl ?_
      refine n_getV (bi := 0) c_18_36 sc_4.n rfl rfl rfl (t_4_0 hS) ?_
      intro z8 ez8 f9
      obtain rfl : z8 = 3 := by omega
      refine n_iconst c_18_39 ?_
      refine n_if2_ne c_18_40 (by omega) (by omega) ?_ ?_
      · intro h10
        refine n_iload_n c_18_49 rfl ?_
        refine n_iconst c_18_50 ?_
        refine n_idivV c_18_51 (by omega) (by omega) ?_
        intro z11 _ f12
        refine n_istore_n (L2 := [some (2, 4), some (0, c), some (0, 0), some (0, z11), some (0, 0), some (0, 0), some (0, z6)]) c_18_52 rfl rfl ?_
        refine n_iload c_18_53 rfl ?_
        refine n_iload_n c_18_55 rfl ?_
        refine n_if2_lt c_18_56 (by omega) (by omega) ?_ ?_
        · intro h13
          exfalso; omega
        · intro h14
          refine n_iload c_18_59 rfl ?_
          refine n_aload_n c_18_61 rfl ?_
          refine n_getV (bi := 0) c_18_62 sc_4.n rfl rfl rfl (t_4_0 hS) ?_
          intro z15 ez15 f16
          obtain rfl : z15 = 3 := by omega
          refine n_imul c_18_65 rfl ?_
          refine n_iload c_18_66 rfl ?_
          refine n_iadd c_18_68 rfl ?_
          refine n_istore (L2 := [some (2, 4), some (0, c), some (0, 0), some (0, z11), some (0, ((0 * 3) + z6)), some (0, 0), some (0, z6)]) c_18_69 rfl rfl ?_
          refine n_iinc (L2 := [some (2, 4), some (0, c), some (0, 0), some (0, z11), some (0, ((0 * 3) + z6)), some (0, (0 + 1)), some (0, z6)]) c_18_71 rfl rfl rfl ?_
          refine n_goto c_18_74 ?_
          refine n_iload c_18_8 rfl ?_
          refine n_iload_n c_18_10 rfl ?_
          refine n_iconst c_18_11 ?_
          refine n_iadd c_18_12 rfl ?_
          refine n_if2_ge c_18_13 (by omega) (by omega) ?_ ?_
          · intro h17
            exfalso; omega
          · intro h18
            refine n_aload_n c_18_16 rfl ?_
            refine n_getV (bi := 0) c_18_17 sc_4.n rfl rfl rfl (t_4_0 hS) ?_
            intro z19 ez19 f20
            obtain rfl : z19 = 3 := by omega
            refine n_iconst c_18_20 ?_
            refine n_if2_ne c_18_21 (by omega) (by omega) ?_ ?_
            · intro h21
              refine n_iload_n c_18_30 rfl ?_
              refine n_iconst c_18_31 ?_
              refine n_iremV c_18_32 (by omega) (by omega) ?_
              intro z22 _ f23
              refine n_istore (L2 := [some (2, 4), some (0, c), some (0, 0), some (0, z11), some (0, ((0 * 3) + z6)), some (0, (0 + 1)), some (0, z22)]) c_18_33 rfl rfl ?_
              refine n_aload_n c_18_35 rfl ?_
              refine n_getV (bi := 0) c_18_36 sc_4.n rfl rfl rfl (t_4_0 hS) ?_
              intro z24 ez24 f25
              obtain rfl : z24 = 3 := by omega
              refine n_iconst c_18_39 ?_
              refine n_if2_ne c_18_40 (by omega) (by omega) ?_ ?_
              · intro h26
                refine n_iload_n c_18_49 rfl ?_
                refine n_iconst c_18_50 ?_
                refine n_idivV c_18_51 (by omega) (by omega) ?_
                intro z27 _ f28
                refine n_istore_n (L2 := [some (2, 4), some (0, c), some (0, 0), some (0, z27), some (0, ((0 * 3) + z6)), some (0, (0 + 1)), some (0, z22)]) c_18_52 rfl rfl ?_
                refine n_iload c_18_53 rfl ?_
                refine n_iload_n c_18_55 rfl ?_
                refine n_if2_lt c_18_56 (by omega) (by omega) ?_ ?_
                · intro h29
                  exfalso; omega
                · intro h30
                  refine n_iload c_18_59 rfl ?_
                  refine n_aload_n c_18_61 rfl ?_
                  refine n_getV (bi := 0) c_18_62 sc_4.n rfl rfl rfl (t_4_0 hS) ?_
                  intro z31 ez31 f32
                  obtain rfl : z31 = 3 := by omega
                  refine n_imul c_18_65 rfl ?_
                  refine n_iload c_18_66 rfl ?_
                  refine n_iadd c_18_68 rfl ?_
                  refine n_istore (L2 := [some (2, 4), some (0, c), some (0, 0), some (0, z27), some (0, ((((0 * 3) + z6) * 3) + z22)), some (0, (0 + 1)), some (0, z22)]) c_18_69 rfl rfl ?_
                  refine n_iinc (L2 := [some (2, 4), some (0, c), some (0, 0), some (0, z27), some (0, ((((0 * 3) + z6) * 3) + z22)), some (0, ((0 + 1) + 1)), some (0, z22)]) c_18_71 rfl rfl rfl ?_
                  refine n_goto c_18_74 ?_
                  refine n_iload c_18_8 rfl ?_
                  refine n_iload_n c_18_10 rfl ?_
                  refine n_iconst c_18_11 ?_
                  refine n_iadd c_18_12 rfl ?_
                  refine n_if2_ge c_18_13 (by omega) (by omega) ?_ ?_
                  · intro h33
                    exfalso; omega
                  · intro h34
                    refine n_aload_n c_18_16 rfl ?_
                    refine n_getV (bi := 0) c_18_17 sc_4.n rfl rfl rfl (t_4_0 hS) ?_
                    intro z35 ez35 f36
                    obtain rfl : z35 = 3 := by omega
                    refine n_iconst c_18_20 ?_
                    refine n_if2_ne c_18_21 (by omega) (by omega) ?_ ?_
                    · intro h37
                      refine n_iload_n c_18_30 rfl ?_
                      refine n_iconst c_18_31 ?_
                      refine n_iremV c_18_32 (by omega) (by omega) ?_
                      intro z38 _ f39
                      refine n_istore (L2 := [some (2, 4), some (0, c), some (0, 0), some (0, z27), some (0, ((((0 * 3) + z6) * 3) + z22)), some (0, ((0 + 1) + 1)), some (0, z38)]) c_18_33 rfl rfl ?_
                      refine n_aload_n c_18_35 rfl ?_
                      refine n_getV (bi := 0) c_18_36 sc_4.n rfl rfl rfl (t_4_0 hS) ?_
                      intro z40 ez40 f41
                      obtain rfl : z40 = 3 := by omega
                      refine n_iconst c_18_39 ?_
                      refine n_if2_ne c_18_40 (by omega) (by omega) ?_ ?_
                      · intro h42
                        refine n_iload_n c_18_49 rfl ?_
                        refine n_iconst c_18_50 ?_
                        refine n_idivV c_18_51 (by omega) (by omega) ?_
                        intro z43 _ f44
                        refine n_istore_n (L2 := [some (2, 4), some (0, c), some (0, 0), some (0, z43), some (0, ((((0 * 3) + z6) * 3) + z22)), some (0, ((0 + 1) + 1)), some (0, z38)]) c_18_52 rfl rfl ?_
                        refine n_iload c_18_53 rfl ?_
                        refine n_iload_n c_18_55 rfl ?_
                        refine n_if2_lt c_18_56 (by omega) (by omega) ?_ ?_
                        · intro h45
                          exfalso; omega
                        · intro h46
                          refine n_iload c_18_59 rfl ?_
                          refine n_aload_n c_18_61 rfl ?_
                          refine n_getV (bi := 0) c_18_62 sc_4.n rfl rfl rfl (t_4_0 hS) ?_
                          intro z47 ez47 f48
                          obtain rfl : z47 = 3 := by omega
                          refine n_imul c_18_65 rfl ?_
                          refine n_iload c_18_66 rfl ?_
                          refine n_iadd c_18_68 rfl ?_
                          refine n_istore (L2 := [some (2, 4), some (0, c), some (0, 0), some (0, z43), some (0, ((((((0 * 3) + z6) * 3) + z22) * 3) + z38)), some (0, ((0 + 1) + 1)), some (0, z38)]) c_18_69 rfl rfl ?_
                          refine n_iinc (L2 := [some (2, 4), some (0, c), some (0, 0), some (0, z43), some (0, ((((((0 * 3) + z6) * 3) + z22) * 3) + z38)), some (0, (((0 + 1) + 1) + 1)), some (0, z38)]) c_18_71 rfl rfl rfl ?_
                          refine n_goto c_18_74 ?_
                          refine n_iload c_18_8 rfl ?_
                          refine n_iload_n c_18_10 rfl ?_
                          refine n_iconst c_18_11 ?_
                          refine n_iadd c_18_12 rfl ?_
                          refine n_if2_ge c_18_13 (by omega) (by omega) ?_ ?_
                          · intro h49
                            refine n_iload c_18_77 rfl ?_
                            exact n_rI c_18_79 rfl ⟨rfl, by omega⟩
                          · intro h50
                            exfalso; omega
                      · intro h51
                        exfalso; omega
                    · intro h52
                      exfalso; omega
              · intro h53
                exfalso; omega
            · intro h54
              exfalso; omega
      · intro h55
        exfalso; omega
    · intro h56
      exfalso; omega

set_option maxHeartbeats 4000000 in
theorem threeOf3_3 {xs : List Int32} {e : Nat} {ac : Int} {M0 M : nM} {c : Int} (hS : Sf 3 ac M0 M) (hc : 0 ≤ c ∧ c ≤ 19682) : nW xs e 18 0 [some (2, 4), some (0, c), some (0, 3), none, none, none, none] [] M (nPI fun z M1 => M = M1 ∧ (0 ≤ z ∧ z ≤ 26)) := by
  have hd : (3 : Int) = 2 ∨ (3 : Int) = 3 := by decide
  have hac := hS.2.2.2.2
  refine n_iload_n c_18_0 rfl ?_
  refine n_istore_n (L2 := [some (2, 4), some (0, c), some (0, 3), some (0, c), none, none, none]) c_18_1 rfl rfl ?_
  refine n_iconst c_18_2 ?_
  refine n_istore (L2 := [some (2, 4), some (0, c), some (0, 3), some (0, c), some (0, 0), none, none]) c_18_3 rfl rfl ?_
  refine n_iconst c_18_5 ?_
  refine n_istore (L2 := [some (2, 4), some (0, c), some (0, 3), some (0, c), some (0, 0), some (0, 0), none]) c_18_6 rfl rfl ?_
  refine n_iload c_18_8 rfl ?_
  refine n_iload_n c_18_10 rfl ?_
  refine n_iconst c_18_11 ?_
  refine n_iadd c_18_12 rfl ?_
  refine n_if2_ge c_18_13 (by omega) (by omega) ?_ ?_
  · intro h1
    exfalso; omega
  · intro h2
    refine n_aload_n c_18_16 rfl ?_
    refine n_getV (bi := 0) c_18_17 sc_4.n rfl rfl rfl (t_4_0 hS) ?_
    intro z3 ez3 f4
    obtain rfl : z3 = 3 := by omega
    refine n_iconst c_18_20 ?_
    refine n_if2_ne c_18_21 (by omega) (by omega) ?_ ?_
    · intro h5
      refine n_iload_n c_18_30 rfl ?_
      refine n_iconst c_18_31 ?_
      refine n_iremV c_18_32 (by omega) (by omega) ?_
      intro z6 _ f7
      refine n_istore (L2 := [some (2, 4), some (0, c), some (0, 3), some (0, c), some (0, 0), some (0, 0), some (0, z6)]) c_18_33 rfl rfl ?_
      refine n_aload_n c_18_35 rfl ?_
      refine n_getV (bi := 0) c_18_36 sc_4.n rfl rfl rfl (t_4_0 hS) ?_
      intro z8 ez8 f9
      obtain rfl : z8 = 3 := by omega
      refine n_iconst c_18_39 ?_
      refine n_if2_ne c_18_40 (by omega) (by omega) ?_ ?_
      · intro h10
        refine n_iload_n c_18_49 rfl ?_
        refine n_iconst c_18_50 ?_
        refine n_idivV c_18_51 (by omega) (by omega) ?_
        intro z11 _ f12
        refine n_istore_n (L2 := [some (2, 4), some (0, c), some (0, 3), some (0, z11), some (0, 0), some (0, 0), some (0, z6)]) c_18_52 rfl rfl ?_
        refine n_iload c_18_53 rfl ?_
        refine n_iload_n c_18_55 rfl ?_
        refine n_if2_lt c_18_56 (by omega) (by omega) ?_ ?_
        · intro h13
          refine n_iinc (L2 := [some (2, 4), some (0, c), some (0, 3), some (0, z11), some (0, 0), some (0, (0 + 1)), some (0, z6)]) c_18_71 rfl rfl rfl ?_
          refine n_goto c_18_74 ?_
          refine n_iload c_18_8 rfl ?_
          refine n_iload_n c_18_10 rfl ?_
          refine n_iconst c_18_11 ?_
          refine n_iadd c_18_12 rfl ?_
          refine n_if2_ge c_18_13 (by omega) (by omega) ?_ ?_
          · intro h14
            exfalso; omega
          · intro h15
            refine n_aload_n c_18_16 rfl ?_
            refine n_getV (bi := 0) c_18_17 sc_4.n rfl rfl rfl (t_4_0 hS) ?_
            intro z16 ez16 f17
            obtain rfl : z16 = 3 := by omega
            refine n_iconst c_18_20 ?_
            refine n_if2_ne c_18_21 (by omega) (by omega) ?_ ?_
            · intro h18
              refine n_iload_n c_18_30 rfl ?_
              refine n_iconst c_18_31 ?_
              refine n_iremV c_18_32 (by omega) (by omega) ?_
              intro z19 _ f20
              refine n_istore (L2 := [some (2, 4), some (0, c), some (0, 3), some (0, z11), some (0, 0), some (0, (0 + 1)), some (0, z19)]) c_18_33 rfl rfl ?_
              refine n_aload_n c_18_35 rfl ?_
              refine n_getV (bi := 0) c_18_36 sc_4.n rfl rfl rfl (t_4_0 hS) ?_
              intro z21 ez21 f22
              obtain rfl : z21 = 3 := by omega
              refine n_iconst c_18_39 ?_
              refine n_if2_ne c_18_40 (by omega) (by omega) ?_ ?_
              · intro h23
                refine n_iload_n c_18_49 rfl ?_
                refine n_iconst c_18_50 ?_
                refine n_idivV c_18_51 (by omega) (by omega) ?_
                intro z24 _ f25
                refine n_istore_n (L2 := [some (2, 4), some (0, c), some (0, 3), some (0, z24), some (0, 0), some (0, (0 + 1)), some (0, z19)]) c_18_52 rfl rfl ?_
                refine n_iload c_18_53 rfl ?_
                refine n_iload_n c_18_55 rfl ?_
                refine n_if2_lt c_18_56 (by omega) (by omega) ?_ ?_
                · intro h26
                  refine n_iinc (L2 := [some (2, 4), some (0, c), some (0, 3), some (0, z24), some (0, 0), some (0, ((0 + 1) + 1)), some (0, z19)]) c_18_71 rfl rfl rfl ?_
                  refine n_goto c_18_74 ?_
                  refine n_iload c_18_8 rfl ?_
                  refine n_iload_n c_18_10 rfl ?_
                  refine n_iconst c_18_11 ?_
                  refine n_iadd c_18_12 rfl ?_
                  refine n_if2_ge c_18_13 (by omega) (by omega) ?_ ?_
                  · intro h27
                    exfalso; omega
                  · intro h28
                    refine n_aload_n c_18_16 rfl ?_
                    refine n_getV (bi := 0) c_18_17 sc_4.n rfl rfl rfl (t_4_0 hS) ?_
                    intro z29 ez29 f30
                    obtain rfl : z29 = 3 := by omega
                    refine n_iconst c_18_20 ?_
                    refine n_if2_ne c_18_21 (by omega) (by omega) ?_ ?_
                    · intro h31
                      refine n_iload_n c_18_30 rfl ?_
                      refine n_iconst c_18_31 ?_
                      refine n_iremV c_18_32 (by omega) (by omega) ?_
                      intro z32 _ f33
                      refine n_istore (L2 := [some (2, 4), some (0, c), some (0, 3), some (0, z24), some (0, 0), some (0, ((0 + 1) + 1)), some (0, z32)]) c_18_33 rfl rfl ?_
                      refine n_aload_n c_18_35 rfl ?_
                      refine n_getV (bi := 0) c_18_36 sc_4.n rfl rfl rfl (t_4_0 hS) ?_
                      intro z34 ez34 f35
                      obtain rfl : z34 = 3 := by omega
                      refine n_iconst c_18_39 ?_
                      refine n_if2_ne c_18_40 (by omega) (by omega) ?_ ?_
                      · intro h36
                        refine n_iload_n c_18_49 rfl ?_
                        refine n_iconst c_18_50 ?_
                        refine n_idivV c_18_51 (by omega) (by omega) ?_
                        intro z37 _ f38
                        refine n_istore_n (L2 := [some (2, 4), some (0, c), some (0, 3), some (0, z37), some (0, 0), some (0, ((0 + 1) + 1)), some (0, z32)]) c_18_52 rfl rfl ?_
                        refine n_iload c_18_53 rfl ?_
                        refine n_iload_n c_18_55 rfl ?_
                        refine n_if2_lt c_18_56 (by omega) (by omega) ?_ ?_
                        · intro h39
                          refine n_iinc (L2 := [some (2, 4), some (0, c), some (0, 3), some (0, z37), some (0, 0), some (0, (((0 + 1) + 1) + 1)), some (0, z32)]) c_18_71 rfl rfl rfl ?_
                          refine n_goto c_18_74 ?_
                          refine n_iload c_18_8 rfl ?_
                          refine n_iload_n c_18_10 rfl ?_
                          refine n_iconst c_18_11 ?_
                          refine n_iadd c_18_12 rfl ?_
                          refine n_if2_ge c_18_13 (by omega) (by omega) ?_ ?_
                          · intro h40
                            exfalso; omega
                          · intro h41
                            refine n_aload_n c_18_16 rfl ?_
                            refine n_getV (bi := 0) c_18_17 sc_4.n rfl rfl rfl (t_4_0 hS) ?_
                            intro z42 ez42 f43
                            obtain rfl : z42 = 3 := by omega
                            refine n_iconst c_18_20 ?_
                            refine n_if2_ne c_18_21 (by omega) (by omega) ?_ ?_
                            · intro h44
                              refine n_iload_n c_18_30 rfl ?_
                              refine n_iconst c_18_31 ?_
                              refine n_iremV c_18_32 (by omega) (by omega) ?_
                              intro z45 _ f46
                              refine n_istore (L2 := [some (2, 4), some (0, c), some (0, 3), some (0, z37), some (0, 0), some (0, (((0 + 1) + 1) + 1)), some (0, z45)]) c_18_33 rfl rfl ?_
                              refine n_aload_n c_18_35 rfl ?_
                              refine n_getV (bi := 0) c_18_36 sc_4.n rfl rfl rfl (t_4_0 hS) ?_
                              intro z47 ez47 f48
                              obtain rfl : z47 = 3 := by omega
                              refine n_iconst c_18_39 ?_
                              refine n_if2_ne c_18_40 (by omega) (by omega) ?_ ?_
                              · intro h49
                                refine n_iload_n c_18_49 rfl ?_
                                refine n_iconst c_18_50 ?_
                                refine n_idivV c_18_51 (by omega) (by omega) ?_
                                intro z50 _ f51
                                refine n_istore_n (L2 := [some (2, 4), some (0, c), some (0, 3), some (0, z50), some (0, 0), some (0, (((0 + 1) + 1) + 1)), some (0, z45)]) c_18_52 rfl rfl ?_
                                refine n_iload c_18_53 rfl ?_
                                refine n_iload_n c_18_55 rfl ?_
                                refine n_if2_lt c_18_56 (by omega) (by omega) ?_ ?_
                                · intro h52
                                  exfalso; omega
                                · intro h53
                                  refine n_iload c_18_59 rfl ?_
                                  refine n_aload_n c_18_61 rfl ?_
                                  refine n_getV (bi := 0) c_18_62 sc_4.n rfl rfl rfl (t_4_0 hS) ?_
                                  intro z54 ez54 f55
                                  obtain rfl : z54 = 3 := by omega
                                  refine n_imul c_18_65 rfl ?_
                                  refine n_iload c_18_66 rfl ?_
                                  refine n_iadd c_18_68 rfl ?_
                                  refine n_istore (L2 := [some (2, 4), some (0, c), some (0, 3), some (0, z50), some (0, ((0 * 3) + z45)), some (0, (((0 + 1) + 1) + 1)), some (0, z45)]) c_18_69 rfl rfl ?_
                                  refine n_iinc (L2 := [some (2, 4), some (0, c), some (0, 3), some (0, z50), some (0, ((0 * 3) + z45)), some (0, ((((0 + 1) + 1) + 1) + 1)), some (0, z45)]) c_18_71 rfl rfl rfl ?_
                                  refine n_goto c_18_74 ?_
                                  refine n_iload c_18_8 rfl ?_
                                  refine n_iload_n c_18_10 rfl ?_
                                  refine n_iconst c_18_11 ?_
                                  refine n_iadd c_18_12 rfl ?_
                                  refine n_if2_ge c_18_13 (by omega) (by omega) ?_ ?_
                                  · intro h56
                                    exfalso; omega
                                  · intro h57
                                    refine n_aload_n c_18_16 rfl ?_
                                    refine n_getV (bi := 0) c_18_17 sc_4.n rfl rfl rfl (t_4_0 hS) ?_
                                    intro z58 ez58 f59
                                    obtain rfl : z58 = 3 := by omega
                                    refine n_iconst c_18_20 ?_
                                    refine n_if2_ne c_18_21 (by omega) (by omega) ?_ ?_
                                    · intro h60
                                      refine n_iload_n c_18_30 rfl ?_
                                      refine n_iconst c_18_31 ?_
                                      refine n_iremV c_18_32 (by omega) (by omega) ?_
                                      intro z61 _ f62
                                      refine n_istore (L2 := [some (2, 4), some (0, c), some (0, 3), some (0, z50), some (0, ((0 * 3) + z45)), some (0, ((((0 + 1) + 1) + 1) + 1)), some (0, z61)]) c_18_33 rfl rfl ?_
                                      refine n_aload_n c_18_35 rfl ?_
                                      refine n_getV (bi := 0) c_18_36 sc_4.n rfl rfl rfl (t_4_0 hS) ?_
                                      intro z63 ez63 f64
                                      obtain rfl : z63 = 3 := by omega
                                      refine n_iconst c_18_39 ?_
                                      refine n_if2_ne c_18_40 (by omega) (by omega) ?_ ?_
                                      · intro h65
                                        refine n_iload_n c_18_49 rfl ?_
                                        refine n_iconst c_18_50 ?_
                                        refine n_idivV c_18_51 (by omega) (by omega) ?_
                                        intro z66 _ f67
                                        refine n_istore_n (L2 := [some (2, 4), some (0, c), some (0, 3), some (0, z66), some (0, ((0 * 3) + z45)), some (0, ((((0 + 1) + 1) + 1) + 1)), some (0, z61)]) c_18_52 rfl rfl ?_
                                        refine n_iload c_18_53 rfl ?_
                                        refine n_iload_n c_18_55 rfl ?_
                                        refine n_if2_lt c_18_56 (by omega) (by omega) ?_ ?_
                                        · intro h68
                                          exfalso; omega
                                        · intro h69
                                          refine n_iload c_18_59 rfl ?_
                                          refine n_aload_n c_18_61 rfl ?_
                                          refine n_getV (bi := 0) c_18_62 sc_4.n rfl rfl rfl (t_4_0 hS) ?_
                                          intro z70 ez70 f71
                                          obtain rfl : z70 = 3 := by omega
                                          refine n_imul c_18_65 rfl ?_
                                          refine n_iload c_18_66 rfl ?_
                                          refine n_iadd c_18_68 rfl ?_
                                          refine n_istore (L2 := [some (2, 4), some (0, c), some (0, 3), some (0, z66), some (0, ((((0 * 3) + z45) * 3) + z61)), some (0, ((((0 + 1) + 1) + 1) + 1)), some (0, z61)]) c_18_69 rfl rfl ?_
                                          refine n_iinc (L2 := [some (2, 4), some (0, c), some (0, 3), some (0, z66), some (0, ((((0 * 3) + z45) * 3) + z61)), some (0, (((((0 + 1) + 1) + 1) + 1) + 1)), some (0, z61)]) c_18_71 rfl rfl rfl ?_
                                          refine n_goto c_18_74 ?_
                                          refine n_iload c_18_8 rfl ?_
                                          refine n_iload_n c_18_10 rfl ?_
                                          refine n_iconst c_18_11 ?_
                                          refine n_iadd c_18_12 rfl ?_
                                          refine n_if2_ge c_18_13 (by omega) (by omega) ?_ ?_
                                          · intro h72
                                            exfalso; omega
                                          · intro h73
                                            refine n_aload_n c_18_16 rfl ?_
                                            refine n_getV (bi := 0) c_18_17 sc_4.n rfl rfl rfl (t_4_0 hS) ?_
                                            intro z74 ez74 f75
                                            obtain rfl : z74 = 3 := by omega
                                            refine n_iconst c_18_20 ?_
                                            refine n_if2_ne c_18_21 (by omega) (by omega) ?_ ?_
                                            · intro h76
                                              refine n_iload_n c_18_30 rfl ?_
                                              refine n_iconst c_18_31 ?_
                                              refine n_iremV c_18_32 (by omega) (by omega) ?_
                                              intro z77 _ f78
                                              refine n_istore (L2 := [some (2, 4), some (0, c), some (0, 3), some (0, z66), some (0, ((((0 * 3) + z45) * 3) + z61)), some (0, (((((0 + 1) + 1) + 1) + 1) + 1)), some (0, z77)]) c_18_33 rfl rfl ?_
                                              refine n_aload_n c_18_35 rfl ?_
                                              refine n_getV (bi := 0) c_18_36 sc_4.n rfl rfl rfl (t_4_0 hS) ?_
                                              intro z79 ez79 f80
                                              obtain rfl : z79 = 3 := by omega
                                              refine n_iconst c_18_39 ?_
                                              refine n_if2_ne c_18_40 (by omega) (by omega) ?_ ?_
                                              · intro h81
                                                refine n_iload_n c_18_49 rfl ?_
                                                refine n_iconst c_18_50 ?_
                                                refine n_idivV c_18_51 (by omega) (by omega) ?_
                                                intro z82 _ f83
                                                refine n_istore_n (L2 := [some (2, 4), some (0, c), some (0, 3), some (0, z82), some (0, ((((0 * 3) + z45) * 3) + z61)), some (0, (((((0 + 1) + 1) + 1) + 1) + 1)), some (0, z77)]) c_18_52 rfl rfl ?_
                                                refine n_iload c_18_53 rfl ?_
                                                refine n_iload_n c_18_55 rfl ?_
                                                refine n_if2_lt c_18_56 (by omega) (by omega) ?_ ?_
                                                · intro h84
                                                  exfalso; omega
                                                · intro h85
                                                  refine n_iload c_18_59 rfl ?_
                                                  refine n_aload_n c_18_61 rfl ?_
                                                  refine n_getV (bi := 0) c_18_62 sc_4.n rfl rfl rfl (t_4_0 hS) ?_
                                                  intro z86 ez86 f87
                                                  obtain rfl : z86 = 3 := by omega
                                                  refine n_imul c_18_65 rfl ?_
                                                  refine n_iload c_18_66 rfl ?_
                                                  refine n_iadd c_18_68 rfl ?_
                                                  refine n_istore (L2 := [some (2, 4), some (0, c), some (0, 3), some (0, z82), some (0, ((((((0 * 3) + z45) * 3) + z61) * 3) + z77)), some (0, (((((0 + 1) + 1) + 1) + 1) + 1)), some (0, z77)]) c_18_69 rfl rfl ?_
                                                  refine n_iinc (L2 := [some (2, 4), some (0, c), some (0, 3), some (0, z82), some (0, ((((((0 * 3) + z45) * 3) + z61) * 3) + z77)), some (0, ((((((0 + 1) + 1) + 1) + 1) + 1) + 1)), some (0, z77)]) c_18_71 rfl rfl rfl ?_
                                                  refine n_goto c_18_74 ?_
                                                  refine n_iload c_18_8 rfl ?_
                                                  refine n_iload_n c_18_10 rfl ?_
                                                  refine n_iconst c_18_11 ?_
                                                  refine n_iadd c_18_12 rfl ?_
                                                  refine n_if2_ge c_18_13 (by omega) (by omega) ?_ ?_
                                                  · intro h88
                                                    refine n_iload c_18_77 rfl ?_
                                                    exact n_rI c_18_79 rfl ⟨rfl, by omega⟩
                                                  · intro h89
                                                    exfalso; omega
                                              · intro h90
                                                exfalso; omega
                                            · intro h91
                                              exfalso; omega
                                      · intro h92
                                        exfalso; omega
                                    · intro h93
                                      exfalso; omega
                              · intro h94
                                exfalso; omega
                            · intro h95
                              exfalso; omega
                        · intro h96
                          exfalso; omega
                      · intro h97
                        exfalso; omega
                    · intro h98
                      exfalso; omega
                · intro h99
                  exfalso; omega
              · intro h100
                exfalso; omega
            · intro h101
              exfalso; omega
        · intro h102
          exfalso; omega
      · intro h103
        exfalso; omega
    · intro h104
      exfalso; omega
