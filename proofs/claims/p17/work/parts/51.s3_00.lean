/-! The methods, by program. -/
set_option maxHeartbeats 4000000 in
theorem ibits_3 {xs : List Int32} {e : Nat} {ac : Int} {M0 M : nM} {x : Int} (hS : Sf 3 ac M0 M) (hx : -2147483648 ≤ x ∧ x ≤ 2147483647) : nW xs e 202 0 [some (0, x)] [] M (nPI fun z M1 => M = M1 ∧ (0 ≤ z ∧ z ≤ 63)) := by
  have hd : (3 : Int) = 2 ∨ (3 : Int) = 3 := by decide
  have hac := hS.2.2.2.2
  refine n_iload_n c_202_0 rfl (n_iload_n c_202_1 rfl (n_iconst c_202_2 (n_i_iushr c_202_3 rfl ?_)))
  have f1 := n_ushr_r x 1
  generalize (n_ushr x 1) = z2 at f1 ⊢
  refine n_ldc_w (n := 1431655765) c_202_4 rfl (n_i_iand c_202_7 rfl ?_)
  have f3 := n_and_y (x := z2) (y := 1431655765) (by omega)
  generalize (n_and z2 1431655765) = z4 at f3 ⊢
  refine n_isub c_202_8 rfl (n_wrap ?_)
  have f5 := n_wr_r (x - z4)
  generalize n_wr (x - z4) = z6 at f5 ⊢
  refine n_istore_n (L2 := [some (0, z6)]) c_202_9 rfl rfl (n_iload_n c_202_10 rfl (n_ldc_w (n := 858993459) c_202_11 rfl (n_i_iand c_202_14 rfl ?_)))
  have f7 := n_and_y (x := z6) (y := 858993459) (by omega)
  generalize (n_and z6 858993459) = z8 at f7 ⊢
  refine n_iload_n c_202_15 rfl (n_iconst c_202_16 (n_i_iushr c_202_17 rfl ?_))
  have f9 := n_ushr_r z6 2
  generalize (n_ushr z6 2) = z10 at f9 ⊢
  refine n_ldc_w (n := 858993459) c_202_18 rfl (n_i_iand c_202_21 rfl ?_)
  have f11 := n_and_y (x := z10) (y := 858993459) (by omega)
  generalize (n_and z10 858993459) = z12 at f11 ⊢
  refine n_iadd c_202_22 rfl (n_istore_n (L2 := [some (0, (z8 + z12))]) c_202_23 rfl rfl (n_iload_n c_202_24 rfl (n_iload_n c_202_25 rfl (n_iconst c_202_26 (n_i_iushr c_202_27 rfl ?_)))))
  have f13 := n_ushr_r (z8 + z12) 4
  generalize (n_ushr (z8 + z12) 4) = z14 at f13 ⊢
  refine n_iadd c_202_28 rfl (n_wrap ?_)
  have f15 := n_wr_r ((z8 + z12) + z14)
  generalize n_wr ((z8 + z12) + z14) = z16 at f15 ⊢
  refine n_ldc_w (n := 252645135) c_202_29 rfl (n_i_iand c_202_32 rfl ?_)
  have f17 := n_and_y (x := z16) (y := 252645135) (by omega)
  generalize (n_and z16 252645135) = z18 at f17 ⊢
  refine n_istore_n (L2 := [some (0, z18)]) c_202_33 rfl rfl (n_iload_n c_202_34 rfl (n_iload_n c_202_35 rfl (n_bipush c_202_36 rfl (n_i_iushr c_202_38 rfl ?_))))
  have f19 := n_ushr_r z18 8
  generalize (n_ushr z18 8) = z20 at f19 ⊢
  refine n_iadd c_202_39 rfl (n_wrap ?_)
  have f21 := n_wr_r (z18 + z20)
  generalize n_wr (z18 + z20) = z22 at f21 ⊢
  refine n_istore_n (L2 := [some (0, z22)]) c_202_40 rfl rfl (n_iload_n c_202_41 rfl (n_iload_n c_202_42 rfl (n_bipush c_202_43 rfl (n_i_iushr c_202_45 rfl ?_))))
  have f23 := n_ushr_r z22 16
  generalize (n_ushr z22 16) = z24 at f23 ⊢
  refine n_iadd c_202_46 rfl (n_wrap ?_)
  have f25 := n_wr_r (z22 + z24)
  generalize n_wr (z22 + z24) = z26 at f25 ⊢
  refine n_istore_n (L2 := [some (0, z26)]) c_202_47 rfl rfl (n_iload_n c_202_48 rfl (n_bipush c_202_49 rfl (n_i_iand c_202_51 rfl ?_)))
  have f27 := n_and_y (x := z26) (y := 63) (by omega)
  generalize (n_and z26 63) = z28 at f27 ⊢
  exact n_rI c_202_52 rfl ⟨rfl, by omega⟩

set_option maxHeartbeats 4000000 in
theorem lbits_3 {xs : List Int32} {e : Nat} {ac : Int} {M0 M : nM} {x : Int} (hS : Sf 3 ac M0 M) (hx : -9223372036854775808 ≤ x ∧ x ≤ 9223372036854775807) : nW xs e 203 0 [some (1, x), none] [] M (nPI fun z M1 => M = M1 ∧ (0 ≤ z ∧ z ≤ 127)) := by
  have hd : (3 : Int) = 2 ∨ (3 : Int) = 3 := by decide
  have hac := hS.2.2.2.2
  refine n_lload_n c_203_0 rfl (n_lload_n c_203_1 rfl (n_iconst c_203_2 (n_i_lushr c_203_3 rfl ?_)))
  have f1 := n_lushr_r x 1
  generalize (n_lushr x 1) = z2 at f1 ⊢
  refine n_ldc2 (n := 6148914691236517205) c_203_4 rfl (n_i_land c_203_7 rfl ?_)
  have f3 := n_land_r z2 6148914691236517205
  generalize (n_land z2 6148914691236517205) = z4 at f3 ⊢
  refine n_lsub c_203_8 rfl (n_wrapl ?_)
  have f5 := n_wl_r (x - z4)
  generalize n_wl (x - z4) = z6 at f5 ⊢
  refine n_lstore_n (L2 := [some (1, z6), none]) c_203_9 rfl rfl (n_lload_n c_203_10 rfl (n_ldc2 (n := 3689348814741910323) c_203_11 rfl (n_i_land c_203_14 rfl ?_)))
  have f7 := n_land_r z6 3689348814741910323
  generalize (n_land z6 3689348814741910323) = z8 at f7 ⊢
  refine n_lload_n c_203_15 rfl (n_iconst c_203_16 (n_i_lushr c_203_17 rfl ?_))
  have f9 := n_lushr_r z6 2
  generalize (n_lushr z6 2) = z10 at f9 ⊢
  refine n_ldc2 (n := 3689348814741910323) c_203_18 rfl (n_i_land c_203_21 rfl ?_)
  have f11 := n_land_r z10 3689348814741910323
  generalize (n_land z10 3689348814741910323) = z12 at f11 ⊢
  refine n_ladd c_203_22 rfl (n_wrapl ?_)
  have f13 := n_wl_r (z8 + z12)
  generalize n_wl (z8 + z12) = z14 at f13 ⊢
  refine n_lstore_n (L2 := [some (1, z14), none]) c_203_23 rfl rfl (n_lload_n c_203_24 rfl (n_lload_n c_203_25 rfl (n_iconst c_203_26 (n_i_lushr c_203_27 rfl ?_))))
  have f15 := n_lushr_r z14 4
  generalize (n_lushr z14 4) = z16 at f15 ⊢
  refine n_ladd c_203_28 rfl (n_wrapl ?_)
  have f17 := n_wl_r (z14 + z16)
  generalize n_wl (z14 + z16) = z18 at f17 ⊢
  refine n_ldc2 (n := 1085102592571150095) c_203_29 rfl (n_i_land c_203_32 rfl ?_)
  have f19 := n_land_r z18 1085102592571150095
  generalize (n_land z18 1085102592571150095) = z20 at f19 ⊢
  refine n_lstore_n (L2 := [some (1, z20), none]) c_203_33 rfl rfl (n_lload_n c_203_34 rfl (n_lload_n c_203_35 rfl (n_bipush c_203_36 rfl (n_i_lushr c_203_38 rfl ?_))))
  have f21 := n_lushr_r z20 8
  generalize (n_lushr z20 8) = z22 at f21 ⊢
  refine n_ladd c_203_39 rfl (n_wrapl ?_)
  have f23 := n_wl_r (z20 + z22)
  generalize n_wl (z20 + z22) = z24 at f23 ⊢
  refine n_lstore_n (L2 := [some (1, z24), none]) c_203_40 rfl rfl (n_lload_n c_203_41 rfl (n_lload_n c_203_42 rfl (n_bipush c_203_43 rfl (n_i_lushr c_203_45 rfl ?_))))
  have f25 := n_lushr_r z24 16
  generalize (n_lushr z24 16) = z26 at f25 ⊢
  refine n_ladd c_203_46 rfl (n_wrapl ?_)
  have f27 := n_wl_r (z24 + z26)
  generalize n_wl (z24 + z26) = z28 at f27 ⊢
  refine n_lstore_n (L2 := [some (1, z28), none]) c_203_47 rfl rfl (n_lload_n c_203_48 rfl (n_lload_n c_203_49 rfl (n_bipush c_203_50 rfl (n_i_lushr c_203_52 rfl ?_))))
  have f29 := n_lushr_r z28 32
  generalize (n_lushr z28 32) = z30 at f29 ⊢
  refine n_ladd c_203_53 rfl (n_wrapl ?_)
  have f31 := n_wl_r (z28 + z30)
  generalize n_wl (z28 + z30) = z32 at f31 ⊢
  refine n_lstore_n (L2 := [some (1, z32), none]) c_203_54 rfl rfl (n_lload_n c_203_55 rfl (n_l2i c_203_56 (n_wrap ?_)))
  have f33 := n_wr_r z32
  generalize n_wr z32 = z34 at f33 ⊢
  refine n_bipush c_203_57 rfl (n_i_iand c_203_59 rfl ?_)
  have f35 := n_and_y (x := z34) (y := 127) (by omega)
  generalize (n_and z34 127) = z36 at f35 ⊢
  exact n_rI c_203_60 rfl ⟨rfl, by omega⟩

set_option maxHeartbeats 4000000 in
theorem imax_3 {xs : List Int32} {e : Nat} {ac : Int} {M0 M : nM} {x y : Int} (hS : Sf 3 ac M0 M) (hx : -2147483648 ≤ x ∧ x ≤ 2147483647) (hy : -2147483648 ≤ y ∧ y ≤ 2147483647) : nW xs e 205 0 [some (0, x), some (0, y)] [] M (nPI fun z M1 => M = M1 ∧ (-2147483648 ≤ z ∧ z ≤ 2147483647) ∧ (x ≤ z ∧ y ≤ z ∧ (z = x ∨ z = y))) := by
  have hd : (3 : Int) = 2 ∨ (3 : Int) = 3 := by decide
  have hac := hS.2.2.2.2
  refine n_iload_n c_205_0 rfl (n_iload_n c_205_1 rfl ?_)
  refine n_if2_lt c_205_2 (by omega) (by omega) ?_ ?_
  · intro h1
    refine n_iload_n c_205_9 rfl ?_
    exact n_rI c_205_10 rfl ⟨rfl, by omega, by omega⟩
  · intro h2
    refine n_iload_n c_205_5 rfl (n_goto c_205_6 ?_)
    exact n_rI c_205_10 rfl ⟨rfl, by omega, by omega⟩

set_option maxHeartbeats 4000000 in
theorem imin_3 {xs : List Int32} {e : Nat} {ac : Int} {M0 M : nM} {x y : Int} (hS : Sf 3 ac M0 M) (hx : -2147483648 ≤ x ∧ x ≤ 2147483647) (hy : -2147483648 ≤ y ∧ y ≤ 2147483647) : nW xs e 206 0 [some (0, x), some (0, y)] [] M (nPI fun z M1 => M = M1 ∧ (-2147483648 ≤ z ∧ z ≤ 2147483647) ∧ (z ≤ x ∧ z ≤ y ∧ (z = x ∨ z = y))) := by
  have hd : (3 : Int) = 2 ∨ (3 : Int) = 3 := by decide
  have hac := hS.2.2.2.2
  refine n_iload_n c_206_0 rfl (n_iload_n c_206_1 rfl ?_)
  refine n_if2_gt c_206_2 (by omega) (by omega) ?_ ?_
  · intro h1
    refine n_iload_n c_206_9 rfl ?_
    exact n_rI c_206_10 rfl ⟨rfl, by omega, by omega⟩
  · intro h2
    refine n_iload_n c_206_5 rfl (n_goto c_206_6 ?_)
    exact n_rI c_206_10 rfl ⟨rfl, by omega, by omega⟩

set_option maxHeartbeats 4000000 in
theorem fill40_3_c {xs : List Int32} {e : Nat} {ac : Int} {M0 M : nM} {v : Int} (hS : Sf 3 ac M0 M) (hv : -2147483648 ≤ v ∧ v ≤ 2147483647) : ∀ nn : Nat, (∀ (x2 x3 : Int) (M : nM), Sf 3 ac M0 M → (0 ≤ x2 ∧ x2 ≤ 729) → (729 ≤ x3 ∧ x3 ≤ 729) → (729 - x2) * 1 + 1 < (nn : Int) → nW xs e 208 5 [some (2, 40), some (0, v), some (0, x2), some (0, x3)] [] M (nPV fun M1 => Sf 3 ac M0 M1)) := by
  have hd : (3 : Int) = 2 ∨ (3 : Int) = 3 := by decide
  have hac := hS.2.2.2.2
  intro nn
  induction nn with
  | zero => intros; omega
  | succ nn ih =>
    intro x2 x3 M hS k2 k3 hnn
    refine n_iload_n c_208_5 rfl (n_iload_n c_208_6 rfl ?_)
    refine n_if2_ge c_208_7 (by omega) (by omega) ?_ ?_
    · intro h1
      exact n_rV c_208_20 rfl hS
    · intro h2
      refine n_aload_n c_208_10 rfl (n_iload_n c_208_11 rfl (n_iload_n c_208_12 rfl (n_iastoreV hS c_208_13 sc_40.n rfl (by omega) (w_40 (by omega) (by omega)) ?_)))
      intro M3 eM3 hS3
      refine n_iinc (L2 := [some (2, 40), some (0, v), some (0, (x2 + 1)), some (0, x3)]) c_208_14 rfl rfl rfl (n_goto c_208_17 (n_fg (le_s (le_s (le_s (le_s le_0)))) ?_))
      exact ih _ _ M3 hS3 (by omega) (by omega) (by omega)
set_option maxHeartbeats 4000000 in
theorem fill40_3 {xs : List Int32} {e : Nat} {ac : Int} {M0 M : nM} {v : Int} (hS : Sf 3 ac M0 M) (hv : -2147483648 ≤ v ∧ v ≤ 2147483647) : nW xs e 208 0 [some (2, 40), some (0, v), none, none] [] M (nPV fun M1 => Sf 3 ac M0 M1) := by
  have hd : (3 : Int) = 2 ∨ (3 : Int) = 3 := by decide
  have hac := hS.2.2.2.2
  refine n_iconst c_208_0 (n_istore_n (L2 := [some (2, 40), some (0, v), some (0, 0), none]) c_208_1 rfl rfl (n_aload_n c_208_2 rfl (n_alen c_208_3 sc_40.n rfl (n_istore_n (L2 := [some (2, 40), some (0, v), some (0, 0), some (0, ((729 : Nat) : Int))]) c_208_4 rfl rfl (n_fg (le_s (le_s (le_s (le_s le_0)))) ?_)))))
  exact (fill40_3_c hS hv 1472) _ _ M hS (by omega) (by omega) (by omega)

set_option maxHeartbeats 4000000 in
theorem fill37_3_c {xs : List Int32} {e : Nat} {ac : Int} {M0 M : nM} {v : Int} (hS : Sf 3 ac M0 M) (hv : -2147483648 ≤ v ∧ v ≤ 2147483647) : ∀ nn : Nat, (∀ (x2 x3 : Int) (M : nM), Sf 3 ac M0 M → (0 ≤ x2 ∧ x2 ≤ 8) → (8 ≤ x3 ∧ x3 ≤ 8) → (8 - x2) * 1 + 1 < (nn : Int) → nW xs e 208 5 [some (2, 37), some (0, v), some (0, x2), some (0, x3)] [] M (nPV fun M1 => Sf 3 ac M0 M1)) := by
  have hd : (3 : Int) = 2 ∨ (3 : Int) = 3 := by decide
  have hac := hS.2.2.2.2
  intro nn
  induction nn with
  | zero => intros; omega
  | succ nn ih =>
    intro x2 x3 M hS k2 k3 hnn
    refine n_iload_n c_208_5 rfl (n_iload_n c_208_6 rfl ?_)
    refine n_if2_ge c_208_7 (by omega) (by omega) ?_ ?_
    · intro h1
      exact n_rV c_208_20 rfl hS
    · intro h2
      refine n_aload_n c_208_10 rfl (n_iload_n c_208_11 rfl (n_iload_n c_208_12 rfl (n_iastoreV hS c_208_13 sc_37.n rfl (by omega) (w_37 (by omega) (by omega)) ?_)))
      intro M3 eM3 hS3
      refine n_iinc (L2 := [some (2, 37), some (0, v), some (0, (x2 + 1)), some (0, x3)]) c_208_14 rfl rfl rfl (n_goto c_208_17 (n_fg (le_s (le_s (le_s (le_s le_0)))) ?_))
      exact ih _ _ M3 hS3 (by omega) (by omega) (by omega)
set_option maxHeartbeats 4000000 in
theorem fill37_3 {xs : List Int32} {e : Nat} {ac : Int} {M0 M : nM} {v : Int} (hS : Sf 3 ac M0 M) (hv : -2147483648 ≤ v ∧ v ≤ 2147483647) : nW xs e 208 0 [some (2, 37), some (0, v), none, none] [] M (nPV fun M1 => Sf 3 ac M0 M1) := by
  have hd : (3 : Int) = 2 ∨ (3 : Int) = 3 := by decide
  have hac := hS.2.2.2.2
  refine n_iconst c_208_0 (n_istore_n (L2 := [some (2, 37), some (0, v), some (0, 0), none]) c_208_1 rfl rfl (n_aload_n c_208_2 rfl (n_alen c_208_3 sc_37.n rfl (n_istore_n (L2 := [some (2, 37), some (0, v), some (0, 0), some (0, ((8 : Nat) : Int))]) c_208_4 rfl rfl (n_fg (le_s (le_s (le_s (le_s le_0)))) ?_)))))
  exact (fill37_3_c hS hv 30) _ _ M hS (by omega) (by omega) (by omega)

set_option maxHeartbeats 4000000 in
theorem fill49_3_c {xs : List Int32} {e : Nat} {ac : Int} {M0 M : nM} {v : Int} (hS : Sf 3 ac M0 M) (hv : -9223372036854775808 ≤ v ∧ v ≤ 9223372036854775807) : ∀ nn : Nat, (∀ (x3 x4 : Int) (M : nM), Sf 3 ac M0 M → (0 ≤ x3 ∧ x3 ≤ 103) → (103 ≤ x4 ∧ x4 ≤ 103) → (103 - x3) * 1 + 1 < (nn : Int) → nW xs e 207 6 [some (2, 49), some (1, v), none, some (0, x3), some (0, x4)] [] M (nPV fun M1 => Sf 3 ac M0 M1)) := by
  have hd : (3 : Int) = 2 ∨ (3 : Int) = 3 := by decide
  have hac := hS.2.2.2.2
  intro nn
  induction nn with
  | zero => intros; omega
  | succ nn ih =>
    intro x3 x4 M hS k3 k4 hnn
    refine n_iload_n c_207_6 rfl (n_iload c_207_7 rfl ?_)
    refine n_if2_ge c_207_9 (by omega) (by omega) ?_ ?_
    · intro h1
      exact n_rV c_207_22 rfl hS
    · intro h2
      refine n_aload_n c_207_12 rfl (n_iload_n c_207_13 rfl (n_lload_n c_207_14 rfl (n_lastoreV hS c_207_15 sc_49.n rfl (by omega) (w_49 (by omega) (by omega)) ?_)))
      intro M3 eM3 hS3
      refine n_iinc (L2 := [some (2, 49), some (1, v), none, some (0, (x3 + 1)), some (0, x4)]) c_207_16 rfl rfl rfl (n_goto c_207_19 (n_fg (le_s (le_s (le_n (le_s (le_s le_0))))) ?_))
      exact ih _ _ M3 hS3 (by omega) (by omega) (by omega)
set_option maxHeartbeats 4000000 in
theorem fill49_3 {xs : List Int32} {e : Nat} {ac : Int} {M0 M : nM} {v : Int} (hS : Sf 3 ac M0 M) (hv : -9223372036854775808 ≤ v ∧ v ≤ 9223372036854775807) : nW xs e 207 0 [some (2, 49), some (1, v), none, none, none] [] M (nPV fun M1 => Sf 3 ac M0 M1) := by
  have hd : (3 : Int) = 2 ∨ (3 : Int) = 3 := by decide
  have hac := hS.2.2.2.2
  refine n_iconst c_207_0 (n_istore_n (L2 := [some (2, 49), some (1, v), none, some (0, 0), none]) c_207_1 rfl rfl (n_aload_n c_207_2 rfl (n_alen c_207_3 sc_49.n rfl (n_istore (L2 := [some (2, 49), some (1, v), none, some (0, 0), some (0, ((103 : Nat) : Int))]) c_207_4 rfl rfl (n_fg (le_s (le_s (le_n (le_s (le_s le_0))))) ?_)))))
  exact (fill49_3_c hS hv 220) _ _ M hS (by omega) (by omega) (by omega)

set_option maxHeartbeats 4000000 in
theorem power0_3 {xs : List Int32} {e : Nat} {ac : Int} {M0 M : nM} (hS : Sf 3 ac M0 M)  : nW xs e 12 0 [some (2, 4), some (0, 0), none, none] [] M (nPI fun z M1 => M = M1 ∧ (1 ≤ z ∧ z ≤ 1)) := by
  have hd : (3 : Int) = 2 ∨ (3 : Int) = 3 := by decide
  have hac := hS.2.2.2.2
  refine n_iconst c_12_0 (n_istore_n (L2 := [some (2, 4), some (0, 0), some (0, 1), none]) c_12_1 rfl rfl (n_iconst c_12_2 (n_istore_n (L2 := [some (2, 4), some (0, 0), some (0, 1), some (0, 0)]) c_12_3 rfl rfl (n_iload_n c_12_4 rfl (n_iload_n c_12_5 rfl ?_)))))
  refine n_if2_ge c_12_6 (by omega) (by omega) ?_ ?_
  · intro h1
    refine n_iload_n c_12_22 rfl ?_
    exact n_rI c_12_23 rfl ⟨rfl, by omega⟩
  · intro h2
    exfalso; omega

set_option maxHeartbeats 4000000 in
theorem power1_3 {xs : List Int32} {e : Nat} {ac : Int} {M0 M : nM} (hS : Sf 3 ac M0 M)  : nW xs e 12 0 [some (2, 4), some (0, 1), none, none] [] M (nPI fun z M1 => M = M1 ∧ (3 ≤ z ∧ z ≤ 3)) := by
  have hd : (3 : Int) = 2 ∨ (3 : Int) = 3 := by decide
  have hac := hS.2.2.2.2
  refine n_iconst c_12_0 (n_istore_n (L2 := [some (2, 4), some (0, 1), some (0, 1), none]) c_12_1 rfl rfl (n_iconst c_12_2 (n_istore_n (L2 := [some (2, 4), some (0, 1), some (0, 1), some (0, 0)]) c_12_3 rfl rfl (n_iload_n c_12_4 rfl (n_iload_n c_12_5 rfl ?_)))))
  refine n_if2_ge c_12_6 (by omega) (by omega) ?_ ?_
  · intro h1
    exfalso; omega
  · intro h2
    refine n_iload_n c_12_9 rfl (n_aload_n c_12_10 rfl (n_getV (bi := 0) c_12_11 sc_4.n rfl rfl rfl (t_4_0 hS) ?_))
    intro z3 ez3 f4
    obtain rfl : z3 = 3 := by omega
    refine n_imul c_12_14 rfl (n_istore_n (L2 := [some (2, 4), some (0, 1), some (0, (1 * 3)), some (0, 0)]) c_12_15 rfl rfl (n_iinc (L2 := [some (2, 4), some (0, 1), some (0, (1 * 3)), some (0, (0 + 1))]) c_12_16 rfl rfl rfl (n_goto c_12_19 (n_iload_n c_12_4 rfl (n_iload_n c_12_5 rfl ?_)))))
    refine n_if2_ge c_12_6 (by omega) (by omega) ?_ ?_
    · intro h5
      refine n_iload_n c_12_22 rfl ?_
      exact n_rI c_12_23 rfl ⟨rfl, by omega⟩
    · intro h6
      exfalso; omega

set_option maxHeartbeats 4000000 in
theorem power2_3 {xs : List Int32} {e : Nat} {ac : Int} {M0 M : nM} (hS : Sf 3 ac M0 M)  : nW xs e 12 0 [some (2, 4), some (0, 2), none, none] [] M (nPI fun z M1 => M = M1 ∧ (9 ≤ z ∧ z ≤ 9)) := by
  have hd : (3 : Int) = 2 ∨ (3 : Int) = 3 := by decide
  have hac := hS.2.2.2.2
  refine n_iconst c_12_0 (n_istore_n (L2 := [some (2, 4), some (0, 2), some (0, 1), none]) c_12_1 rfl rfl (n_iconst c_12_2 (n_istore_n (L2 := [some (2, 4), some (0, 2), some (0, 1), some (0, 0)]) c_12_3 rfl rfl (n_iload_n c_12_4 rfl (n_iload_n c_12_5 rfl ?_)))))
  refine n_if2_ge c_12_6 (by omega) (by omega) ?_ ?_
  · intro h1
    exfalso; omega
  · intro h2
    refine n_iload_n c_12_9 rfl (n_aload_n c_12_10 rfl (n_getV (bi := 0) c_12_11 sc_4.n rfl rfl rfl (t_4_0 hS) ?_))
    intro z3 ez3 f4
    obtain rfl : z3 = 3 := by omega
    refine n_imul c_12_14 rfl (n_istore_n (L2 := [some (2, 4), some (0, 2), some (0, (1 * 3)), some (0, 0)]) c_12_15 rfl rfl (n_iinc (L2 := [some (2, 4), some (0, 2), some (0, (1 * 3)), some (0, (0 + 1))]) c_12_16 rfl rfl rfl (n_goto c_12_19 (n_iload_n c_12_4 rfl (n_iload_n c_12_5 rfl ?_)))))
    refine n_if2_ge c_12_6 (by omega) (by omega) ?_ ?_
    · intro h5
      exfalso; omega
    · intro h6
      refine n_iload_n c_12_9 rfl (n_aload_n c_12_10 rfl (n_getV (bi := 0) c_12_11 sc_4.n rfl rfl rfl (t_4_0 hS) ?_))
      intro z7 ez7 f8
      obtain rfl : z7 = 3 := by omega
      refine n_imul c_12_14 rfl (n_istore_n (L2 := [some (2, 4), some (0, 2), some (0, ((1 * 3) * 3)), some (0, (0 + 1))]) c_12_15 rfl rfl (n_iinc (L2 := [some (2, 4), some (0, 2), some (0, ((1 * 3) * 3)), some (0, ((0 + 1) + 1))]) c_12_16 rfl rfl rfl (n_goto c_12_19 (n_iload_n c_12_4 rfl (n_iload_n c_12_5 rfl ?_)))))
      refine n_if2_ge c_12_6 (by omega) (by omega) ?_ ?_
      · intro h9
        refine n_iload_n c_12_22 rfl ?_
        exact n_rI c_12_23 rfl ⟨rfl, by omega⟩
      · intro h10
        exfalso; omega

set_option maxHeartbeats 4000000 in
theorem power3_3 {xs : List Int32} {e : Nat} {ac : Int} {M0 M : nM} (hS : Sf 3 ac M0 M)  : nW xs e 12 0 [some (2, 4), some (0, 3), none, none] [] M (nPI fun z M1 => M = M1 ∧ (27 ≤ z ∧ z ≤ 27)) := by
  have hd : (3 : Int) = 2 ∨ (3 : Int) = 3 := by decide
  have hac := hS.2.2.2.2
  refine n_iconst c_12_0 (n_istore_n (L2 := [some (2, 4), some (0, 3), some (0, 1), none]) c_12_1 rfl rfl (n_iconst c_12_2 (n_istore_n (L2 := [some (2, 4), some (0, 3), some (0, 1), some (0, 0)]) c_12_3 rfl rfl (n_iload_n c_12_4 rfl (n_iload_n c_12_5 rfl ?_)))))
  refine n_if2_ge c_12_6 (by omega) (by omega) ?_ ?_
  · intro h1
    exfalso; omega
  · intro h2
    refine n_iload_n c_12_9 rfl (n_aload_n c_12_10 rfl (n_getV (bi := 0) c_12_11 sc_4.n rfl rfl rfl (t_4_0 hS) ?_))
    intro z3 ez3 f4
    obtain rfl : z3 = 3 := by omega
    refine n_imul c_12_14 rfl (n_istore_n (L2 := [some (2, 4), some (0, 3), some (0, (1 * 3)), some (0, 0)]) c_12_15 rfl rfl (n_iinc (L2 := [some (2, 4), some (0, 3), some (0, (1 * 3)), some (0, (0 + 1))]) c_12_16 rfl rfl rfl (n_goto c_12_19 (n_iload_n c_12_4 rfl (n_iload_n c_12_5 rfl ?_)))))
    refine n_if2_ge c_12_6 (by omega) (by omega) ?_ ?_
    · intro h5
      exfalso; omega
    · intro h6
      refine n_iload_n c_12_9 rfl (n_aload_n c_12_10 rfl (n_getV (bi := 0) c_12_11 sc_4.n rfl rfl rfl (t_4_0 hS) ?_))
      intro z7 ez7 f8
      obtain rfl : z7 = 3 := by omega
      refine n_imul c_12_14 rfl (n_istore_n (L2 := [some (2, 4), some (0, 3), some (0, ((1 * 3) * 3)), some (0, (0 + 1))]) c_12_15 rfl rfl (n_iinc (L2 := [some (2, 4), some (0, 3), some (0, ((1 * 3) * 3)), some (0, ((0 + 1) + 1))]) c_12_16 rfl rfl rfl (n_goto c_12_19 (n_iload_n c_12_4 rfl (n_iload_n c_12_5 rfl ?_)))))
      refine n_if2_ge c_12_6 (by omega) (by omega) ?_ ?_
      · intro h9
        exfalso; omega
      · intro h10
        refine n_iload_n c_12_9 rfl (n_aload_n c_12_10 rfl (n_getV (bi := 0) c_12_11 sc_4.n rfl rfl rfl (t_4_0 hS) ?_))
        intro z11 ez11 f12
        obtain rfl : z11 = 3 := by omega
        refine n_imul c_12_14 rfl (n_istore_n (L2 := [some (2, 4), some (0, 3), some (0, (((1 * 3) * 3) * 3)), some (0, ((0 + 1) + 1))]) c_12_15 rfl rfl (n_iinc (L2 := [some (2, 4), some (0, 3), some (0, (((1 * 3) * 3) * 3)), some (0, (((0 + 1) + 1) + 1))]) c_12_16 rfl rfl rfl (n_goto c_12_19 (n_iload_n c_12_4 rfl (n_iload_n c_12_5 rfl ?_)))))
        refine n_if2_ge c_12_6 (by omega) (by omega) ?_ ?_
        · intro h13
          refine n_iload_n c_12_22 rfl ?_
          exact n_rI c_12_23 rfl ⟨rfl, by omega⟩
        · intro h14
          exfalso; omega

set_option maxHeartbeats 4000000 in
theorem power4_3 {xs : List Int32} {e : Nat} {ac : Int} {M0 M : nM} (hS : Sf 3 ac M0 M)  : nW xs e 12 0 [some (2, 4), some (0, 4), none, none] [] M (nPI fun z M1 => M = M1 ∧ (81 ≤ z ∧ z ≤ 81)) := by
  have hd : (3 : Int) = 2 ∨ (3 : Int) = 3 := by decide
  have hac := hS.2.2.2.2
  refine n_iconst c_12_0 (n_istore_n (L2 := [some (2, 4), some (0, 4), some (0, 1), none]) c_12_1 rfl rfl (n_iconst c_12_2 (n_istore_n (L2 := [some (2, 4), some (0, 4), some (0, 1), some (0, 0)]) c_12_3 rfl rfl (n_iload_n c_12_4 rfl (n_iload_n c_12_5 rfl ?_)))))
  refine n_if2_ge c_12_6 (by omega) (by omega) ?_ ?_
  · intro h1
    exfalso; omega
  · intro h2
    refine n_iload_n c_12_9 rfl (n_aload_n c_12_10 rfl (n_getV (bi := 0) c_12_11 sc_4.n rfl rfl rfl (t_4_0 hS) ?_))
    intro z3 ez3 f4
    obtain rfl : z3 = 3 := by omega
    refine n_imul c_12_14 rfl (n_istore_n (L2 := [some (2, 4), some (0, 4), some (0, (1 * 3)), some (0, 0)]) c_12_15 rfl rfl (n_iinc (L2 := [some (2, 4), some (0, 4), some (0, (1 * 3)), some (0, (0 + 1))]) c_12_16 rfl rfl rfl (n_goto c_12_19 (n_iload_n c_12_4 rfl (n_iload_n c_12_5 rfl ?_)))))
    refine n_if2_ge c_12_6 (by omega) (by omega) ?_ ?_
    · intro h5
      exfalso; omega
    · intro h6
      refine n_iload_n c_12_9 rfl (n_aload_n c_12_10 rfl (n_getV (bi := 0) c_12_11 sc_4.n rfl rfl rfl (t_4_0 hS) ?_))
      intro z7 ez7 f8
      obtain rfl : z7 = 3 := by omega
      refine n_imul c_12_14 rfl (n_istore_n (L2 := [some (2, 4), some (0, 4), some (0, ((1 * 3) * 3)), some (0, (0 + 1))]) c_12_15 rfl rfl (n_iinc (L2 := [some (2, 4), some (0, 4), some (0, ((1 * 3) * 3)), some (0, ((0 + 1) + 1))]) c_12_16 rfl rfl rfl (n_goto c_12_19 (n_iload_n c_12_4 rfl (n_iload_n c_12_5 rfl ?_)))))
      refine n_if2_ge c_12_6 (by omega) (by omega) ?_ ?_
      · intro h9
        exfalso; omega
      · intro h10
        refine n_iload_n c_12_9 rfl (n_aload_n c_12_10 rfl (n_getV (bi := 0) c_12_11 sc_4.n rfl rfl rfl (t_4_0 hS) ?_))
        intro z11 ez11 f12
        obtain rfl : z11 = 3 := by omega
        refine n_imul c_12_14 rfl (n_istore_n (L2 := [some (2, 4), some (0, 4), some (0, (((1 * 3) * 3) * 3)), some (0, ((0 + 1) + 1))]) c_12_15 rfl rfl (n_iinc (L2 := [some (2, 4), some (0, 4), some (0, (((1 * 3) * 3) * 3)), some (0, (((0 + 1) + 1) + 1))]) c_12_16 rfl rfl rfl (n_goto c_12_19 (n_iload_n c_12_4 rfl (n_iload_n c_12_5 rfl ?_)))))
        refine n_if2_ge c_12_6 (by omega) (by omega) ?_ ?_
        · intro h13
          exfalso; omega
        · intro h14
          refine n_iload_n c_12_9 rfl (n_aload_n c_12_10 rfl (n_getV (bi := 0) c_12_11 sc_4.n rfl rfl rfl (t_4_0 hS) ?_))
          intro z15 ez15 f16
          obtain rfl : z15 = 3 := by omega
          refine n_imul c_12_14 rfl (n_istore_n (L2 := [some (2, 4), some (0, 4), some (0, ((((1 * 3) * 3) * 3) * 3)), some (0, (((0 + 1) + 1) + 1))]) c_12_15 rfl rfl (n_iinc (L2 := [some (2, 4), some (0, 4), some (0, ((((1 * 3) * 3) * 3) * 3)), some (0, ((((0 + 1) + 1) + 1) + 1))]) c_12_16 rfl rfl rfl (n_goto c_12_19 (n_iload_n c_12_4 rfl (n_iload_n c_12_5 rfl ?_)))))
          refine n_if2_ge c_12_6 (by omega) (by omega) ?_ ?_
          · intro h17
            refine n_iload_n c_12_22 rfl ?_
            exact n_rI c_12_23 rfl ⟨rfl, by omega⟩
          · intro h18
            exfalso; omega

set_option maxHeartbeats 4000000 in
theorem power5_3 {xs : List Int32} {e : Nat} {ac : Int} {M0 M : nM} (hS : Sf 3 ac M0 M)  : nW xs e 12 0 [some (2, 4), some (0, 5), none, none] [] M (nPI fun z M1 => M = M1 ∧ (243 ≤ z ∧ z ≤ 243)) := by
  have hd : (3 : Int) = 2 ∨ (3 : Int) = 3 := by decide
  have hac := hS.2.2.2.2
  refine n_iconst c_12_0 (n_istore_n (L2 := [some (2, 4), some (0, 5), some (0, 1), none]) c_12_1 rfl rfl (n_iconst c_12_2 (n_istore_n (L2 := [some (2, 4), some (0, 5), some (0, 1), some (0, 0)]) c_12_3 rfl rfl (n_iload_n c_12_4 rfl (n_iload_n c_12_5 rfl ?_)))))
  refine n_if2_ge c_12_6 (by omega) (by omega) ?_ ?_
  · intro h1
    exfalso; omega
  · intro h2
    refine n_iload_n c_12_9 rfl (n_aload_n c_12_10 rfl (n_getV (bi := 0) c_12_11 sc_4.n rfl rfl rfl (t_4_0 hS) ?_))
    intro z3 ez3 f4
    obtain rfl : z3 = 3 := by omega
    refine n_imul c_12_14 rfl (n_istore_n (L2 := [some (2, 4), some (0, 5), some (0, (1 * 3)), some (0, 0)]) c_12_15 rfl rfl (n_iinc (L2 := [some (2, 4), some (0, 5), some (0, (1 * 3)), some (0, (0 + 1))]) c_12_16 rfl rfl rfl (n_goto c_12_19 (n_iload_n c_12_4 rfl (n_iload_n c_12_5 rfl ?_)))))
    refine n_if2_ge c_12_6 (by omega) (by omega) ?_ ?_
    · intro h5
      exfalso; omega
    · intro h6
      refine n_iload_n c_12_9 rfl (n_aload_n c_12_10 rfl (n_getV (bi := 0) c_12_11 sc_4.n rfl rfl rfl (t_4_0 hS) ?_))
      intro z7 ez7 f8
      obtain rfl : z7 = 3 := by omega
      refine n_imul c_12_14 rfl (n_istore_n (L2 := [some (2, 4), some (0, 5), some (0, ((1 * 3) * 3)), some (0, (0 + 1))]) c_12_15 rfl rfl (n_iinc (L2 := [some (2, 4), some (0, 5), some (0, ((1 * 3) * 3)), some (0, ((0 + 1) + 1))]) c_12_16 rfl rfl rfl (n_goto c_12_19 (n_iload_n c_12_4 rfl (n_iload_n c_12_5 rfl ?_)))))
      refine n_if2_ge c_12_6 (by omega) (by omega) ?_ ?_
      · intro h9
        exfalso; omega
      · intro h10
        refine n_iload_n c_12_9 rfl (n_aload_n c_12_10 rfl (n_getV (bi := 0) c_12_11 sc_4.n rfl rfl rfl (t_4_0 hS) ?_))
        intro z11 ez11 f12
        obtain rfl : z11 = 3 := by omega
        refine n_imul c_12_14 rfl (n_istore_n (L2 := [some (2, 4), some (0, 5), some (0, (((1 * 3) * 3) * 3)), some (0, ((0 + 1) + 1))]) c_12_15 rfl rfl (n_iinc (L2 := [some (2, 4), some (0, 5), some (0, (((1 * 3) * 3) * 3)), some (0, (((0 + 1) + 1) + 1))]) c_12_16 rfl rfl rfl (n_goto c_12_19 (n_iload_n c_12_4 rfl (n_iload_n c_12_5 rfl ?_)))))
        refine n_if2_ge c_12_6 (by omega) (by omega) ?_ ?_
        · intro h13
          exfalso; omega
        · intro h14
          refine n_iload_n c_12_9 rfl (n_aload_n c_12_10 rfl (n_getV (bi := 0) c_12_11 sc_4.n rfl rfl rfl (t_4_0 hS) ?_))
          intro z15 ez15 f16
          obtain rfl : z15 = 3 := by omega
          refine n_imul c_12_14 rfl (n_istore_n (L2 := [some (2, 4), some (0, 5), some (0, ((((1 * 3) * 3) * 3) * 3)), some (0, (((0 + 1) + 1) + 1))]) c_12_15 rfl rfl (n_iinc (L2 := [some (2, 4), some (0, 5), some (0, ((((1 * 3) * 3) * 3) * 3)), some (0, ((((0 + 1) + 1) + 1) + 1))]) c_12_16 rfl rfl rfl (n_goto c_12_19 (n_iload_n c_12_4 rfl (n_iload_n c_12_5 rfl ?_)))))
          refine n_if2_ge c_12_6 (by omega) (by omega) ?_ ?_
          · intro h17
            exfalso; omega
          · intro h18
            refine n_iload_n c_12_9 rfl (n_aload_n c_12_10 rfl (n_getV (bi := 0) c_12_11 sc_4.n rfl rfl rfl (t_4_0 hS) ?_))
            intro z19 ez19 f20
            obtain rfl : z19 = 3 := by omega
            refine n_imul c_12_14 rfl (n_istore_n (L2 := [some (2, 4), some (0, 5), some (0, (((((1 * 3) * 3) * 3) * 3) * 3)), some (0, ((((0 + 1) + 1) + 1) + 1))]) c_12_15 rfl rfl (n_iinc (L2 := [some (2, 4), some (0, 5), some (0, (((((1 * 3) * 3) * 3) * 3) * 3)), some (0, (((((0 + 1) + 1) + 1) + 1) + 1))]) c_12_16 rfl rfl rfl (n_goto c_12_19 (n_iload_n c_12_4 rfl (n_iload_n c_12_5 rfl ?_)))))
            refine n_if2_ge c_12_6 (by omega) (by omega) ?_ ?_
            · intro h21
              refine n_iload_n c_12_22 rfl ?_
              exact n_rI c_12_23 rfl ⟨rfl, by omega⟩
            · intro h22
              exfalso; omega

set_option maxHeartbeats 4000000 in
theorem power6_3 {xs : List Int32} {e : Nat} {ac : Int} {M0 M : nM} (hS : Sf 3 ac M0 M)  : nW xs e 12 0 [some (2, 4), some (0, 6), none, none] [] M (nPI fun z M1 => M = M1 ∧ (729 ≤ z ∧ z ≤ 729)) := by
  have hd : (3 : Int) = 2 ∨ (3 : Int) = 3 := by decide
  have hac := hS.2.2.2.2
  refine n_iconst c_12_0 (n_istore_n (L2 := [some (2, 4), some (0, 6), some (0, 1), none]) c_12_1 rfl rfl (n_iconst c_12_2 (n_istore_n (L2 := [some (2, 4), some (0, 6), some (0, 1), some (0, 0)]) c_12_3 rfl rfl (n_iload_n c_12_4 rfl (n_iload_n c_12_5 rfl ?_)))))
  refine n_if2_ge c_12_6 (by omega) (by omega) ?_ ?_
  · intro h1
    exfalso; omega
  · intro h2
    refine n_iload_n c_12_9 rfl (n_aload_n c_12_10 rfl (n_getV (bi := 0) c_12_11 sc_4.n rfl rfl rfl (t_4_0 hS) ?_))
    intro z3 ez3 f4
    obtain rfl : z3 = 3 := by omega
    refine n_imul c_12_14 rfl (n_istore_n (L2 := [some (2, 4), some (0, 6), some (0, (1 * 3)), some (0, 0)]) c_12_15 rfl rfl (n_iinc (L2 := [some (2, 4), some (0, 6), some (0, (1 * 3)), some (0, (0 + 1))]) c_12_16 rfl rfl rfl (n_goto c_12_19 (n_iload_n c_12_4 rfl (n_iload_n c_12_5 rfl ?_)))))
    refine n_if2_ge c_12_6 (by omega) (by omega) ?_ ?_
    · intro h5
      exfalso; omega
    · intro h6
      refine n_iload_n c_12_9 rfl (n_aload_n c_12_10 rfl (n_getV (bi := 0) c_12_11 sc_4.n rfl rfl rfl (t_4_0 hS) ?_))
      intro z7 ez7 f8
      obtain rfl : z7 = 3 := by omega
      refine n_imul c_12_14 rfl (n_istore_n (L2 := [some (2, 4), some (0, 6), some (0, ((1 * 3) * 3)), some (0, (0 + 1))]) c_12_15 rfl rfl (n_iinc (L2 := [some (2, 4), some (0, 6), some (0, ((1 * 3) * 3)), some (0, ((0 + 1) + 1))]) c_12_16 rfl rfl rfl (n_goto c_12_19 (n_iload_n c_12_4 rfl (n_iload_n c_12_5 rfl ?_)))))
      refine n_if2_ge c_12_6 (by omega) (by omega) ?_ ?_
      · intro h9
        exfalso; omega
      · intro h10
        refine n_iload_n c_12_9 rfl (n_aload_n c_12_10 rfl (n_getV (bi := 0) c_12_11 sc_4.n rfl rfl rfl (t_4_0 hS) ?_))
        intro z11 ez11 f12
        obtain rfl : z11 = 3 := by omega
        refine n_imul c_12_14 rfl (n_istore_n (L2 := [some (2, 4), some (0, 6), some (0, (((1 * 3) * 3) * 3)), some (0, ((0 + 1) + 1))]) c_12_15 rfl rfl (n_iinc (L2 := [some (2, 4), some (0, 6), some (0, (((1 * 3) * 3) * 3)), some (0, (((0 + 1) + 1) + 1))]) c_12_16 rfl rfl rfl (n_goto c_12_19 (n_iload_n c_12_4 rfl (n_iload_n c_12_5 rfl ?_)))))
        refine n_if2_ge c_12_6 (by omega) (by omega) ?_ ?_
        · intro h13
          exfalso; omega
        · intro h14
          refine n_iload_n c_12_9 rfl (n_aload_n c_12_10 rfl (n_getV (bi := 0) c_12_11 sc_4.n rfl rfl rfl (t_4_0 hS) ?_))
          intro z15 ez15 f16
          obtain rfl : z15 = 3 := by omega
          refine n_imul c_12_14 rfl (n_istore_n (L2 := [some (2, 4), some (0, 6), some (0, ((((1 * 3) * 3) * 3) * 3)), some (0, (((0 + 1) + 1) + 1))]) c_12_15 rfl rfl (n_iinc (L2 := [some (2, 4), some (0, 6), some (0, ((((1 * 3) * 3) * 3) * 3)), some (0, ((((0 + 1) + 1) + 1) + 1))]) c_12_16 rfl rfl rfl (n_goto c_12_19 (n_iload_n c_12_4 rfl (n_iload_n c_12_5 rfl ?_)))))
          refine n_if2_ge c_12_6 (by omega) (by omega) ?_ ?_
          · intro h17
            exfalso; omega
          · intro h18
            refine n_iload_n c_12_9 rfl (n_aload_n c_12_10 rfl (n_getV (bi := 0) c_12_11 sc_4.n rfl rfl rfl (t_4_0 hS) ?_))
            intro z19 ez19 f20
            obtain rfl : z19 = 3 := by omega
            refine n_imul c_12_14 rfl (n_istore_n (L2 := [some (2, 4), some (0, 6), some (0, (((((1 * 3) * 3) * 3) * 3) * 3)), some (0, ((((0 + 1) + 1) + 1) + 1))]) c_12_15 rfl rfl (n_iinc (L2 := [some (2, 4), some (0, 6), some (0, (((((1 * 3) * 3) * 3) * 3) * 3)), some (0, (((((0 + 1) + 1) + 1) + 1) + 1))]) c_12_16 rfl rfl rfl (n_goto c_12_19 (n_iload_n c_12_4 rfl (n_iload_n c_12_5 rfl ?_)))))
            refine n_if2_ge c_12_6 (by omega) (by omega) ?_ ?_
            · intro h21
              exfalso; omega
            · intro h22
              refine n_iload_n c_12_9 rfl (n_aload_n c_12_10 rfl (n_getV (bi := 0) c_12_11 sc_4.n rfl rfl rfl (t_4_0 hS) ?_))
              intro z23 ez23 f24
              obtain rfl : z23 = 3 := by omega
              refine n_imul c_12_14 rfl (n_istore_n (L2 := [some (2, 4), some (0, 6), some (0, ((((((1 * 3) * 3) * 3) * 3) * 3) * 3)), some (0, (((((0 + 1) + 1) + 1) + 1) + 1))]) c_12_15 rfl rfl (n_iinc (L2 := [some (2, 4), some (0, 6), some (0, ((((((1 * 3) * 3) * 3) * 3) * 3) * 3)), some (0, ((((((0 + 1) + 1) + 1) + 1) + 1) + 1))]) c_12_16 rfl rfl rfl (n_goto c_12_19 (n_iload_n c_12_4 rfl (n_iload_n c_12_5 rfl ?_)))))
              refine n_if2_ge c_12_6 (by omega) (by omega) ?_ ?_
              · intro h25
                refine n_iload_n c_12_22 rfl ?_
                exact n_rI c_12_23 rfl ⟨rfl, by omega⟩
              · intro h26
                exfalso; omega

set_option maxHeartbeats 4000000 in
theorem power7_3 {xs : List Int32} {e : Nat} {ac : Int} {M0 M : nM} (hS : Sf 3 ac M0 M)  : nW xs e 12 0 [some (2, 4), some (0, 7), none, none] [] M (nPI fun z M1 => M = M1 ∧ (2187 ≤ z ∧ z ≤ 2187)) := by
  have hd : (3 : Int) = 2 ∨ (3 : Int) = 3 := by decide
  have hac := hS.2.2.2.2
  refine n_iconst c_12_0 (n_istore_n (L2 := [some (2, 4), some (0, 7), some (0, 1), none]) c_12_1 rfl rfl (n_iconst c_12_2 (n_istore_n (L2 := [some (2, 4), some (0, 7), some (0, 1), some (0, 0)]) c_12_3 rfl rfl (n_iload_n c_12_4 rfl (n_iload_n c_12_5 rfl ?_)))))
  refine n_if2_ge c_12_6 (by omega) (by omega) ?_ ?_
  · intro h1
    exfalso; omega
  · intro h2
    refine n_iload_n c_12_9 rfl (n_aload_n c_12_10 rfl (n_getV (bi := 0) c_12_11 sc_4.n rfl rfl rfl (t_4_0 hS) ?_))
    intro z3 ez3 f4
    obtain rfl : z3 = 3 := by omega
    refine n_imul c_12_14 rfl (n_istore_n (L2 := [some (2, 4), some (0, 7), some (0, (1 * 3)), some (0, 0)]) c_12_15 rfl rfl (n_iinc (L2 := [some (2, 4), some (0, 7), some (0, (1 * 3)), some (0, (0 + 1))]) c_12_16 rfl rfl rfl (n_goto c_12_19 (n_iload_n c_12_4 rfl (n_iload_n c_12_5 rfl ?_)))))
    refine n_if2_ge c_12_6 (by omega) (by omega) ?_ ?_
    · intro h5
      exfalso; omega
    · intro h6
      refine n_iload_n c_12_9 rfl (n_aload_n c_12_10 rfl (n_getV (bi := 0) c_12_11 sc_4.n rfl rfl rfl (t_4_0 hS) ?_))
      intro z7 ez7 f8
      obtain rfl : z7 = 3 := by omega
      refine n_imul c_12_14 rfl (n_istore_n (L2 := [some (2, 4), some (0, 7), some (0, ((1 * 3) * 3)), some (0, (0 + 1))]) c_12_15 rfl rfl (n_iinc (L2 := [some (2, 4), some (0, 7), some (0, ((1 * 3) * 3)), some (0, ((0 + 1) + 1))]) c_12_16 rfl rfl rfl (n_goto c_12_19 (n_iload_n c_12_4 rfl (n_iload_n c_12_5 rfl ?_)))))
      refine n_if2_ge c_12_6 (by omega) (by omega) ?_ ?_
      · intro h9
        exfalso; omega
      · intro h10
        refine n_iload_n c_12_9 rfl (n_aload_n c_12_10 rfl (n_getV (bi := 0) c_12_11 sc_4.n rfl rfl rfl (t_4_0 hS) ?_))
        intro z11 ez11 f12
        obtain rfl : z11 = 3 := by omega
        refine n_imul c_12_14 rfl (n_istore_n (L2 := [some (2, 4), some (0, 7), some (0, (((1 * 3) * 3) * 3)), some (0, ((0 + 1) + 1))]) c_12_15 rfl rfl (n_iinc (L2 := [some (2, 4), some (0, 7), some (0, (((1 * 3) * 3) * 3)), some (0, (((0 + 1) + 1) + 1))]) c_12_16 rfl rfl rfl (n_goto c_12_19 (n_iload_n c_12_4 rfl (n_iload_n c_12_5 rfl ?_)))))
        refine n_if2_ge c_12_6 (by omega) (by omega) ?_ ?_
        · intro h13
          exfalso; omega
        · intro h14
          refine n_iload_n c_12_9 rfl (n_aload_n c_12_10 rfl (n_getV (bi := 0) c_12_11 sc_4.n rfl rfl rfl (t_4_0 hS) ?_))
          intro z15 ez15 f16
          obtain rfl : z15 = 3 := by omega
          refine n_imul c_12_14 rfl (n_istore_n (L2 := [some (2, 4), some (0, 7), some (0, ((((1 * 3) * 3) * 3) * 3)), some (0, (((0 + 1) + 1) + 1))]) c_12_15 rfl rfl (n_iinc (L2 := [some (2, 4), some (0, 7), some (0, ((((1 * 3) * 3) * 3) * 3)), some (0, ((((0 + 1) + 1) + 1) + 1))]) c_12_16 rfl rfl rfl (n_goto c_12_19 (n_iload_n c_12_4 rfl (n_iload_n c_12_5 rfl ?_)))))
          refine n_if2_ge c_12_6 (by omega) (by omega) ?_ ?_
          · intro h17
            exfalso; omega
          · intro h18
            refine n_iload_n c_12_9 rfl (n_aload_n c_12_10 rfl (n_getV (bi := 0) c_12_11 sc_4.n rfl rfl rfl (t_4_0 hS) ?_))
            intro z19 ez19 f20
            obtain rfl : z19 = 3 := by omega
            refine n_imul c_12_14 rfl (n_istore_n (L2 := [some (2, 4), some (0, 7), some (0, (((((1 * 3) * 3) * 3) * 3) * 3)), some (0, ((((0 + 1) + 1) + 1) + 1))]) c_12_15 rfl rfl (n_iinc (L2 := [some (2, 4), some (0, 7), some (0, (((((1 * 3) * 3) * 3) * 3) * 3)), some (0, (((((0 + 1) + 1) + 1) + 1) + 1))]) c_12_16 rfl rfl rfl (n_goto c_12_19 (n_iload_n c_12_4 rfl (n_iload_n c_12_5 rfl ?_)))))
            refine n_if2_ge c_12_6 (by omega) (by omega) ?_ ?_
            · intro h21
              exfalso; omega
            · intro h22
              refine n_iload_n c_12_9 rfl (n_aload_n c_12_10 rfl (n_getV (bi := 0) c_12_11 sc_4.n rfl rfl rfl (t_4_0 hS) ?_))
              intro z23 ez23 f24
              obtain rfl : z23 = 3 := by omega
              refine n_imul c_12_14 rfl (n_istore_n (L2 := [some (2, 4), some (0, 7), some (0, ((((((1 * 3) * 3) * 3) * 3) * 3) * 3)), some (0, (((((0 + 1) + 1) + 1) + 1) + 1))]) c_12_15 rfl rfl (n_iinc (L2 := [some (2, 4), some (0, 7), some (0, ((((((1 * 3) * 3) * 3) * 3) * 3) * 3)), some (0, ((((((0 + 1) + 1) + 1) + 1) + 1) + 1))]) c_12_16 rfl rfl rfl (n_goto c_12_19 (n_iload_n c_12_4 rfl (n_iload_n c_12_5 rfl ?_)))))
              refine n_if2_ge c_12_6 (by omega) (by omega) ?_ ?_
              · intro h25
                exfalso; omega
              · intro h26
                refine n_iload_n c_12_9 rfl (n_aload_n c_12_10 rfl (n_getV (bi := 0) c_12_11 sc_4.n rfl rfl rfl (t_4_0 hS) ?_))
                intro z27 ez27 f28
                obtain rfl : z27 = 3 := by omega
                refine n_imul c_12_14 rfl (n_istore_n (L2 := [some (2, 4), some (0, 7), some (0, (((((((1 * 3) * 3) * 3) * 3) * 3) * 3) * 3)), some (0, ((((((0 + 1) + 1) + 1) + 1) + 1) + 1))]) c_12_15 rfl rfl (n_iinc (L2 := [some (2, 4), some (0, 7), some (0, (((((((1 * 3) * 3) * 3) * 3) * 3) * 3) * 3)), some (0, (((((((0 + 1) + 1) + 1) + 1) + 1) + 1) + 1))]) c_12_16 rfl rfl rfl (n_goto c_12_19 (n_iload_n c_12_4 rfl (n_iload_n c_12_5 rfl ?_)))))
                refine n_if2_ge c_12_6 (by omega) (by omega) ?_ ?_
                · intro h29
                  refine n_iload_n c_12_22 rfl ?_
                  exact n_rI c_12_23 rfl ⟨rfl, by omega⟩
                · intro h30
                  exfalso; omega

set_option maxHeartbeats 4000000 in
theorem power8_3 {xs : List Int32} {e : Nat} {ac : Int} {M0 M : nM} (hS : Sf 3 ac M0 M)  : nW xs e 12 0 [some (2, 4), some (0, 8), none, none] [] M (nPI fun z M1 => M = M1 ∧ (6561 ≤ z ∧ z ≤ 6561)) := by
  have hd : (3 : Int) = 2 ∨ (3 : Int) = 3 := by decide
  have hac := hS.2.2.2.2
  refine n_iconst c_12_0 (n_istore_n (L2 := [some (2, 4), some (0, 8), some (0, 1), none]) c_12_1 rfl rfl (n_iconst c_12_2 (n_istore_n (L2 := [some (2, 4), some (0, 8), some (0, 1), some (0, 0)]) c_12_3 rfl rfl (n_iload_n c_12_4 rfl (n_iload_n c_12_5 rfl ?_)))))
  refine n_if2_ge c_12_6 (by omega) (by omega) ?_ ?_
  · intro h1
    exfalso; omega
  · intro h2
    refine n_iload_n c_12_9 rfl (n_aload_n c_12_10 rfl (n_getV (bi := 0) c_12_11 sc_4.n rfl rfl rfl (t_4_0 hS) ?_))
    intro z3 ez3 f4
    obtain rfl : z3 = 3 := by omega
    refine n_imul c_12_14 rfl (n_istore_n (L2 := [some (2, 4), some (0, 8), some (0, (1 * 3)), some (0, 0)]) c_12_15 rfl rfl (n_iinc (L2 := [some (2, 4), some (0, 8), some (0, (1 * 3)), some (0, (0 + 1))]) c_12_16 rfl rfl rfl (n_goto c_12_19 (n_iload_n c_12_4 rfl (n_iload_n c_12_5 rfl ?_)))))
    refine n_if2_ge c_12_6 (by omega) (by omega) ?_ ?_
    · intro h5
      exfalso; omega
    · intro h6
      refine n_iload_n c_12_9 rfl (n_aload_n c_12_10 rfl (n_getV (bi := 0) c_12_11 sc_4.n rfl rfl rfl (t_4_0 hS) ?_))
      intro z7 ez7 f8
      obtain rfl : z7 = 3 := by omega
      refine n_imul c_12_14 rfl (n_istore_n (L2 := [some (2, 4), some (0, 8), some (0, ((1 * 3) * 3)), some (0, (0 + 1))]) c_12_15 rfl rfl (n_iinc (L2 := [some (2, 4), some (0, 8), some (0, ((1 * 3) * 3)), some (0, ((0 + 1) + 1))]) c_12_16 rfl rfl rfl (n_goto c_12_19 (n_iload_n c_12_4 rfl (n_iload_n c_12_5 rfl ?_)))))
      refine n_if2_ge c_12_6 (by omega) (by omega) ?_ ?_
      · intro h9
        exfalso; omega
      · intro h10
        refine n_iload_n c_12_9 rfl (n_aload_n c_12_10 rfl (n_getV (bi := 0) c_12_11 sc_4.n rfl rfl rfl (t_4_0 hS) ?_))
        intro z11 ez11 f12
        obtain rfl : z11 = 3 := by omega
        refine n_imul c_12_14 rfl (n_istore_n (L2 := [some (2, 4), some (0, 8), some (0, (((1 * 3) * 3) * 3)), some (0, ((0 + 1) + 1))]) c_12_15 rfl rfl (n_iinc (L2 := [some (2, 4), some (0, 8), some (0, (((1 * 3) * 3) * 3)), some (0, (((0 + 1) + 1) + 1))]) c_12_16 rfl rfl rfl (n_goto c_12_19 (n_iload_n c_12_4 rfl (n_iload_n c_12_5 rfl ?_)))))
        refine n_if2_ge c_12_6 (by omega) (by omega) ?_ ?_
        · intro h13
          exfalso; omega
        · intro h14
          refine n_iload_n c_12_9 rfl (n_aload_n c_12_10 rfl (n_getV (bi := 0) c_12_11 sc_4.n rfl rfl rfl (t_4_0 hS) ?_))
          intro z15 ez15 f16
          obtain rfl : z15 = 3 := by omega
          refine n_imul c_12_14 rfl (n_istore_n (L2 := [some (2, 4), some (0, 8), some (0, ((((1 * 3) * 3) * 3) * 3)), some (0, (((0 + 1) + 1) + 1))]) c_12_15 rfl rfl (n_iinc (L2 := [some (2, 4), some (0, 8), some (0, ((((1 * 3) * 3) * 3) * 3)), some (0, ((((0 + 1) + 1) + 1) + 1))]) c_12_16 rfl rfl rfl (n_goto c_12_19 (n_iload_n c_12_4 rfl (n_iload_n c_12_5 rfl ?_)))))
          refine n_if2_ge c_12_6 (by omega) (by omega) ?_ ?_
          · intro h17
            exfalso; omega
          · intro h18
            refine n_iload_n c_12_9 rfl (n_aload_n c_12_10 rfl (n_getV (bi := 0) c_12_11 sc_4.n rfl rfl rfl (t_4_0 hS) ?_))
            intro z19 ez19 f20
            obtain rfl : z19 = 3 := by omega
            refine n_imul c_12_14 rfl (n_istore_n (L2 := [some (2, 4), some (0, 8), some (0, (((((1 * 3) * 3) * 3) * 3) * 3)), some (0, ((((0 + 1) + 1) + 1) + 1))]) c_12_15 rfl rfl (n_iinc (L2 := [some (2, 4), some (0, 8), some (0, (((((1 * 3) * 3) * 3) * 3) * 3)), some (0, (((((0 + 1) + 1) + 1) + 1) + 1))]) c_12_16 rfl rfl rfl (n_goto c_12_19 (n_iload_n c_12_4 rfl (n_iload_n c_12_5 rfl ?_)))))
            refine n_if2_ge c_12_6 (by omega) (by omega) ?_ ?_
            · intro h21
              exfalso; omega
            · intro h22
              refine n_iload_n c_12_9 rfl (n_aload_n c_12_10 rfl (n_getV (bi := 0) c_12_11 sc_4.n rfl rfl rfl (t_4_0 hS) ?_))
              intro z23 ez23 f24
              obtain rfl : z23 = 3 := by omega
              refine n_imul c_12_14 rfl (n_istore_n (L2 := [some (2, 4), some (0, 8), some (0, ((((((1 * 3) * 3) * 3) * 3) * 3) * 3)), some (0, (((((0 + 1) + 1) + 1) + 1) + 1))]) c_12_15 rfl rfl (n_iinc (L2 := [some (2, 4), some (0, 8), some (0, ((((((1 * 3) * 3) * 3) * 3) * 3) * 3)), some (0, ((((((0 + 1) + 1) + 1) + 1) + 1) + 1))]) c_12_16 rfl rfl rfl (n_goto c_12_19 (n_iload_n c_12_4 rfl (n_iload_n c_12_5 rfl ?_)))))
              refine n_if2_ge c_12_6 (by omega) (by omega) ?_ ?_
              · intro h25
                exfalso; omega
              · intro h26
                refine n_iload_n c_12_9 rfl (n_aload_n c_12_10 rfl (n_getV (bi := 0) c_12_11 sc_4.n rfl rfl rfl (t_4_0 hS) ?_))
                intro z27 ez27 f28
                obtain rfl : z27 = 3 := by omega
                refine n_imul c_12_14 rfl (n_istore_n (L2 := [some (2, 4), some (0, 8), some (0, (((((((1 * 3) * 3) * 3) * 3) * 3) * 3) * 3)), some (0, ((((((0 + 1) + 1) + 1) + 1) + 1) + 1))]) c_12_15 rfl rfl (n_iinc (L2 := [some (2, 4), some (0, 8), some (0, (((((((1 * 3) * 3) * 3) * 3) * 3) * 3) * 3)), some (0, (((((((0 + 1) + 1) + 1) + 1) + 1) + 1) + 1))]) c_12_16 rfl rfl rfl (n_goto c_12_19 (n_iload_n c_12_4 rfl (n_iload_n c_12_5 rfl ?_)))))
                refine n_if2_ge c_12_6 (by omega) (by omega) ?_ ?_
                · intro h29
                  exfalso; omega
                · intro h30
                  refine n_iload_n c_12_9 rfl (n_aload_n c_12_10 rfl (n_getV (bi := 0) c_12_11 sc_4.n rfl rfl rfl (t_4_0 hS) ?_))
                  intro z31 ez31 f32
                  obtain rfl : z31 = 3 := by omega
                  refine n_imul c_12_14 rfl (n_istore_n (L2 := [some (2, 4), some (0, 8), some (0, ((((((((1 * 3) * 3) * 3) * 3) * 3) * 3) * 3) * 3)), some (0, (((((((0 + 1) + 1) + 1) + 1) + 1) + 1) + 1))]) c_12_15 rfl rfl (n_iinc (L2 := [some (2, 4), some (0, 8), some (0, ((((((((1 * 3) * 3) * 3) * 3) * 3) * 3) * 3) * 3)), some (0, ((((((((0 + 1) + 1) + 1) + 1) + 1) + 1) + 1) + 1))]) c_12_16 rfl rfl rfl (n_goto c_12_19 (n_iload_n c_12_4 rfl (n_iload_n c_12_5 rfl ?_)))))
                  refine n_if2_ge c_12_6 (by omega) (by omega) ?_ ?_
                  · intro h33
                    refine n_iload_n c_12_22 rfl ?_
                    exact n_rI c_12_23 rfl ⟨rfl, by omega⟩
                  · intro h34
                    exfalso; omega

set_option maxHeartbeats 4000000 in
theorem power9_3 {xs : List Int32} {e : Nat} {ac : Int} {M0 M : nM} (hS : Sf 3 ac M0 M)  : nW xs e 12 0 [some (2, 4), some (0, 9), none, none] [] M (nPI fun z M1 => M = M1 ∧ (19683 ≤ z ∧ z ≤ 19683)) := by
  have hd : (3 : Int) = 2 ∨ (3 : Int) = 3 := by decide
  have hac := hS.2.2.2.2
  refine n_iconst c_12_0 (n_istore_n (L2 := [some (2, 4), some (0, 9), some (0, 1), none]) c_12_1 rfl rfl (n_iconst c_12_2 (n_istore_n (L2 := [some (2, 4), some (0, 9), some (0, 1), some (0, 0)]) c_12_3 rfl rfl (n_iload_n c_12_4 rfl (n_iload_n c_12_5 rfl ?_)))))
  refine n_if2_ge c_12_6 (by omega) (by omega) ?_ ?_
  · intro h1
    exfalso; omega
  · intro h2
    refine n_iload_n c_12_9 rfl (n_aload_n c_12_10 rfl (n_getV (bi := 0) c_12_11 sc_4.n rfl rfl rfl (t_4_0 hS) ?_))
    intro z3 ez3 f4
    obtain rfl : z3 = 3 := by omega
    refine n_imul c_12_14 rfl (n_istore_n (L2 := [some (2, 4), some (0, 9), some (0, (1 * 3)), some (0, 0)]) c_12_15 rfl rfl (n_iinc (L2 := [some (2, 4), some (0, 9), some (0, (1 * 3)), some (0, (0 + 1))]) c_12_16 rfl rfl rfl (n_goto c_12_19 (n_iload_n c_12_4 rfl (n_iload_n c_12_5 rfl ?_)))))
    refine n_if2_ge c_12_6 (by omega) (by omega) ?_ ?_
    · intro h5
      exfalso; omega
    · intro h6
      refine n_iload_n c_12_9 rfl (n_aload_n c_12_10 rfl (n_getV (bi := 0) c_12_11 sc_4.n rfl rfl rfl (t_4_0 hS) ?_))
      intro z7 ez7 f8
      obtain rfl : z7 = 3 := by omega
      refine n_imul c_12_14 rfl (n_istore_n (L2 := [some (2, 4), some (0, 9), some (0, ((1 * 3) * 3)), some (0, (0 + 1))]) c_12_15 rfl rfl (n_iinc (L2 := [some (2, 4), some (0, 9), some (0, ((1 * 3) * 3)), some (0, ((0 + 1) + 1))]) c_12_16 rfl rfl rfl (n_goto c_12_19 (n_iload_n c_12_4 rfl (n_iload_n c_12_5 rfl ?_)))))
      refine n_if2_ge c_12_6 (by omega) (by omega) ?_ ?_
      · intro h9
        exfalso; omega
      · intro h10
        refine n_iload_n c_12_9 rfl (n_aload_n c_12_10 rfl (n_getV (bi := 0) c_12_11 sc_4.n rfl rfl rfl (t_4_0 hS) ?_))
        intro z11 ez11 f12
        obtain rfl : z11 = 3 := by omega
        refine n_imul c_12_14 rfl (n_istore_n (L2 := [some (2, 4), some (0, 9), some (0, (((1 * 3) * 3) * 3)), some (0, ((0 + 1) + 1))]) c_12_15 rfl rfl (n_iinc (L2 := [some (2, 4), some (0, 9), some (0, (((1 * 3) * 3) * 3)), some (0, (((0 + 1) + 1) + 1))]) c_12_16 rfl rfl rfl (n_goto c_12_19 (n_iload_n c_12_4 rfl (n_iload_n c_12_5 rfl ?_)))))
        refine n_if2_ge c_12_6 (by omega) (by omega) ?_ ?_
        · intro h13
          exfalso; omega
        · intro h14
          refine n_iload_n c_12_9 rfl (n_aload_n c_12_10 rfl (n_getV (bi := 0) c_12_11 sc_4.n rfl rfl rfl (t_4_0 hS) ?_))
          intro z15 ez15 f16
          obtain rfl : z15 = 3 := by omega
          refine n_imul c_12_14 rfl (n_istore_n (L2 := [some (2, 4), some (0, 9), some (0, ((((1 * 3) * 3) * 3) * 3)), some (0, (((0 + 1) + 1) + 1))]) c_12_15 rfl rfl (n_iinc (L2 := [some (2, 4), some (0, 9), some (0, ((((1 * 3) * 3) * 3) * 3)), some (0, ((((0 + 1) + 1) + 1) + 1))]) c_12_16 rfl rfl rfl (n_goto c_12_19 (n_iload_n c_12_4 rfl (n_iload_n c_12_5 rfl ?_)))))
          refine n_if2_ge c_12_6 (by omega) (by omega) ?_ ?_
          · intro h17
            exfalso; omega
          · intro h18
            refine n_iload_n c_12_9 rfl (n_aload_n c_12_10 rfl (n_getV (bi := 0) c_12_11 sc_4.n rfl rfl rfl (t_4_0 hS) ?_))
            intro z19 ez19 f20
            obtain rfl : z19 = 3 := by omega
            refine n_imul c_12_14 rfl (n_istore_n (L2 := [some (2, 4), some (0, 9), some (0, (((((1 * 3) * 3) * 3) * 3) * 3)), some (0, ((((0 + 1) + 1) + 1) + 1))]) c_12_15 rfl rfl (n_iinc (L2 := [some (2, 4), some (0, 9), some (0, (((((1 * 3) * 3) * 3) * 3) * 3)), some (0, (((((0 + 1) + 1) + 1) + 1) + 1))]) c_12_16 rfl rfl rfl (n_goto c_12_19 (n_iload_n c_12_4 rfl (n_iload_n c_12_5 rfl ?_)))))
            refine n_if2_ge c_12_6 (by omega) (by omega) ?_ ?_
            · intro h21
              exfalso; omega
            · intro h22
              refine n_iload_n c_12_9 rfl (n_aload_n c_12_10 rfl (n_getV (bi := 0) c_12_11 sc_4.n rfl rfl rfl (t_4_0 hS) ?_))
              intro z23 ez23 f24
              obtain rfl : z23 = 3 := by omega
              refine n_imul c_12_14 rfl (n_istore_n (L2 := [some (2, 4), some (0, 9), some (0, ((((((1 * 3) * 3) * 3) * 3) * 3) * 3)), some (0, (((((0 + 1) + 1) + 1) + 1) + 1))]) c_12_15 rfl rfl (n_iinc (L2 := [some (2, 4), some (0, 9), some (0, ((((((1 * 3) * 3) * 3) * 3) * 3) * 3)), some (0, ((((((0 + 1) + 1) + 1) + 1) + 1) + 1))]) c_12_16 rfl rfl rfl (n_goto c_12_19 (n_iload_n c_12_4 rfl (n_iload_n c_12_5 rfl ?_)))))
              refine n_if2_ge c_12_6 (by omega) (by omega) ?_ ?_
              · intro h25
                exfalso; omega
              · intro h26
                refine n_iload_n c_12_9 rfl (n_aload_n c_12_10 rfl (n_getV (bi := 0) c_12_11 sc_4.n rfl rfl rfl (t_4_0 hS) ?_))
                intro z27 ez27 f28
                obtain rfl : z27 = 3 := by omega
                refine n_imul c_12_14 rfl (n_istore_n (L2 := [some (2, 4), some (0, 9), some (0, (((((((1 * 3) * 3) * 3) * 3) * 3) * 3) * 3)), some (0, ((((((0 + 1) + 1) + 1) + 1) + 1) + 1))]) c_12_15 rfl rfl (n_iinc (L2 := [some (2, 4), some (0, 9), some (0, (((((((1 * 3) * 3) * 3) * 3) * 3) * 3) * 3)), some (0, (((((((0 + 1) + 1) + 1) + 1) + 1) + 1) + 1))]) c_12_16 rfl rfl rfl (n_goto c_12_19 (n_iload_n c_12_4 rfl (n_iload_n c_12_5 rfl ?_)))))
                refine n_if2_ge c_12_6 (by omega) (by omega) ?_ ?_
                · intro h29
                  exfalso; omega
                · intro h30
                  refine n_iload_n c_12_9 rfl (n_aload_n c_12_10 rfl (n_getV (bi := 0) c_12_11 sc_4.n rfl rfl rfl (t_4_0 hS) ?_))
                  intro z31 ez31 f32
                  obtain rfl : z31 = 3 := by omega
                  refine n_imul c_12_14 rfl (n_istore_n (L2 := [some (2, 4), some (0, 9), some (0, ((((((((1 * 3) * 3) * 3) * 3) * 3) * 3) * 3) * 3)), some (0, (((((((0 + 1) + 1) + 1) + 1) + 1) + 1) + 1))]) c_12_15 rfl rfl (n_iinc (L2 := [some (2, 4), some (0, 9), some (0, ((((((((1 * 3) * 3) * 3) * 3) * 3) * 3) * 3) * 3)), some (0, ((((((((0 + 1) + 1) + 1) + 1) + 1) + 1) + 1) + 1))]) c_12_16 rfl rfl rfl (n_goto c_12_19 (n_iload_n c_12_4 rfl (n_iload_n c_12_5 rfl ?_)))))
                  refine n_if2_ge c_12_6 (by omega) (by omega) ?_ ?_
                  · intro h33
                    exfalso; omega
                  · intro h34
                    refine n_iload_n c_12_9 rfl (n_aload_n c_12_10 rfl (n_getV (bi := 0) c_12_11 sc_4.n rfl rfl rfl (t_4_0 hS) ?_))
                    intro z35 ez35 f36
                    obtain rfl : z35 = 3 := by omega
                    refine n_imul c_12_14 rfl (n_istore_n (L2 := [some (2, 4), some (0, 9), some (0, (((((((((1 * 3) * 3) * 3) * 3) * 3) * 3) * 3) * 3) * 3)), some (0, ((((((((0 + 1) + 1) + 1) + 1) + 1) + 1) + 1) + 1))]) c_12_15 rfl rfl (n_iinc (L2 := [some (2, 4), some (0, 9), some (0, (((((((((1 * 3) * 3) * 3) * 3) * 3) * 3) * 3) * 3) * 3)), some (0, (((((((((0 + 1) + 1) + 1) + 1) + 1) + 1) + 1) + 1) + 1))]) c_12_16 rfl rfl rfl (n_goto c_12_19 (n_iload_n c_12_4 rfl (n_iload_n c_12_5 rfl ?_)))))
                    refine n_if2_ge c_12_6 (by omega) (by omega) ?_ ?_
                    · intro h37
                      refine n_iload_n c_12_22 rfl ?_
                      exact n_rI c_12_23 rfl ⟨rfl, by omega⟩
                    · intro h38
                      exfalso; omega

set_option maxHeartbeats 4000000 in
theorem powerU_3 {xs : List Int32} {e : Nat} {ac : Int} {M0 M : nM} {n : Int} (hS : Sf 3 ac M0 M) (hn : 0 ≤ n ∧ n ≤ 3) : nW xs e 12 0 [some (2, 4), some (0, n), none, none] [] M (nPI fun z M1 => M = M1 ∧ (1 ≤ z ∧ z ≤ 27)) := by
  rcases (show n = 0 ∨ n = 1 ∨ n = 2 ∨ n = 3 by omega) with rfl | rfl | rfl | rfl
  · exact n_post (power0_3 hS ) (fun w M1 h => by obtain ⟨z, rfl, h1, h2⟩ := h; exact ⟨z, rfl, h1, by omega⟩)
  · exact n_post (power1_3 hS ) (fun w M1 h => by obtain ⟨z, rfl, h1, h2⟩ := h; exact ⟨z, rfl, h1, by omega⟩)
  · exact n_post (power2_3 hS ) (fun w M1 h => by obtain ⟨z, rfl, h1, h2⟩ := h; exact ⟨z, rfl, h1, by omega⟩)
  · exact n_post (power3_3 hS ) (fun w M1 h => by obtain ⟨z, rfl, h1, h2⟩ := h; exact ⟨z, rfl, h1, by omega⟩)

set_option maxHeartbeats 4000000 in
theorem isMadeOf_3_c {xs : List Int32} {e : Nat} {ac : Int} {M0 M : nM} {n : Int} (hS : Sf 3 ac M0 M) (hn : -2147483648 ≤ n ∧ n ≤ 2147483647) : ∀ nn : Nat, (1 < (nn : Int) → nW xs e 13 26 [none, none] [] M (nPI fun z M1 => M = M1 ∧ (0 ≤ z ∧ z ≤ 1) ∧ (z = 0 ∨ (1 ≤ n ∧ n ≤ 2)))) := by
  have hd : (3 : Int) = 2 ∨ (3 : Int) = 3 := by decide
  have hac := hS.2.2.2.2
  intro nn
  induction nn with
  | zero => intros; omega
  | succ nn ih =>
    intro hnn
    refine n_iconst c_13_26 ?_
    exact n_rZ c_13_27 rfl (by omega) ⟨rfl, by omega, by omega⟩
set_option maxHeartbeats 4000000 in
theorem isMadeOf_3 {xs : List Int32} {e : Nat} {ac : Int} {M0 M : nM} {n : Int} (hS : Sf 3 ac M0 M) (hn : -2147483648 ≤ n ∧ n ≤ 2147483647) : nW xs e 13 0 [some (2, 4), some (0, n)] [] M (nPI fun z M1 => M = M1 ∧ (0 ≤ z ∧ z ≤ 1) ∧ (z = 0 ∨ (1 ≤ n ∧ n ≤ 2))) := by
  have hd : (3 : Int) = 2 ∨ (3 : Int) = 3 := by decide
  have hac := hS.2.2.2.2
  refine n_iload_n c_13_0 rfl (n_iconst c_13_1 ?_)
  refine n_if2_lt c_13_2 (by omega) (by omega) ?_ ?_
  · intro h1
    refine n_fg (le_n (le_n le_0)) ?_
    exact (isMadeOf_3_c hS hn 12)   (by omega)
  · intro h2
    refine n_iload_n c_13_5 rfl (n_aload_n c_13_6 rfl (n_getV (bi := 0) c_13_7 sc_4.n rfl rfl rfl (t_4_0 hS) ?_))
    intro z3 ez3 f4
    obtain rfl : z3 = 3 := by omega
    refine n_iconst c_13_10 ?_
    refine n_if2_ne c_13_11 (by omega) (by omega) ?_ ?_
    · intro h5
      refine n_iconst c_13_18 ?_
      refine n_if2_gt c_13_19 (by omega) (by omega) ?_ ?_
      · intro h6
        refine n_fg (le_n (le_n le_0)) ?_
        exact (isMadeOf_3_c hS hn 12)   (by omega)
      · intro h7
        refine n_iconst c_13_22 (n_goto c_13_23 ?_)
        exact n_rZ c_13_27 rfl (by omega) ⟨rfl, by omega, by omega⟩
    · intro h8
      exfalso; omega

set_option maxHeartbeats 4000000 in
theorem codes1_3 {xs : List Int32} {e : Nat} {ac : Int} {M0 M : nM} (hS : Sf 3 ac M0 M)  : nW xs (e + 1) 14 0 [some (2, 4), some (0, 1)] [] M (nPI fun z M1 => M = M1 ∧ (27 ≤ z ∧ z ≤ 27)) := by
  have hd : (3 : Int) = 2 ∨ (3 : Int) = 3 := by decide
  have hac := hS.2.2.2.2
  refine n_aload_n c_14_0 rfl (n_aload_n c_14_1 rfl (n_iload_n c_14_2 rfl (n_v1I c_14_3 rfl sc_4.n rfl rfl rfl rfl (power1_3  hS ) ?_)))
  intro z1 M2 hP3
  obtain ⟨eM, f3⟩ := hP3
  subst eM
  obtain rfl : z1 = 3 := by omega
  refine n_v1I c_14_6 rfl sc_4.n rfl rfl rfl rfl (power3_3  hS ) ?_
  intro z4 M5 hP6
  obtain ⟨eM, f6⟩ := hP6
  subst eM
  obtain rfl : z4 = 27 := by omega
  exact n_rI c_14_9 rfl ⟨rfl, by omega⟩

set_option maxHeartbeats 4000000 in
theorem codes2_3 {xs : List Int32} {e : Nat} {ac : Int} {M0 M : nM} (hS : Sf 3 ac M0 M)  : nW xs (e + 1) 14 0 [some (2, 4), some (0, 2)] [] M (nPI fun z M1 => M = M1 ∧ (19683 ≤ z ∧ z ≤ 19683)) := by
  have hd : (3 : Int) = 2 ∨ (3 : Int) = 3 := by decide
  have hac := hS.2.2.2.2
  refine n_aload_n c_14_0 rfl (n_aload_n c_14_1 rfl (n_iload_n c_14_2 rfl (n_v1I c_14_3 rfl sc_4.n rfl rfl rfl rfl (power2_3  hS ) ?_)))
  intro z1 M2 hP3
  obtain ⟨eM, f3⟩ := hP3
  subst eM
  obtain rfl : z1 = 9 := by omega
  refine n_v1I c_14_6 rfl sc_4.n rfl rfl rfl rfl (power9_3  hS ) ?_
  intro z4 M5 hP6
  obtain ⟨eM, f6⟩ := hP6
  subst eM
  obtain rfl : z4 = 19683 := by omega
  exact n_rI c_14_9 rfl ⟨rfl, by omega⟩

set_option maxHeartbeats 4000000 in
theorem allThings_3 {xs : List Int32} {e : Nat} {ac : Int} {M0 M : nM} (hS : Sf 3 ac M0 M)  : nW xs e 15 0 [some (2, 4)] [] M (nPI fun z M1 => M = M1 ∧ (7 ≤ z ∧ z ≤ 7)) := by
  have hd : (3 : Int) = 2 ∨ (3 : Int) = 3 := by decide
  have hac := hS.2.2.2.2
  refine n_iconst c_15_0 (n_aload_n c_15_1 rfl (n_getV (bi := 0) c_15_2 sc_4.n rfl rfl rfl (t_4_0 hS) ?_))
  intro z1 ez1 f2
  obtain rfl : z1 = 3 := by omega
  refine n_i_ishl (z := 8) c_15_5 (by decide) ?_
  refine n_iconst c_15_6 (n_isub c_15_7 rfl ?_)
  exact n_rI c_15_8 rfl ⟨rfl, by omega⟩

set_option maxHeartbeats 4000000 in
theorem thingsOf_3_c {xs : List Int32} {e : Nat} {ac : Int} {M0 M : nM} {r p : Int} (hS : Sf 3 ac M0 M) (hr : 0 ≤ r ∧ r ≤ 26) (hp : 0 ≤ p ∧ p ≤ 3) : ∀ nn : Nat, (∀ (x3 : Int), (0 ≤ x3 ∧ x3 ≤ 7) → 2 < (nn : Int) → nW xs e 16 25 [some (2, 4), some (0, r), some (0, p), some (0, x3)] [] M (nPI fun z M1 => M = M1 ∧ (-2147483648 ≤ z ∧ z ≤ 2147483647))) ∧ (∀ (x3 : Int), (0 ≤ x3 ∧ x3 ≤ 7) → 1 < (nn : Int) → nW xs e 16 41 [none, none, none, some (0, x3)] [] M (nPI fun z M1 => M = M1 ∧ (-2147483648 ≤ z ∧ z ≤ 2147483647))) := by
  have hd : (3 : Int) = 2 ∨ (3 : Int) = 3 := by decide
  have hac := hS.2.2.2.2
  intro nn
  induction nn with
  | zero => refine ⟨?_, ?_⟩ <;> (intros; omega)
  | succ nn ih =>
    refine ⟨?_, ?_⟩
    · intro x3 k3 hnn
      refine n_iload_n c_16_25 rfl (n_iconst c_16_26 ?_)
      refine n_if2_le c_16_27 (by omega) (by omega) ?_ ?_
      · intro h1
        refine n_fg (le_n (le_n (le_n (le_s le_0)))) ?_
        exact ih.2 _ (by omega) (by omega)
      · intro h2
        refine n_iload_n c_16_30 rfl (n_iconst c_16_31 (n_aload_n c_16_32 rfl (n_getR c_16_33 sc_4.n rfl rfl rfl r_4_2 (n_iload_n c_16_36 rfl (n_ialoadV c_16_37 sc_5.n rfl rfl rfl (by omega) (t_5d hS hd (by omega) (by omega)) ?_)))))
        intro z3 ez3 f4
        refine n_i_ishl c_16_38 rfl ?_
        have f5 := n_shl_1 (y := z3) (a := 0) (b := 2) (by decide) (by omega)
        generalize (n_shl 1 z3) = z6 at f5 ⊢
        refine n_i_ior c_16_39 rfl ?_
        have f7 := n_or_k (x := x3) (y := z6) (n := 3) (by decide) (by omega) (by omega)
        generalize (n_or x3 z6) = z8 at f7 ⊢
        refine n_istore_n (L2 := [some (2, 4), some (0, r), some (0, p), some (0, z8)]) c_16_40 rfl rfl (n_fg (le_n (le_n (le_n (le_s le_0)))) ?_)
        exact ih.2 _ (by omega) (by omega)
    · intro x3 k3 hnn
      refine n_iload_n c_16_41 rfl ?_
      exact n_rI c_16_42 rfl ⟨rfl, by omega⟩
set_option maxHeartbeats 4000000 in
theorem thingsOf_3 {xs : List Int32} {e : Nat} {ac : Int} {M0 M : nM} {r p : Int} (hS : Sf 3 ac M0 M) (hr : 0 ≤ r ∧ r ≤ 26) (hp : 0 ≤ p ∧ p ≤ 3) : nW xs e 16 0 [some (2, 4), some (0, r), some (0, p), none] [] M (nPI fun z M1 => M = M1 ∧ (-2147483648 ≤ z ∧ z ≤ 2147483647)) := by
  have hd : (3 : Int) = 2 ∨ (3 : Int) = 3 := by decide
  have hac := hS.2.2.2.2
  refine n_iconst c_16_0 (n_aload_n c_16_1 rfl (n_getR c_16_2 sc_4.n rfl rfl rfl r_4_4 (n_iload_n c_16_5 rfl (n_ialoadV c_16_6 sc_7.n rfl rfl rfl (by omega) (t_7d hS hd (by omega) (by omega)) ?_))))
  intro z1 ez1 f2
  refine n_i_ishl c_16_7 rfl ?_
  have f3 := n_shl_1 (y := z1) (a := 0) (b := 2) (by decide) (by omega)
  generalize (n_shl 1 z1) = z4 at f3 ⊢
  refine n_istore_n (L2 := [some (2, 4), some (0, r), some (0, p), some (0, z4)]) c_16_8 rfl rfl (n_iload_n c_16_9 rfl (n_iconst c_16_10 ?_))
  refine n_if2_le c_16_11 (by omega) (by omega) ?_ ?_
  · intro h5
    refine n_fg (le_s (le_s (le_s (le_s le_0)))) ?_
    exact (thingsOf_3_c hS hr hp 14).1 _ (by omega) (by omega)
  · intro h6
    refine n_iload_n c_16_14 rfl (n_iconst c_16_15 (n_aload_n c_16_16 rfl (n_getR c_16_17 sc_4.n rfl rfl rfl r_4_3 (n_iload_n c_16_20 rfl (n_ialoadV c_16_21 sc_6.n rfl rfl rfl (by omega) (t_6d hS hd (by omega) (by omega)) ?_)))))
    intro z7 ez7 f8
    refine n_i_ishl c_16_22 rfl ?_
    have f9 := n_shl_1 (y := z7) (a := 0) (b := 2) (by decide) (by omega)
    generalize (n_shl 1 z7) = z10 at f9 ⊢
    refine n_i_ior c_16_23 rfl ?_
    have f11 := n_or_k (x := z4) (y := z10) (n := 3) (by decide) (by omega) (by omega)
    generalize (n_or z4 z10) = z12 at f11 ⊢
    refine n_istore_n (L2 := [some (2, 4), some (0, r), some (0, p), some (0, z12)]) c_16_24 rfl rfl (n_fg (le_s (le_s (le_s (le_s le_0)))) ?_)
    exact (thingsOf_3_c hS hr hp 14).1 _ (by omega) (by omega)

set_option maxHeartbeats 4000000 in
theorem widen0_3 {xs : List Int32} {e : Nat} {ac : Int} {M0 M : nM} {n : Int} (hS : Sf 3 ac M0 M) (hn : 0 ≤ n ∧ n ≤ 0) : nW xs e 17 0 [some (2, 4), some (0, n), some (0, 0), none, none] [] M (nPI fun z M1 => M = M1 ∧ (0 ≤ z ∧ z ≤ 26)) := by
  have hd : (3 : Int) = 2 ∨ (3 : Int) = 3 := by decide
  have hac := hS.2.2.2.2
  refine n_iload_n c_17_0 rfl (n_istore_n (L2 := [some (2, 4), some (0, n), some (0, 0), some (0, n), none]) c_17_1 rfl rfl (n_iload_n c_17_2 rfl (n_istore (L2 := [some (2, 4), some (0, n), some (0, 0), some (0, n), some (0, 0)]) c_17_3 rfl rfl (n_iload c_17_5 rfl (n_iconst c_17_7 ?_)))))
  refine n_if2_ge c_17_8 (by omega) (by omega) ?_ ?_
  · intro h1
    exfalso; omega
  · intro h2
    refine n_iload_n c_17_11 rfl (n_aload_n c_17_12 rfl (n_getV (bi := 0) c_17_13 sc_4.n rfl rfl rfl (t_4_0 hS) ?_))
    intro z3 ez3 f4
    obtain rfl : z3 = 3 := by omega
    refine n_imul c_17_16 rfl (n_aload_n c_17_17 rfl (n_getR c_17_18 sc_4.n rfl rfl rfl r_4_4 (n_iload_n c_17_21 rfl (n_ialoadV c_17_22 sc_7.n rfl rfl rfl (by omega) (t_7k (z := 0) hS (by omega) (by omega) (by omega)) ?_))))
    intro z5 ez5 f6
    refine n_iadd c_17_23 rfl (n_istore_n (L2 := [some (2, 4), some (0, n), some (0, 0), some (0, ((n * 3) + z5)), some (0, 0)]) c_17_24 rfl rfl (n_iinc (L2 := [some (2, 4), some (0, n), some (0, 0), some (0, ((n * 3) + z5)), some (0, (0 + 1))]) c_17_25 rfl rfl rfl (n_goto c_17_28 (n_iload c_17_5 rfl (n_iconst c_17_7 ?_)))))
    refine n_if2_ge c_17_8 (by omega) (by omega) ?_ ?_
    · intro h7
      exfalso; omega
    · intro h8
      refine n_iload_n c_17_11 rfl (n_aload_n c_17_12 rfl (n_getV (bi := 0) c_17_13 sc_4.n rfl rfl rfl (t_4_0 hS) ?_))
      intro z9 ez9 f10
      obtain rfl : z9 = 3 := by omega
      refine n_imul c_17_16 rfl (n_aload_n c_17_17 rfl (n_getR c_17_18 sc_4.n rfl rfl rfl r_4_4 (n_iload_n c_17_21 rfl (n_ialoadV c_17_22 sc_7.n rfl rfl rfl (by omega) (t_7k (z := 0) hS (by omega) (by omega) (by omega)) ?_))))
      intro z11 ez11 f12
      refine n_iadd c_17_23 rfl (n_istore_n (L2 := [some (2, 4), some (0, n), some (0, 0), some (0, ((((n * 3) + z5) * 3) + z11)), some (0, (0 + 1))]) c_17_24 rfl rfl (n_iinc (L2 := [some (2, 4), some (0, n), some (0, 0), some (0, ((((n * 3) + z5) * 3) + z11)), some (0, ((0 + 1) + 1))]) c_17_25 rfl rfl rfl (n_goto c_17_28 (n_iload c_17_5 rfl (n_iconst c_17_7 ?_)))))
      refine n_if2_ge c_17_8 (by omega) (by omega) ?_ ?_
      · intro h13
        exfalso; omega
      · intro h14
        refine n_iload_n c_17_11 rfl (n_aload_n c_17_12 rfl (n_getV (bi := 0) c_17_13 sc_4.n rfl rfl rfl (t_4_0 hS) ?_))
        intro z15 ez15 f16
        obtain rfl : z15 = 3 := by omega
        refine n_imul c_17_16 rfl (n_aload_n c_17_17 rfl (n_getR c_17_18 sc_4.n rfl rfl rfl r_4_4 (n_iload_n c_17_21 rfl (n_ialoadV c_17_22 sc_7.n rfl rfl rfl (by omega) (t_7k (z := 0) hS (by omega) (by omega) (by omega)) ?_))))
        intro z17 ez17 f18
        refine n_iadd c_17_23 rfl (n_istore_n (L2 := [some (2, 4), some (0, n), some (0, 0), some (0, ((((((n * 3) + z5) * 3) + z11) * 3) + z17)), some (0, ((0 + 1) + 1))]) c_17_24 rfl rfl (n_iinc (L2 := [some (2, 4), some (0, n), some (0, 0), some (0, ((((((n * 3) + z5) * 3) + z11) * 3) + z17)), some (0, (((0 + 1) + 1) + 1))]) c_17_25 rfl rfl rfl (n_goto c_17_28 (n_iload c_17_5 rfl (n_iconst c_17_7 ?_)))))
        refine n_if2_ge c_17_8 (by omega) (by omega) ?_ ?_
        · intro h19
          refine n_iload_n c_17_31 rfl ?_
          exact n_rI c_17_32 rfl ⟨rfl, by omega⟩
        · intro h20
          exfalso; omega

set_option maxHeartbeats 4000000 in
theorem widen1_3 {xs : List Int32} {e : Nat} {ac : Int} {M0 M : nM} {n : Int} (hS : Sf 3 ac M0 M) (hn : 0 ≤ n ∧ n ≤ 2) : nW xs e 17 0 [some (2, 4), some (0, n), some (0, 1), none, none] [] M (nPI fun z M1 => M = M1 ∧ (0 ≤ z ∧ z ≤ 26)) := by
  have hd : (3 : Int) = 2 ∨ (3 : Int) = 3 := by decide
  have hac := hS.2.2.2.2
  refine n_iload_n c_17_0 rfl (n_istore_n (L2 := [some (2, 4), some (0, n), some (0, 1), some (0, n), none]) c_17_1 rfl rfl (n_iload_n c_17_2 rfl (n_istore (L2 := [some (2, 4), some (0, n), some (0, 1), some (0, n), some (0, 1)]) c_17_3 rfl rfl (n_iload c_17_5 rfl (n_iconst c_17_7 ?_)))))
  refine n_if2_ge c_17_8 (by omega) (by omega) ?_ ?_
  · intro h1
    exfalso; omega
  · intro h2
    refine n_iload_n c_17_11 rfl (n_aload_n c_17_12 rfl (n_getV (bi := 0) c_17_13 sc_4.n rfl rfl rfl (t_4_0 hS) ?_))
    intro z3 ez3 f4
    obtain rfl : z3 = 3 := by omega
    refine n_imul c_17_16 rfl (n_aload_n c_17_17 rfl (n_getR c_17_18 sc_4.n rfl rfl rfl r_4_4 (n_iload_n c_17_21 rfl (n_ialoadV c_17_22 sc_7.n rfl rfl rfl (by omega) (t_7d hS hd (by omega) (by omega)) ?_))))
    intro z5 ez5 f6
    refine n_iadd c_17_23 rfl (n_istore_n (L2 := [some (2, 4), some (0, n), some (0, 1), some (0, ((n * 3) + z5)), some (0, 1)]) c_17_24 rfl rfl (n_iinc (L2 := [some (2, 4), some (0, n), some (0, 1), some (0, ((n * 3) + z5)), some (0, (1 + 1))]) c_17_25 rfl rfl rfl (n_goto c_17_28 (n_iload c_17_5 rfl (n_iconst c_17_7 ?_)))))
    refine n_if2_ge c_17_8 (by omega) (by omega) ?_ ?_
    · intro h7
      exfalso; omega
    · intro h8
      refine n_iload_n c_17_11 rfl (n_aload_n c_17_12 rfl (n_getV (bi := 0) c_17_13 sc_4.n rfl rfl rfl (t_4_0 hS) ?_))
      intro z9 ez9 f10
      obtain rfl : z9 = 3 := by omega
      refine n_imul c_17_16 rfl (n_aload_n c_17_17 rfl (n_getR c_17_18 sc_4.n rfl rfl rfl r_4_4 (n_iload_n c_17_21 rfl (n_ialoadV c_17_22 sc_7.n rfl rfl rfl (by omega) (t_7d hS hd (by omega) (by omega)) ?_))))
      intro z11 ez11 f12
      refine n_iadd c_17_23 rfl (n_istore_n (L2 := [some (2, 4), some (0, n), some (0, 1), some (0, ((((n * 3) + z5) * 3) + z11)), some (0, (1 + 1))]) c_17_24 rfl rfl (n_iinc (L2 := [some (2, 4), some (0, n), some (0, 1), some (0, ((((n * 3) + z5) * 3) + z11)), some (0, ((1 + 1) + 1))]) c_17_25 rfl rfl rfl (n_goto c_17_28 (n_iload c_17_5 rfl (n_iconst c_17_7 ?_)))))
      refine n_if2_ge c_17_8 (by omega) (by omega) ?_ ?_
      · intro h13
        refine n_iload_n c_17_31 rfl ?_
        exact n_rI c_17_32 rfl ⟨rfl, by omega⟩
      · intro h14
        exfalso; omega

set_option maxHeartbeats 4000000 in
theorem widen2_3 {xs : List Int32} {e : Nat} {ac : Int} {M0 M : nM} {n : Int} (hS : Sf 3 ac M0 M) (hn : 0 ≤ n ∧ n ≤ 8) : nW xs e 17 0 [some (2, 4), some (0, n), some (0, 2), none, none] [] M (nPI fun z M1 => M = M1 ∧ (0 ≤ z ∧ z ≤ 26)) := by
  have hd : (3 : Int) = 2 ∨ (3 : Int) = 3 := by decide
  have hac := hS.2.2.2.2
  refine n_iload_n c_17_0 rfl (n_istore_n (L2 := [some (2, 4), some (0, n), some (0, 2), some (0, n), none]) c_17_1 rfl rfl (n_iload_n c_17_2 rfl (n_istore (L2 := [some (2, 4), some (0, n), some (0, 2), some (0, n), some (0, 2)]) c_17_3 rfl rfl (n_iload c_17_5 rfl (n_iconst c_17_7 ?_)))))
  refine n_if2_ge c_17_8 (by omega) (by omega) ?_ ?_
  · intro h1
    exfalso; omega
  · intro h2
    refine n_iload_n c_17_11 rfl (n_aload_n c_17_12 rfl (n_getV (bi := 0) c_17_13 sc_4.n rfl rfl rfl (t_4_0 hS) ?_))
    intro z3 ez3 f4
    obtain rfl : z3 = 3 := by omega
    refine n_imul c_17_16 rfl (n_aload_n c_17_17 rfl (n_getR c_17_18 sc_4.n rfl rfl rfl r_4_4 (n_iload_n c_17_21 rfl (n_ialoadV c_17_22 sc_7.n rfl rfl rfl (by omega) (t_7d hS hd (by omega) (by omega)) ?_))))
    intro z5 ez5 f6
    refine n_iadd c_17_23 rfl (n_istore_n (L2 := [some (2, 4), some (0, n), some (0, 2), some (0, ((n * 3) + z5)), some (0, 2)]) c_17_24 rfl rfl (n_iinc (L2 := [some (2, 4), some (0, n), some (0, 2), some (0, ((n * 3) + z5)), some (0, (2 + 1))]) c_17_25 rfl rfl rfl (n_goto c_17_28 (n_iload c_17_5 rfl (n_iconst c_17_7 ?_)))))
    refine n_if2_ge c_17_8 (by omega) (by omega) ?_ ?_
    · intro h7
      refine n_iload_n c_17_31 rfl ?_
      exact n_rI c_17_32 rfl ⟨rfl, by omega⟩
    · intro h8
      exfalso; omega

set_option maxHeartbeats 4000000 in
theorem widen3_3 {xs : List Int32} {e : Nat} {ac : Int} {M0 M : nM} {n : Int} (hS : Sf 3 ac M0 M) (hn : 0 ≤ n ∧ n ≤ 26) : nW xs e 17 0 [some (2, 4), some (0, n), some (0, 3), none, none] [] M (nPI fun z M1 => M = M1 ∧ (0 ≤ z ∧ z ≤ 26)) := by
  have hd : (3 : Int) = 2 ∨ (3 : Int) = 3 := by decide
  have hac := hS.2.2.2.2
  refine n_iload_n c_17_0 rfl (n_istore_n (L2 := [some (2, 4), some (0, n), some (0, 3), some (0, n), none]) c_17_1 rfl rfl (n_iload_n c_17_2 rfl (n_istore (L2 := [some (2, 4), some (0, n), some (0, 3), some (0, n), some (0, 3)]) c_17_3 rfl rfl (n_iload c_17_5 rfl (n_iconst c_17_7 ?_)))))
  refine n_if2_ge c_17_8 (by omega) (by omega) ?_ ?_
  · intro h1
    refine n_iload_n c_17_31 rfl ?_
    exact n_rI c_17_32 rfl ⟨rfl, by omega⟩
  · intro h2
    exfalso; omega

set_option maxHeartbeats 4000000 in
theorem widenW_3_c {xs : List Int32} {e : Nat} {ac : Int} {M0 M : nM} {n p : Int} (hS : Sf 3 ac M0 M) (hn : 0 ≤ n ∧ n ≤ 26) (hp : 0 ≤ p ∧ p ≤ 3) : ∀ nn : Nat, (∀ (x3 x4 : Int), (-2147483648 ≤ x3 ∧ x3 ≤ 2147483647) → (0 ≤ x4 ∧ x4 ≤ 3) → (3 - x4) * 1 + 1 < (nn : Int) → nW xs e 17 5 [some (2, 4), some (0, n), none, some (0, x3), some (0, x4)] [] M (nPI fun z M1 => M = M1 ∧ (-2147483648 ≤ z ∧ z ≤ 2147483647))) := by
  have hd : (3 : Int) = 2 ∨ (3 : Int) = 3 := by decide
  have hac := hS.2.2.2.2
  intro nn
  induction nn with
  | zero => intros; omega
  | succ nn ih =>
    intro x3 x4 k3 k4 hnn
    refine n_iload c_17_5 rfl (n_iconst c_17_7 ?_)
    refine n_if2_ge c_17_8 (by omega) (by omega) ?_ ?_
    · intro h1
      refine n_iload_n c_17_31 rfl ?_
      exact n_rI c_17_32 rfl ⟨rfl, by omega⟩
    · intro h2
      refine n_iload_n c_17_11 rfl (n_aload_n c_17_12 rfl (n_getV (bi := 0) c_17_13 sc_4.n rfl rfl rfl (t_4_0 hS) ?_))
      intro z3 ez3 f4
      obtain rfl : z3 = 3 := by omega
      refine n_imul c_17_16 rfl (n_wrap ?_)
      have f5 := n_wr_r (x3 * 3)
      generalize n_wr (x3 * 3) = z6 at f5 ⊢
      refine n_aload_n c_17_17 rfl (n_getR c_17_18 sc_4.n rfl rfl rfl r_4_4 (n_iload_n c_17_21 rfl (n_ialoadV c_17_22 sc_7.n rfl rfl rfl (by omega) (t_7d hS hd (by omega) (by omega)) ?_)))
      intro z7 ez7 f8
      refine n_iadd c_17_23 rfl (n_wrap ?_)
      have f9 := n_wr_r (z6 + z7)
      generalize n_wr (z6 + z7) = z10 at f9 ⊢
      refine n_istore_n (L2 := [some (2, 4), some (0, n), none, some (0, z10), some (0, x4)]) c_17_24 rfl rfl (n_iinc (L2 := [some (2, 4), some (0, n), none, some (0, z10), some (0, (x4 + 1))]) c_17_25 rfl rfl rfl (n_goto c_17_28 (n_fg (le_s (le_s (le_n (le_s (le_s le_0))))) ?_)))
      exact ih _ _ (by omega) (by omega) (by omega)
set_option maxHeartbeats 4000000 in
theorem widenW_3 {xs : List Int32} {e : Nat} {ac : Int} {M0 M : nM} {n p : Int} (hS : Sf 3 ac M0 M) (hn : 0 ≤ n ∧ n ≤ 26) (hp : 0 ≤ p ∧ p ≤ 3) : nW xs e 17 0 [some (2, 4), some (0, n), some (0, p), none, none] [] M (nPI fun z M1 => M = M1 ∧ (-2147483648 ≤ z ∧ z ≤ 2147483647)) := by
  have hd : (3 : Int) = 2 ∨ (3 : Int) = 3 := by decide
  have hac := hS.2.2.2.2
  refine n_iload_n c_17_0 rfl (n_istore_n (L2 := [some (2, 4), some (0, n), some (0, p), some (0, n), none]) c_17_1 rfl rfl (n_iload_n c_17_2 rfl (n_istore (L2 := [some (2, 4), some (0, n), some (0, p), some (0, n), some (0, p)]) c_17_3 rfl rfl (n_fg (le_s (le_s (le_n (le_s (le_s le_0))))) ?_))))
  exact (widenW_3_c hS hn hp 20) _ _ (by omega) (by omega) (by omega)

set_option maxHeartbeats 4000000 in
theorem threeOf0_3 {xs : List Int32} {e : Nat} {ac : Int} {M0 M : nM} {c : Int} (hS : Sf 3 ac M0 M) (hc : 0 ≤ c ∧ c ≤ 19682) : nW xs e 18 0 [some (2, 4), some (0, c), some (0, 0), none, none, none, none] [] M (nPI fun z M1 => M = M1 ∧ (0 ≤ z ∧ z ≤ 26)) := by
  have hd : (3 : Int) = 2 ∨ (3 : Int) = 3 := by decide
  have hac := hS.2.2.2.2
  refine n_iload_n c_18_0 rfl (n_istore_n (L2 := [some (2, 4), some (0, c), some (0, 0), some (0, c), none, none, none]) c_18_1 rfl rfl (n_iconst c_18_2 (n_istore (L2 := [some (2, 4), some (0, c), some (0, 0), some (0, c), some (0, 0), none, none]) c_18_3 rfl rfl (n_iconst c_18_5 (n_istore (L2 := [some (2, 4), some (0, c), some (0, 0), some (0, c), some (0, 0), some (0, 0), none]) c_18_6 rfl rfl (n_iload c_18_8 rfl (n_iload_n c_18_10 rfl (n_iconst c_18_11 (n_iadd c_18_12 rfl ?_)))))))))
  refine n_if2_ge c_18_13 (by omega) (by omega) ?_ ?_
  · intro h1
    exfalso; omega
  · intro h2
    refine n_aload_n c_18_16 rfl (n_getV (bi := 0) c_18_17 sc_4.n rfl rfl rfl (t_4_0 hS) ?_)
    intro z3 ez3 f4
    obtain rfl : z3 = 3 := by omega
    refine n_iconst c_18_20 ?_
    refine n_if2_ne c_18_21 (by omega) (by omega) ?_ ?_
    · intro h5
      refine n_iload_n c_18_30 rfl (n_iconst c_18_31 (n_iremV c_18_32 (by omega) (by omega) ?_))
      intro z6 _ f7
      refine n_istore (L2 := [some (2, 4), some (0, c), some (0, 0), some (0, c), some (0, 0), some (0, 0), some (0, z6)]) c_18_33 rfl rfl (n_aload_n c_18_35 rfl (n_getV (bi := 0) c_18_36 sc_4.n rfl rfl rfl (t_4_0 hS) ?_))
      intro z8 ez8 f9
      obtain rfl : z8 = 3 := by omega
      refine n_iconst c_18_39 ?_
      refine n_if2_ne c_18_40 (by omega) (by omega) ?_ ?_
      · intro h10
        refine n_iload_n c_18_49 rfl (n_iconst c_18_50 (n_idivV c_18_51 (by omega) (by omega) ?_))
        intro z11 _ f12
        refine n_istore_n (L2 := [some (2, 4), some (0, c), some (0, 0), some (0, z11), some (0, 0), some (0, 0), some (0, z6)]) c_18_52 rfl rfl (n_iload c_18_53 rfl (n_iload_n c_18_55 rfl ?_))
        refine n_if2_lt c_18_56 (by omega) (by omega) ?_ ?_
        · intro h13
          exfalso; omega
        · intro h14
          refine n_iload c_18_59 rfl (n_aload_n c_18_61 rfl (n_getV (bi := 0) c_18_62 sc_4.n rfl rfl rfl (t_4_0 hS) ?_))
          intro z15 ez15 f16
          obtain rfl : z15 = 3 := by omega
          refine n_imul c_18_65 rfl (n_iload c_18_66 rfl (n_iadd c_18_68 rfl (n_istore (L2 := [some (2, 4), some (0, c), some (0, 0), some (0, z11), some (0, ((0 * 3) + z6)), some (0, 0), some (0, z6)]) c_18_69 rfl rfl (n_iinc (L2 := [some (2, 4), some (0, c), some (0, 0), some (0, z11), some (0, ((0 * 3) + z6)), some (0, (0 + 1)), some (0, z6)]) c_18_71 rfl rfl rfl (n_goto c_18_74 (n_iload c_18_8 rfl (n_iload_n c_18_10 rfl (n_iconst c_18_11 (n_iadd c_18_12 rfl ?_)))))))))
          refine n_if2_ge c_18_13 (by omega) (by omega) ?_ ?_
          · intro h17
            exfalso; omega
          · intro h18
            refine n_aload_n c_18_16 rfl (n_getV (bi := 0) c_18_17 sc_4.n rfl rfl rfl (t_4_0 hS) ?_)
            intro z19 ez19 f20
            obtain rfl : z19 = 3 := by omega
            refine n_iconst c_18_20 ?_
            refine n_if2_ne c_18_21 (by omega) (by omega) ?_ ?_
            · intro h21
              refine n_iload_n c_18_30 rfl (n_iconst c_18_31 (n_iremV c_18_32 (by omega) (by omega) ?_))
              intro z22 _ f23
              refine n_istore (L2 := [some (2, 4), some (0, c), some (0, 0), some (0, z11), some (0, ((0 * 3) + z6)), some (0, (0 + 1)), some (0, z22)]) c_18_33 rfl rfl (n_aload_n c_18_35 rfl (n_getV (bi := 0) c_18_36 sc_4.n rfl rfl rfl (t_4_0 hS) ?_))
              intro z24 ez24 f25
              obtain rfl : z24 = 3 := by omega
              refine n_iconst c_18_39 ?_
              refine n_if2_ne c_18_40 (by omega) (by omega) ?_ ?_
              · intro h26
                refine n_iload_n c_18_49 rfl (n_iconst c_18_50 (n_idivV c_18_51 (by omega) (by omega) ?_))
                intro z27 _ f28
                refine n_istore_n (L2 := [some (2, 4), some (0, c), some (0, 0), some (0, z27), some (0, ((0 * 3) + z6)), some (0, (0 + 1)), some (0, z22)]) c_18_52 rfl rfl (n_iload c_18_53 rfl (n_iload_n c_18_55 rfl ?_))
                refine n_if2_lt c_18_56 (by omega) (by omega) ?_ ?_
                · intro h29
                  exfalso; omega
                · intro h30
                  refine n_iload c_18_59 rfl (n_aload_n c_18_61 rfl (n_getV (bi := 0) c_18_62 sc_4.n rfl rfl rfl (t_4_0 hS) ?_))
                  intro z31 ez31 f32
                  obtain rfl : z31 = 3 := by omega
                  refine n_imul c_18_65 rfl (n_iload c_18_66 rfl (n_iadd c_18_68 rfl (n_istore (L2 := [some (2, 4), some (0, c), some (0, 0), some (0, z27), some (0, ((((0 * 3) + z6) * 3) + z22)), some (0, (0 + 1)), some (0, z22)]) c_18_69 rfl rfl (n_iinc (L2 := [some (2, 4), some (0, c), some (0, 0), some (0, z27), some (0, ((((0 * 3) + z6) * 3) + z22)), some (0, ((0 + 1) + 1)), some (0, z22)]) c_18_71 rfl rfl rfl (n_goto c_18_74 (n_iload c_18_8 rfl (n_iload_n c_18_10 rfl (n_iconst c_18_11 (n_iadd c_18_12 rfl ?_)))))))))
                  refine n_if2_ge c_18_13 (by omega) (by omega) ?_ ?_
                  · intro h33
                    exfalso; omega
                  · intro h34
                    refine n_aload_n c_18_16 rfl (n_getV (bi := 0) c_18_17 sc_4.n rfl rfl rfl (t_4_0 hS) ?_)
                    intro z35 ez35 f36
                    obtain rfl : z35 = 3 := by omega
                    refine n_iconst c_18_20 ?_
                    refine n_if2_ne c_18_21 (by omega) (by omega) ?_ ?_
                    · intro h37
                      refine n_iload_n c_18_30 rfl (n_iconst c_18_31 (n_iremV c_18_32 (by omega) (by omega) ?_))
                      intro z38 _ f39
                      refine n_istore (L2 := [some (2, 4), some (0, c), some (0, 0), some (0, z27), some (0, ((((0 * 3) + z6) * 3) + z22)), some (0, ((0 + 1) + 1)), some (0, z38)]) c_18_33 rfl rfl (n_aload_n c_18_35 rfl (n_getV (bi := 0) c_18_36 sc_4.n rfl rfl rfl (t_4_0 hS) ?_))
                      intro z40 ez40 f41
                      obtain rfl : z40 = 3 := by omega
                      refine n_iconst c_18_39 ?_
                      refine n_if2_ne c_18_40 (by omega) (by omega) ?_ ?_
                      · intro h42
                        refine n_iload_n c_18_49 rfl (n_iconst c_18_50 (n_idivV c_18_51 (by omega) (by omega) ?_))
                        intro z43 _ f44
                        refine n_istore_n (L2 := [some (2, 4), some (0, c), some (0, 0), some (0, z43), some (0, ((((0 * 3) + z6) * 3) + z22)), some (0, ((0 + 1) + 1)), some (0, z38)]) c_18_52 rfl rfl (n_iload c_18_53 rfl (n_iload_n c_18_55 rfl ?_))
                        refine n_if2_lt c_18_56 (by omega) (by omega) ?_ ?_
                        · intro h45
                          exfalso; omega
                        · intro h46
                          refine n_iload c_18_59 rfl (n_aload_n c_18_61 rfl (n_getV (bi := 0) c_18_62 sc_4.n rfl rfl rfl (t_4_0 hS) ?_))
                          intro z47 ez47 f48
                          obtain rfl : z47 = 3 := by omega
                          refine n_imul c_18_65 rfl (n_iload c_18_66 rfl (n_iadd c_18_68 rfl (n_istore (L2 := [some (2, 4), some (0, c), some (0, 0), some (0, z43), some (0, ((((((0 * 3) + z6) * 3) + z22) * 3) + z38)), some (0, ((0 + 1) + 1)), some (0, z38)]) c_18_69 rfl rfl (n_iinc (L2 := [some (2, 4), some (0, c), some (0, 0), some (0, z43), some (0, ((((((0 * 3) + z6) * 3) + z22) * 3) + z38)), some (0, (((0 + 1) + 1) + 1)), some (0, z38)]) c_18_71 rfl rfl rfl (n_goto c_18_74 (n_iload c_18_8 rfl (n_iload_n c_18_10 rfl (n_iconst c_18_11 (n_iadd c_18_12 rfl ?_)))))))))
                          refine n_if2_ge c_18_13 (by omega) (by omega) ?_ ?_
                          · intro h49
                            refine n_iload c_18_77 rfl ?_
                            exact n_rI c_18_79 rfl ⟨rfl, by omega⟩
                          · intro h50
                            exfalso; omega
                      · intro h51
                        exfalso; omega
                    · intro h52
                      exfalso; omega
              · intro h53
                exfalso; omega
            · intro h54
              exfalso; omega
      · intro h55
        exfalso; omega
    · intro h56
      exfalso; omega

set_option maxHeartbeats 4000000 in
theorem threeOf3_3 {xs : List Int32} {e : Nat} {ac : Int} {M0 M : nM} {c : Int} (hS : Sf 3 ac M0 M) (hc : 0 ≤ c ∧ c ≤ 19682) : nW xs e 18 0 [some (2, 4), some (0, c), some (0, 3), none, none, none, none] [] M (nPI fun z M1 => M = M1 ∧ (0 ≤ z ∧ z ≤ 26)) := by
  have hd : (3 : Int) = 2 ∨ (3 : Int) = 3 := by decide
  have hac := hS.2.2.2.2
  refine n_iload_n c_18_0 rfl (n_istore_n (L2 := [some (2, 4), some (0, c), some (0, 3), some (0, c), none, none, none]) c_18_1 rfl rfl (n_iconst c_18_2 (n_istore (L2 := [some (2, 4), some (0, c), some (0, 3), some (0, c), some (0, 0), none, none]) c_18_3 rfl rfl (n_iconst c_18_5 (n_istore (L2 := [some (2, 4), some (0, c), some (0, 3), some (0, c), some (0, 0), some (0, 0), none]) c_18_6 rfl rfl (n_iload c_18_8 rfl (n_iload_n c_18_10 rfl (n_iconst c_18_11 (n_iadd c_18_12 rfl ?_)))))))))
  refine n_if2_ge c_18_13 (by omega) (by omega) ?_ ?_
  · intro h1
    exfalso; omega
  · intro h2
    refine n_aload_n c_18_16 rfl (n_getV (bi := 0) c_18_17 sc_4.n rfl rfl rfl (t_4_0 hS) ?_)
    intro z3 ez3 f4
    obtain rfl : z3 = 3 := by omega
    refine n_iconst c_18_20 ?_
    refine n_if2_ne c_18_21 (by omega) (by omega) ?_ ?_
    · intro h5
      refine n_iload_n c_18_30 rfl (n_iconst c_18_31 (n_iremV c_18_32 (by omega) (by omega) ?_))
      intro z6 _ f7
      refine n_istore (L2 := [some (2, 4), some (0, c), some (0, 3), some (0, c), some (0, 0), some (0, 0), some (0, z6)]) c_18_33 rfl rfl (n_aload_n c_18_35 rfl (n_getV (bi := 0) c_18_36 sc_4.n rfl rfl rfl (t_4_0 hS) ?_))
      intro z8 ez8 f9
      obtain rfl : z8 = 3 := by omega
      refine n_iconst c_18_39 ?_
      refine n_if2_ne c_18_40 (by omega) (by omega) ?_ ?_
      · intro h10
        refine n_iload_n c_18_49 rfl (n_iconst c_18_50 (n_idivV c_18_51 (by omega) (by omega) ?_))
        intro z11 _ f12
        refine n_istore_n (L2 := [some (2, 4), some (0, c), some (0, 3), some (0, z11), some (0, 0), some (0, 0), some (0, z6)]) c_18_52 rfl rfl (n_iload c_18_53 rfl (n_iload_n c_18_55 rfl ?_))
        refine n_if2_lt c_18_56 (by omega) (by omega) ?_ ?_
        · intro h13
          refine n_iinc (L2 := [some (2, 4), some (0, c), some (0, 3), some (0, z11), some (0, 0), some (0, (0 + 1)), some (0, z6)]) c_18_71 rfl rfl rfl (n_goto c_18_74 (n_iload c_18_8 rfl (n_iload_n c_18_10 rfl (n_iconst c_18_11 (n_iadd c_18_12 rfl ?_)))))
          refine n_if2_ge c_18_13 (by omega) (by omega) ?_ ?_
          · intro h14
            exfalso; omega
          · intro h15
            refine n_aload_n c_18_16 rfl (n_getV (bi := 0) c_18_17 sc_4.n rfl rfl rfl (t_4_0 hS) ?_)
            intro z16 ez16 f17
            obtain rfl : z16 = 3 := by omega
            refine n_iconst c_18_20 ?_
            refine n_if2_ne c_18_21 (by omega) (by omega) ?_ ?_
            · intro h18
              refine n_iload_n c_18_30 rfl (n_iconst c_18_31 (n_iremV c_18_32 (by omega) (by omega) ?_))
              intro z19 _ f20
              refine n_istore (L2 := [some (2, 4), some (0, c), some (0, 3), some (0, z11), some (0, 0), some (0, (0 + 1)), some (0, z19)]) c_18_33 rfl rfl (n_aload_n c_18_35 rfl (n_getV (bi := 0) c_18_36 sc_4.n rfl rfl rfl (t_4_0 hS) ?_))
              intro z21 ez21 f22
              obtain rfl : z21 = 3 := by omega
              refine n_iconst c_18_39 ?_
              refine n_if2_ne c_18_40 (by omega) (by omega) ?_ ?_
              · intro h23
                refine n_iload_n c_18_49 rfl (n_iconst c_18_50 (n_idivV c_18_51 (by omega) (by omega) ?_))
                intro z24 _ f25
                refine n_istore_n (L2 := [some (2, 4), some (0, c), some (0, 3), some (0, z24), some (0, 0), some (0, (0 + 1)), some (0, z19)]) c_18_52 rfl rfl (n_iload c_18_53 rfl (n_iload_n c_18_55 rfl ?_))
                refine n_if2_lt c_18_56 (by omega) (by omega) ?_ ?_
                · intro h26
                  refine n_iinc (L2 := [some (2, 4), some (0, c), some (0, 3), some (0, z24), some (0, 0), some (0, ((0 + 1) + 1)), some (0, z19)]) c_18_71 rfl rfl rfl (n_goto c_18_74 (n_iload c_18_8 rfl (n_iload_n c_18_10 rfl (n_iconst c_18_11 (n_iadd c_18_12 rfl ?_)))))
                  refine n_if2_ge c_18_13 (by omega) (by omega) ?_ ?_
                  · intro h27
                    exfalso; omega
                  · intro h28
                    refine n_aload_n c_18_16 rfl (n_getV (bi := 0) c_18_17 sc_4.n rfl rfl rfl (t_4_0 hS) ?_)
                    intro z29 ez29 f30
                    obtain rfl : z29 = 3 := by omega
                    refine n_iconst c_18_20 ?_
                    refine n_if2_ne c_18_21 (by omega) (by omega) ?_ ?_
                    · intro h31
                      refine n_iload_n c_18_30 rfl (n_iconst c_18_31 (n_iremV c_18_32 (by omega) (by omega) ?_))
                      intro z32 _ f33
                      refine n_istore (L2 := [some (2, 4), some (0, c), some (0, 3), some (0, z24), some (0, 0), some (0, ((0 + 1) + 1)), some (0, z32)]) c_18_33 rfl rfl (n_aload_n c_18_35 rfl (n_getV (bi := 0) c_18_36 sc_4.n rfl rfl rfl (t_4_0 hS) ?_))
                      intro z34 ez34 f35
                      obtain rfl : z34 = 3 := by omega
                      refine n_iconst c_18_39 ?_
                      refine n_if2_ne c_18_40 (by omega) (by omega) ?_ ?_
                      · intro h36
                        refine n_iload_n c_18_49 rfl (n_iconst c_18_50 (n_idivV c_18_51 (by omega) (by omega) ?_))
                        intro z37 _ f38
                        refine n_istore_n (L2 := [some (2, 4), some (0, c), some (0, 3), some (0, z37), some (0, 0), some (0, ((0 + 1) + 1)), some (0, z32)]) c_18_52 rfl rfl (n_iload c_18_53 rfl (n_iload_n c_18_55 rfl ?_))
                        refine n_if2_lt c_18_56 (by omega) (by omega) ?_ ?_
                        · intro h39
                          refine n_iinc (L2 := [some (2, 4), some (0, c), some (0, 3), some (0, z37), some (0, 0), some (0, (((0 + 1) + 1) + 1)), some (0, z32)]) c_18_71 rfl rfl rfl (n_goto c_18_74 (n_iload c_18_8 rfl (n_iload_n c_18_10 rfl (n_iconst c_18_11 (n_iadd c_18_12 rfl ?_)))))
                          refine n_if2_ge c_18_13 (by omega) (by omega) ?_ ?_
                          · intro h40
                            exfalso; omega
                          · intro h41
                            refine n_aload_n c_18_16 rfl (n_getV (bi := 0) c_18_17 sc_4.n rfl rfl rfl (t_4_0 hS) ?_)
                            intro z42 ez42 f43
                            obtain rfl : z42 = 3 := by omega
                            refine n_iconst c_18_20 ?_
                            refine n_if2_ne c_18_21 (by omega) (by omega) ?_ ?_
                            · intro h44
                              refine n_iload_n c_18_30 rfl (n_iconst c_18_31 (n_iremV c_18_32 (by omega) (by omega) ?_))
                              intro z45 _ f46
                              refine n_istore (L2 := [some (2, 4), some (0, c), some (0, 3), some (0, z37), some (0, 0), some (0, (((0 + 1) + 1) + 1)), some (0, z45)]) c_18_33 rfl rfl (n_aload_n c_18_35 rfl (n_getV (bi := 0) c_18_36 sc_4.n rfl rfl rfl (t_4_0 hS) ?_))
                              intro z47 ez47 f48
                              obtain rfl : z47 = 3 := by omega
                              refine n_iconst c_18_39 ?_
                              refine n_if2_ne c_18_40 (by omega) (by omega) ?_ ?_
                              · intro h49
                                refine n_iload_n c_18_49 rfl (n_iconst c_18_50 (n_idivV c_18_51 (by omega) (by omega) ?_))
                                intro z50 _ f51
                                refine n_istore_n (L2 := [some (2, 4), some (0, c), some (0, 3), some (0, z50), some (0, 0), some (0, (((0 + 1) + 1) + 1)), some (0, z45)]) c_18_52 rfl rfl (n_iload c_18_53 rfl (n_iload_n c_18_55 rfl ?_))
                                refine n_if2_lt c_18_56 (by omega) (by omega) ?_ ?_
                                · intro h52
                                  exfalso; omega
                                · intro h53
                                  refine n_iload c_18_59 rfl (n_aload_n c_18_61 rfl (n_getV (bi := 0) c_18_62 sc_4.n rfl rfl rfl (t_4_0 hS) ?_))
                                  intro z54 ez54 f55
                                  obtain rfl : z54 = 3 := by omega
                                  refine n_imul c_18_65 rfl (n_iload c_18_66 rfl (n_iadd c_18_68 rfl (n_istore (L2 := [some (2, 4), some (0, c), some (0, 3), some (0, z50), some (0, ((0 * 3) + z45)), some (0, (((0 + 1) + 1) + 1)), some (0, z45)]) c_18_69 rfl rfl (n_iinc (L2 := [some (2, 4), some (0, c), some (0, 3), some (0, z50), some (0, ((0 * 3) + z45)), some (0, ((((0 + 1) + 1) + 1) + 1)), some (0, z45)]) c_18_71 rfl rfl rfl (n_goto c_18_74 (n_iload c_18_8 rfl (n_iload_n c_18_10 rfl (n_iconst c_18_11 (n_iadd c_18_12 rfl ?_)))))))))
                                  refine n_if2_ge c_18_13 (by omega) (by omega) ?_ ?_
                                  · intro h56
                                    exfalso; omega
                                  · intro h57
                                    refine n_aload_n c_18_16 rfl (n_getV (bi := 0) c_18_17 sc_4.n rfl rfl rfl (t_4_0 hS) ?_)
                                    intro z58 ez58 f59
                                    obtain rfl : z58 = 3 := by omega
                                    refine n_iconst c_18_20 ?_
                                    refine n_if2_ne c_18_21 (by omega) (by omega) ?_ ?_
                                    · intro h60
                                      refine n_iload_n c_18_30 rfl (n_iconst c_18_31 (n_iremV c_18_32 (by omega) (by omega) ?_))
                                      intro z61 _ f62
                                      refine n_istore (L2 := [some (2, 4), some (0, c), some (0, 3), some (0, z50), some (0, ((0 * 3) + z45)), some (0, ((((0 + 1) + 1) + 1) + 1)), some (0, z61)]) c_18_33 rfl rfl (n_aload_n c_18_35 rfl (n_getV (bi := 0) c_18_36 sc_4.n rfl rfl rfl (t_4_0 hS) ?_))
                                      intro z63 ez63 f64
                                      obtain rfl : z63 = 3 := by omega
                                      refine n_iconst c_18_39 ?_
                                      refine n_if2_ne c_18_40 (by omega) (by omega) ?_ ?_
                                      · intro h65
                                        refine n_iload_n c_18_49 rfl (n_iconst c_18_50 (n_idivV c_18_51 (by omega) (by omega) ?_))
                                        intro z66 _ f67
                                        refine n_istore_n (L2 := [some (2, 4), some (0, c), some (0, 3), some (0, z66), some (0, ((0 * 3) + z45)), some (0, ((((0 + 1) + 1) + 1) + 1)), some (0, z61)]) c_18_52 rfl rfl (n_iload c_18_53 rfl (n_iload_n c_18_55 rfl ?_))
                                        refine n_if2_lt c_18_56 (by omega) (by omega) ?_ ?_
                                        · intro h68
                                          exfalso; omega
                                        · intro h69
                                          refine n_iload c_18_59 rfl (n_aload_n c_18_61 rfl (n_getV (bi := 0) c_18_62 sc_4.n rfl rfl rfl (t_4_0 hS) ?_))
                                          intro z70 ez70 f71
                                          obtain rfl : z70 = 3 := by omega
                                          refine n_imul c_18_65 rfl (n_iload c_18_66 rfl (n_iadd c_18_68 rfl (n_istore (L2 := [some (2, 4), some (0, c), some (0, 3), some (0, z66), some (0, ((((0 * 3) + z45) * 3) + z61)), some (0, ((((0 + 1) + 1) + 1) + 1)), some (0, z61)]) c_18_69 rfl rfl (n_iinc (L2 := [some (2, 4), some (0, c), some (0, 3), some (0, z66), some (0, ((((0 * 3) + z45) * 3) + z61)), some (0, (((((0 + 1) + 1) + 1) + 1) + 1)), some (0, z61)]) c_18_71 rfl rfl rfl (n_goto c_18_74 (n_iload c_18_8 rfl (n_iload_n c_18_10 rfl (n_iconst c_18_11 (n_iadd c_18_12 rfl ?_)))))))))
                                          refine n_if2_ge c_18_13 (by omega) (by omega) ?_ ?_
                                          · intro h72
                                            exfalso; omega
                                          · intro h73
                                            refine n_aload_n c_18_16 rfl (n_getV (bi := 0) c_18_17 sc_4.n rfl rfl rfl (t_4_0 hS) ?_)
                                            intro z74 ez74 f75
                                            obtain rfl : z74 = 3 := by omega
                                            refine n_iconst c_18_20 ?_
                                            refine n_if2_ne c_18_21 (by omega) (by omega) ?_ ?_
                                            · intro h76
                                              refine n_iload_n c_18_30 rfl (n_iconst c_18_31 (n_iremV c_18_32 (by omega) (by omega) ?_))
                                              intro z77 _ f78
                                              refine n_istore (L2 := [some (2, 4), some (0, c), some (0, 3), some (0, z66), some (0, ((((0 * 3) + z45) * 3) + z61)), some (0, (((((0 + 1) + 1) + 1) + 1) + 1)), some (0, z77)]) c_18_33 rfl rfl (n_aload_n c_18_35 rfl (n_getV (bi := 0) c_18_36 sc_4.n rfl rfl rfl (t_4_0 hS) ?_))
                                              intro z79 ez79 f80
                                              obtain rfl : z79 = 3 := by omega
                                              refine n_iconst c_18_39 ?_
                                              refine n_if2_ne c_18_40 (by omega) (by omega) ?_ ?_
                                              · intro h81
                                                refine n_iload_n c_18_49 rfl (n_iconst c_18_50 (n_idivV c_18_51 (by omega) (by omega) ?_))
                                                intro z82 _ f83
                                                refine n_istore_n (L2 := [some (2, 4), some (0, c), some (0, 3), some (0, z82), some (0, ((((0 * 3) + z45) * 3) + z61)), some (0, (((((0 + 1) + 1) + 1) + 1) + 1)), some (0, z77)]) c_18_52 rfl rfl (n_iload c_18_53 rfl (n_iload_n c_18_55 rfl ?_))
                                                refine n_if2_lt c_18_56 (by omega) (by omega) ?_ ?_
                                                · intro h84
                                                  exfalso; omega
                                                · intro h85
                                                  refine n_iload c_18_59 rfl (n_aload_n c_18_61 rfl (n_getV (bi := 0) c_18_62 sc_4.n rfl rfl rfl (t_4_0 hS) ?_))
                                                  intro z86 ez86 f87
                                                  obtain rfl : z86 = 3 := by omega
                                                  refine n_imul c_18_65 rfl (n_iload c_18_66 rfl (n_iadd c_18_68 rfl (n_istore (L2 := [some (2, 4), some (0, c), some (0, 3), some (0, z82), some (0, ((((((0 * 3) + z45) * 3) + z61) * 3) + z77)), some (0, (((((0 + 1) + 1) + 1) + 1) + 1)), some (0, z77)]) c_18_69 rfl rfl (n_iinc (L2 := [some (2, 4), some (0, c), some (0, 3), some (0, z82), some (0, ((((((0 * 3) + z45) * 3) + z61) * 3) + z77)), some (0, ((((((0 + 1) + 1) + 1) + 1) + 1) + 1)), some (0, z77)]) c_18_71 rfl rfl rfl (n_goto c_18_74 (n_iload c_18_8 rfl (n_iload_n c_18_10 rfl (n_iconst c_18_11 (n_iadd c_18_12 rfl ?_)))))))))
                                                  refine n_if2_ge c_18_13 (by omega) (by omega) ?_ ?_
                                                  · intro h88
                                                    refine n_iload c_18_77 rfl ?_
                                                    exact n_rI c_18_79 rfl ⟨rfl, by omega⟩
                                                  · intro h89
                                                    exfalso; omega
                                              · intro h90
                                                exfalso; omega
                                            · intro h91
                                              exfalso; omega
                                      · intro h92
                                        exfalso; omega
                                    · intro h93
                                      exfalso; omega
                              · intro h94
                                exfalso; omega
                            · intro h95
                              exfalso; omega
                        · intro h96
                          exfalso; omega
                      · intro h97
                        exfalso; omega
                    · intro h98
                      exfalso; omega
                · intro h99
                  exfalso; omega
              · intro h100
                exfalso; omega
            · intro h101
              exfalso; omega
        · intro h102
          exfalso; omega
      · intro h103
        exfalso; omega
    · intro h104
      exfalso; omega

/-! The methods, by program. -/
set_option maxHeartbeats 4000000 in
theorem threeOf6_3 {xs : List Int32} {e : Nat} {ac : Int} {M0 M : nM} {c : Int} (hS : Sf 3 ac M0 M) (hc : 0 ≤ c ∧ c ≤ 19682) : nW xs e 18 0 [some (2, 4), some (0, c), some (0, 6), none, none, none, none] [] M (nPI fun z M1 => M = M1 ∧ (0 ≤ z ∧ z ≤ 26)) := by
  have hd : (3 : Int) = 2 ∨ (3 : Int) = 3 := by decide
  have hac := hS.2.2.2.2
  refine n_iload_n c_18_0 rfl (n_istore_n (L2 := [some (2, 4), some (0, c), some (0, 6), some (0, c), none, none, none]) c_18_1 rfl rfl (n_iconst c_18_2 (n_istore (L2 := [some (2, 4), some (0, c), some (0, 6), some (0, c), some (0, 0), none, none]) c_18_3 rfl rfl (n_iconst c_18_5 (n_istore (L2 := [some (2, 4), some (0, c), some (0, 6), some (0, c), some (0, 0), some (0, 0), none]) c_18_6 rfl rfl (n_iload c_18_8 rfl (n_iload_n c_18_10 rfl (n_iconst c_18_11 (n_iadd c_18_12 rfl ?_)))))))))
  refine n_if2_ge c_18_13 (by omega) (by omega) ?_ ?_
  · intro h1
    exfalso; omega
  · intro h2
    refine n_aload_n c_18_16 rfl (n_getV (bi := 0) c_18_17 sc_4.n rfl rfl rfl (t_4_0 hS) ?_)
    intro z3 ez3 f4
    obtain rfl : z3 = 3 := by omega
    refine n_iconst c_18_20 ?_
    refine n_if2_ne c_18_21 (by omega) (by omega) ?_ ?_
    · intro h5
      refine n_iload_n c_18_30 rfl (n_iconst c_18_31 (n_iremV c_18_32 (by omega) (by omega) ?_))
      intro z6 _ f7
      refine n_istore (L2 := [some (2, 4), some (0, c), some (0, 6), some (0, c), some (0, 0), some (0, 0), some (0, z6)]) c_18_33 rfl rfl (n_aload_n c_18_35 rfl (n_getV (bi := 0) c_18_36 sc_4.n rfl rfl rfl (t_4_0 hS) ?_))
      intro z8 ez8 f9
      obtain rfl : z8 = 3 := by omega
      refine n_iconst c_18_39 ?_
      refine n_if2_ne c_18_40 (by omega) (by omega) ?_ ?_
      · intro h10
        refine n_iload_n c_18_49 rfl (n_iconst c_18_50 (n_idivV c_18_51 (by omega) (by omega) ?_))
        intro z11 _ f12
        refine n_istore_n (L2 := [some (2, 4), some (0, c), some (0, 6), some (0, z11), some (0, 0), some (0, 0), some (0, z6)]) c_18_52 rfl rfl (n_iload c_18_53 rfl (n_iload_n c_18_55 rfl ?_))
        refine n_if2_lt c_18_56 (by omega) (by omega) ?_ ?_
        · intro h13
          refine n_iinc (L2 := [some (2, 4), some (0, c), some (0, 6), some (0, z11), some (0, 0), some (0, (0 + 1)), some (0, z6)]) c_18_71 rfl rfl rfl (n_goto c_18_74 (n_iload c_18_8 rfl (n_iload_n c_18_10 rfl (n_iconst c_18_11 (n_iadd c_18_12 rfl ?_)))))
          refine n_if2_ge c_18_13 (by omega) (by omega) ?_ ?_
          · intro h14
            exfalso; omega
          · intro h15
            refine n_aload_n c_18_16 rfl (n_getV (bi := 0) c_18_17 sc_4.n rfl rfl rfl (t_4_0 hS) ?_)
            intro z16 ez16 f17
            obtain rfl : z16 = 3 := by omega
            refine n_iconst c_18_20 ?_
            refine n_if2_ne c_18_21 (by omega) (by omega) ?_ ?_
            · intro h18
              refine n_iload_n c_18_30 rfl (n_iconst c_18_31 (n_iremV c_18_32 (by omega) (by omega) ?_))
              intro z19 _ f20
              refine n_istore (L2 := [some (2, 4), some (0, c), some (0, 6), some (0, z11), some (0, 0), some (0, (0 + 1)), some (0, z19)]) c_18_33 rfl rfl (n_aload_n c_18_35 rfl (n_getV (bi := 0) c_18_36 sc_4.n rfl rfl rfl (t_4_0 hS) ?_))
              intro z21 ez21 f22
              obtain rfl : z21 = 3 := by omega
              refine n_iconst c_18_39 ?_
              refine n_if2_ne c_18_40 (by omega) (by omega) ?_ ?_
              · intro h23
                refine n_iload_n c_18_49 rfl (n_iconst c_18_50 (n_idivV c_18_51 (by omega) (by omega) ?_))
                intro z24 _ f25
                refine n_istore_n (L2 := [some (2, 4), some (0, c), some (0, 6), some (0, z24), some (0, 0), some (0, (0 + 1)), some (0, z19)]) c_18_52 rfl rfl (n_iload c_18_53 rfl (n_iload_n c_18_55 rfl ?_))
                refine n_if2_lt c_18_56 (by omega) (by omega) ?_ ?_
                · intro h26
                  refine n_iinc (L2 := [some (2, 4), some (0, c), some (0, 6), some (0, z24), some (0, 0), some (0, ((0 + 1) + 1)), some (0, z19)]) c_18_71 rfl rfl rfl (n_goto c_18_74 (n_iload c_18_8 rfl (n_iload_n c_18_10 rfl (n_iconst c_18_11 (n_iadd c_18_12 rfl ?_)))))
                  refine n_if2_ge c_18_13 (by omega) (by omega) ?_ ?_
                  · intro h27
                    exfalso; omega
                  · intro h28
                    refine n_aload_n c_18_16 rfl (n_getV (bi := 0) c_18_17 sc_4.n rfl rfl rfl (t_4_0 hS) ?_)
                    intro z29 ez29 f30
                    obtain rfl : z29 = 3 := by omega
                    refine n_iconst c_18_20 ?_
                    refine n_if2_ne c_18_21 (by omega) (by omega) ?_ ?_
                    · intro h31
                      refine n_iload_n c_18_30 rfl (n_iconst c_18_31 (n_iremV c_18_32 (by omega) (by omega) ?_))
                      intro z32 _ f33
                      refine n_istore (L2 := [some (2, 4), some (0, c), some (0, 6), some (0, z24), some (0, 0), some (0, ((0 + 1) + 1)), some (0, z32)]) c_18_33 rfl rfl (n_aload_n c_18_35 rfl (n_getV (bi := 0) c_18_36 sc_4.n rfl rfl rfl (t_4_0 hS) ?_))
                      intro z34 ez34 f35
                      obtain rfl : z34 = 3 := by omega
                      refine n_iconst c_18_39 ?_
                      refine n_if2_ne c_18_40 (by omega) (by omega) ?_ ?_
                      · intro h36
                        refine n_iload_n c_18_49 rfl (n_iconst c_18_50 (n_idivV c_18_51 (by omega) (by omega) ?_))
                        intro z37 _ f38
                        refine n_istore_n (L2 := [some (2, 4), some (0, c), some (0, 6), some (0, z37), some (0, 0), some (0, ((0 + 1) + 1)), some (0, z32)]) c_18_52 rfl rfl (n_iload c_18_53 rfl (n_iload_n c_18_55 rfl ?_))
                        refine n_if2_lt c_18_56 (by omega) (by omega) ?_ ?_
                        · intro h39
                          refine n_iinc (L2 := [some (2, 4), some (0, c), some (0, 6), some (0, z37), some (0, 0), some (0, (((0 + 1) + 1) + 1)), some (0, z32)]) c_18_71 rfl rfl rfl (n_goto c_18_74 (n_iload c_18_8 rfl (n_iload_n c_18_10 rfl (n_iconst c_18_11 (n_iadd c_18_12 rfl ?_)))))
                          refine n_if2_ge c_18_13 (by omega) (by omega) ?_ ?_
                          · intro h40
                            exfalso; omega
                          · intro h41
                            refine n_aload_n c_18_16 rfl (n_getV (bi := 0) c_18_17 sc_4.n rfl rfl rfl (t_4_0 hS) ?_)
                            intro z42 ez42 f43
                            obtain rfl : z42 = 3 := by omega
                            refine n_iconst c_18_20 ?_
                            refine n_if2_ne c_18_21 (by omega) (by omega) ?_ ?_
                            · intro h44
                              refine n_iload_n c_18_30 rfl (n_iconst c_18_31 (n_iremV c_18_32 (by omega) (by omega) ?_))
                              intro z45 _ f46
                              refine n_istore (L2 := [some (2, 4), some (0, c), some (0, 6), some (0, z37), some (0, 0), some (0, (((0 + 1) + 1) + 1)), some (0, z45)]) c_18_33 rfl rfl (n_aload_n c_18_35 rfl (n_getV (bi := 0) c_18_36 sc_4.n rfl rfl rfl (t_4_0 hS) ?_))
                              intro z47 ez47 f48
                              obtain rfl : z47 = 3 := by omega
                              refine n_iconst c_18_39 ?_
                              refine n_if2_ne c_18_40 (by omega) (by omega) ?_ ?_
                              · intro h49
                                refine n_iload_n c_18_49 rfl (n_iconst c_18_50 (n_idivV c_18_51 (by omega) (by omega) ?_))
                                intro z50 _ f51
                                refine n_istore_n (L2 := [some (2, 4), some (0, c), some (0, 6), some (0, z50), some (0, 0), some (0, (((0 + 1) + 1) + 1)), some (0, z45)]) c_18_52 rfl rfl (n_iload c_18_53 rfl (n_iload_n c_18_55 rfl ?_))
                                refine n_if2_lt c_18_56 (by omega) (by omega) ?_ ?_
                                · intro h52
                                  refine n_iinc (L2 := [some (2, 4), some (0, c), some (0, 6), some (0, z50), some (0, 0), some (0, ((((0 + 1) + 1) + 1) + 1)), some (0, z45)]) c_18_71 rfl rfl rfl (n_goto c_18_74 (n_iload c_18_8 rfl (n_iload_n c_18_10 rfl (n_iconst c_18_11 (n_iadd c_18_12 rfl ?_)))))
                                  refine n_if2_ge c_18_13 (by omega) (by omega) ?_ ?_
                                  · intro h53
                                    exfalso; omega
                                  · intro h54
                                    refine n_aload_n c_18_16 rfl (n_getV (bi := 0) c_18_17 sc_4.n rfl rfl rfl (t_4_0 hS) ?_)
                                    intro z55 ez55 f56
                                    obtain rfl : z55 = 3 := by omega
                                    refine n_iconst c_18_20 ?_
                                    refine n_if2_ne c_18_21 (by omega) (by omega) ?_ ?_
                                    · intro h57
                                      refine n_iload_n c_18_30 rfl (n_iconst c_18_31 (n_iremV c_18_32 (by omega) (by omega) ?_))
                                      intro z58 _ f59
                                      refine n_istore (L2 := [some (2, 4), some (0, c), some (0, 6), some (0, z50), some (0, 0), some (0, ((((0 + 1) + 1) + 1) + 1)), some (0, z58)]) c_18_33 rfl rfl (n_aload_n c_18_35 rfl (n_getV (bi := 0) c_18_36 sc_4.n rfl rfl rfl (t_4_0 hS) ?_))
                                      intro z60 ez60 f61
                                      obtain rfl : z60 = 3 := by omega
                                      refine n_iconst c_18_39 ?_
                                      refine n_if2_ne c_18_40 (by omega) (by omega) ?_ ?_
                                      · intro h62
                                        refine n_iload_n c_18_49 rfl (n_iconst c_18_50 (n_idivV c_18_51 (by omega) (by omega) ?_))
                                        intro z63 _ f64
                                        refine n_istore_n (L2 := [some (2, 4), some (0, c), some (0, 6), some (0, z63), some (0, 0), some (0, ((((0 + 1) + 1) + 1) + 1)), some (0, z58)]) c_18_52 rfl rfl (n_iload c_18_53 rfl (n_iload_n c_18_55 rfl ?_))
                                        refine n_if2_lt c_18_56 (by omega) (by omega) ?_ ?_
                                        · intro h65
                                          refine n_iinc (L2 := [some (2, 4), some (0, c), some (0, 6), some (0, z63), some (0, 0), some (0, (((((0 + 1) + 1) + 1) + 1) + 1)), some (0, z58)]) c_18_71 rfl rfl rfl (n_goto c_18_74 (n_iload c_18_8 rfl (n_iload_n c_18_10 rfl (n_iconst c_18_11 (n_iadd c_18_12 rfl ?_)))))
                                          refine n_if2_ge c_18_13 (by omega) (by omega) ?_ ?_
                                          · intro h66
                                            exfalso; omega
                                          · intro h67
                                            refine n_aload_n c_18_16 rfl (n_getV (bi := 0) c_18_17 sc_4.n rfl rfl rfl (t_4_0 hS) ?_)
                                            intro z68 ez68 f69
                                            obtain rfl : z68 = 3 := by omega
                                            refine n_iconst c_18_20 ?_
                                            refine n_if2_ne c_18_21 (by omega) (by omega) ?_ ?_
                                            · intro h70
                                              refine n_iload_n c_18_30 rfl (n_iconst c_18_31 (n_iremV c_18_32 (by omega) (by omega) ?_))
                                              intro z71 _ f72
                                              refine n_istore (L2 := [some (2, 4), some (0, c), some (0, 6), some (0, z63), some (0, 0), some (0, (((((0 + 1) + 1) + 1) + 1) + 1)), some (0, z71)]) c_18_33 rfl rfl (n_aload_n c_18_35 rfl (n_getV (bi := 0) c_18_36 sc_4.n rfl rfl rfl (t_4_0 hS) ?_))
                                              intro z73 ez73 f74
                                              obtain rfl : z73 = 3 := by omega
                                              refine n_iconst c_18_39 ?_
                                              refine n_if2_ne c_18_40 (by omega) (by omega) ?_ ?_
                                              · intro h75
                                                refine n_iload_n c_18_49 rfl (n_iconst c_18_50 (n_idivV c_18_51 (by omega) (by omega) ?_))
                                                intro z76 _ f77
                                                refine n_istore_n (L2 := [some (2, 4), some (0, c), some (0, 6), some (0, z76), some (0, 0), some (0, (((((0 + 1) + 1) + 1) + 1) + 1)), some (0, z71)]) c_18_52 rfl rfl (n_iload c_18_53 rfl (n_iload_n c_18_55 rfl ?_))
                                                refine n_if2_lt c_18_56 (by omega) (by omega) ?_ ?_
                                                · intro h78
                                                  refine n_iinc (L2 := [some (2, 4), some (0, c), some (0, 6), some (0, z76), some (0, 0), some (0, ((((((0 + 1) + 1) + 1) + 1) + 1) + 1)), some (0, z71)]) c_18_71 rfl rfl rfl (n_goto c_18_74 (n_iload c_18_8 rfl (n_iload_n c_18_10 rfl (n_iconst c_18_11 (n_iadd c_18_12 rfl ?_)))))
                                                  refine n_if2_ge c_18_13 (by omega) (by omega) ?_ ?_
                                                  · intro h79
                                                    exfalso; omega
                                                  · intro h80
                                                    refine n_aload_n c_18_16 rfl (n_getV (bi := 0) c_18_17 sc_4.n rfl rfl rfl (t_4_0 hS) ?_)
                                                    intro z81 ez81 f82
                                                    obtain rfl : z81 = 3 := by omega
                                                    refine n_iconst c_18_20 ?_
                                                    refine n_if2_ne c_18_21 (by omega) (by omega) ?_ ?_
                                                    · intro h83
                                                      refine n_iload_n c_18_30 rfl (n_iconst c_18_31 (n_iremV c_18_32 (by omega) (by omega) ?_))
                                                      intro z84 _ f85
                                                      refine n_istore (L2 := [some (2, 4), some (0, c), some (0, 6), some (0, z76), some (0, 0), some (0, ((((((0 + 1) + 1) + 1) + 1) + 1) + 1)), some (0, z84)]) c_18_33 rfl rfl (n_aload_n c_18_35 rfl (n_getV (bi := 0) c_18_36 sc_4.n rfl rfl rfl (t_4_0 hS) ?_))
                                                      intro z86 ez86 f87
                                                      obtain rfl : z86 = 3 := by omega
                                                      refine n_iconst c_18_39 ?_
                                                      refine n_if2_ne c_18_40 (by omega) (by omega) ?_ ?_
                                                      · intro h88
                                                        refine n_iload_n c_18_49 rfl (n_iconst c_18_50 (n_idivV c_18_51 (by omega) (by omega) ?_))
                                                        intro z89 _ f90
                                                        refine n_istore_n (L2 := [some (2, 4), some (0, c), some (0, 6), some (0, z89), some (0, 0), some (0, ((((((0 + 1) + 1) + 1) + 1) + 1) + 1)), some (0, z84)]) c_18_52 rfl rfl (n_iload c_18_53 rfl (n_iload_n c_18_55 rfl ?_))
                                                        refine n_if2_lt c_18_56 (by omega) (by omega) ?_ ?_
                                                        · intro h91
                                                          exfalso; omega
                                                        · intro h92
                                                          refine n_iload c_18_59 rfl (n_aload_n c_18_61 rfl (n_getV (bi := 0) c_18_62 sc_4.n rfl rfl rfl (t_4_0 hS) ?_))
                                                          intro z93 ez93 f94
                                                          obtain rfl : z93 = 3 := by omega
                                                          refine n_imul c_18_65 rfl (n_iload c_18_66 rfl (n_iadd c_18_68 rfl (n_istore (L2 := [some (2, 4), some (0, c), some (0, 6), some (0, z89), some (0, ((0 * 3) + z84)), some (0, ((((((0 + 1) + 1) + 1) + 1) + 1) + 1)), some (0, z84)]) c_18_69 rfl rfl (n_iinc (L2 := [some (2, 4), some (0, c), some (0, 6), some (0, z89), some (0, ((0 * 3) + z84)), some (0, (((((((0 + 1) + 1) + 1) + 1) + 1) + 1) + 1)), some (0, z84)]) c_18_71 rfl rfl rfl (n_goto c_18_74 (n_iload c_18_8 rfl (n_iload_n c_18_10 rfl (n_iconst c_18_11 (n_iadd c_18_12 rfl ?_)))))))))
                                                          refine n_if2_ge c_18_13 (by omega) (by omega) ?_ ?_
                                                          · intro h95
                                                            exfalso; omega
                                                          · intro h96
                                                            refine n_aload_n c_18_16 rfl (n_getV (bi := 0) c_18_17 sc_4.n rfl rfl rfl (t_4_0 hS) ?_)
                                                            intro z97 ez97 f98
                                                            obtain rfl : z97 = 3 := by omega
                                                            refine n_iconst c_18_20 ?_
                                                            refine n_if2_ne c_18_21 (by omega) (by omega) ?_ ?_
                                                            · intro h99
                                                              refine n_iload_n c_18_30 rfl (n_iconst c_18_31 (n_iremV c_18_32 (by omega) (by omega) ?_))
                                                              intro z100 _ f101
                                                              refine n_istore (L2 := [some (2, 4), some (0, c), some (0, 6), some (0, z89), some (0, ((0 * 3) + z84)), some (0, (((((((0 + 1) + 1) + 1) + 1) + 1) + 1) + 1)), some (0, z100)]) c_18_33 rfl rfl (n_aload_n c_18_35 rfl (n_getV (bi := 0) c_18_36 sc_4.n rfl rfl rfl (t_4_0 hS) ?_))
                                                              intro z102 ez102 f103
                                                              obtain rfl : z102 = 3 := by omega
                                                              refine n_iconst c_18_39 ?_
                                                              refine n_if2_ne c_18_40 (by omega) (by omega) ?_ ?_
                                                              · intro h104
                                                                refine n_iload_n c_18_49 rfl (n_iconst c_18_50 (n_idivV c_18_51 (by omega) (by omega) ?_))
                                                                intro z105 _ f106
                                                                refine n_istore_n (L2 := [some (2, 4), some (0, c), some (0, 6), some (0, z105), some (0, ((0 * 3) + z84)), some (0, (((((((0 + 1) + 1) + 1) + 1) + 1) + 1) + 1)), some (0, z100)]) c_18_52 rfl rfl (n_iload c_18_53 rfl (n_iload_n c_18_55 rfl ?_))
                                                                refine n_if2_lt c_18_56 (by omega) (by omega) ?_ ?_
                                                                · intro h107
                                                                  exfalso; omega
                                                                · intro h108
                                                                  refine n_iload c_18_59 rfl (n_aload_n c_18_61 rfl (n_getV (bi := 0) c_18_62 sc_4.n rfl rfl rfl (t_4_0 hS) ?_))
                                                                  intro z109 ez109 f110
                                                                  obtain rfl : z109 = 3 := by omega
                                                                  refine n_imul c_18_65 rfl (n_iload c_18_66 rfl (n_iadd c_18_68 rfl (n_istore (L2 := [some (2, 4), some (0, c), some (0, 6), some (0, z105), some (0, ((((0 * 3) + z84) * 3) + z100)), some (0, (((((((0 + 1) + 1) + 1) + 1) + 1) + 1) + 1)), some (0, z100)]) c_18_69 rfl rfl (n_iinc (L2 := [some (2, 4), some (0, c), some (0, 6), some (0, z105), some (0, ((((0 * 3) + z84) * 3) + z100)), some (0, ((((((((0 + 1) + 1) + 1) + 1) + 1) + 1) + 1) + 1)), some (0, z100)]) c_18_71 rfl rfl rfl (n_goto c_18_74 (n_iload c_18_8 rfl (n_iload_n c_18_10 rfl (n_iconst c_18_11 (n_iadd c_18_12 rfl ?_)))))))))
                                                                  refine n_if2_ge c_18_13 (by omega) (by omega) ?_ ?_
                                                                  · intro h111
                                                                    exfalso; omega
                                                                  · intro h112
                                                                    refine n_aload_n c_18_16 rfl (n_getV (bi := 0) c_18_17 sc_4.n rfl rfl rfl (t_4_0 hS) ?_)
                                                                    intro z113 ez113 f114
                                                                    obtain rfl : z113 = 3 := by omega
                                                                    refine n_iconst c_18_20 ?_
                                                                    refine n_if2_ne c_18_21 (by omega) (by omega) ?_ ?_
                                                                    · intro h115
                                                                      refine n_iload_n c_18_30 rfl (n_iconst c_18_31 (n_iremV c_18_32 (by omega) (by omega) ?_))
                                                                      intro z116 _ f117
                                                                      refine n_istore (L2 := [some (2, 4), some (0, c), some (0, 6), some (0, z105), some (0, ((((0 * 3) + z84) * 3) + z100)), some (0, ((((((((0 + 1) + 1) + 1) + 1) + 1) + 1) + 1) + 1)), some (0, z116)]) c_18_33 rfl rfl (n_aload_n c_18_35 rfl (n_getV (bi := 0) c_18_36 sc_4.n rfl rfl rfl (t_4_0 hS) ?_))
                                                                      intro z118 ez118 f119
                                                                      obtain rfl : z118 = 3 := by omega
                                                                      refine n_iconst c_18_39 ?_
                                                                      refine n_if2_ne c_18_40 (by omega) (by omega) ?_ ?_
                                                                      · intro h120
                                                                        refine n_iload_n c_18_49 rfl (n_iconst c_18_50 (n_idivV c_18_51 (by omega) (by omega) ?_))
                                                                        intro z121 _ f122
                                                                        refine n_istore_n (L2 := [some (2, 4), some (0, c), some (0, 6), some (0, z121), some (0, ((((0 * 3) + z84) * 3) + z100)), some (0, ((((((((0 + 1) + 1) + 1) + 1) + 1) + 1) + 1) + 1)), some (0, z116)]) c_18_52 rfl rfl (n_iload c_18_53 rfl (n_iload_n c_18_55 rfl ?_))
                                                                        refine n_if2_lt c_18_56 (by omega) (by omega) ?_ ?_
                                                                        · intro h123
                                                                          exfalso; omega
                                                                        · intro h124
                                                                          refine n_iload c_18_59 rfl (n_aload_n c_18_61 rfl (n_getV (bi := 0) c_18_62 sc_4.n rfl rfl rfl (t_4_0 hS) ?_))
                                                                          intro z125 ez125 f126
                                                                          obtain rfl : z125 = 3 := by omega
                                                                          refine n_imul c_18_65 rfl (n_iload c_18_66 rfl (n_iadd c_18_68 rfl (n_istore (L2 := [some (2, 4), some (0, c), some (0, 6), some (0, z121), some (0, ((((((0 * 3) + z84) * 3) + z100) * 3) + z116)), some (0, ((((((((0 + 1) + 1) + 1) + 1) + 1) + 1) + 1) + 1)), some (0, z116)]) c_18_69 rfl rfl (n_iinc (L2 := [some (2, 4), some (0, c), some (0, 6), some (0, z121), some (0, ((((((0 * 3) + z84) * 3) + z100) * 3) + z116)), some (0, (((((((((0 + 1) + 1) + 1) + 1) + 1) + 1) + 1) + 1) + 1)), some (0, z116)]) c_18_71 rfl rfl rfl (n_goto c_18_74 (n_iload c_18_8 rfl (n_iload_n c_18_10 rfl (n_iconst c_18_11 (n_iadd c_18_12 rfl ?_)))))))))
                                                                          refine n_if2_ge c_18_13 (by omega) (by omega) ?_ ?_
                                                                          · intro h127
                                                                            refine n_iload c_18_77 rfl ?_
                                                                            exact n_rI c_18_79 rfl ⟨rfl, by omega⟩
                                                                          · intro h128
                                                                            exfalso; omega
                                                                      · intro h129
                                                                        exfalso; omega
                                                                    · intro h130
                                                                      exfalso; omega
                                                              · intro h131
                                                                exfalso; omega
                                                            · intro h132
                                                              exfalso; omega
                                                      · intro h133
                                                        exfalso; omega
                                                    · intro h134
                                                      exfalso; omega
                                                · intro h135
                                                  exfalso; omega
                                              · intro h136
                                                exfalso; omega
                                            · intro h137
                                              exfalso; omega
                                        · intro h138
                                          exfalso; omega
                                      · intro h139
                                        exfalso; omega
                                    · intro h140
                                      exfalso; omega
                                · intro h141
                                  exfalso; omega
                              · intro h142
                                exfalso; omega
                            · intro h143
                              exfalso; omega
                        · intro h144
                          exfalso; omega
                      · intro h145
                        exfalso; omega
                    · intro h146
                      exfalso; omega
                · intro h147
                  exfalso; omega
              · intro h148
                exfalso; omega
            · intro h149
              exfalso; omega
        · intro h150
          exfalso; omega
      · intro h151
        exfalso; omega
    · intro h152
      exfalso; omega

set_option maxHeartbeats 4000000 in
theorem isSlot_3_c {xs : List Int32} {e : Nat} {ac : Int} {M0 M : nM} {s : Int} (hS : Sf 3 ac M0 M) (hs : -2147483648 ≤ s ∧ s ≤ 2147483647) : ∀ nn : Nat, (1 < (nn : Int) → nW xs e 84 14 [none, none] [] M (nPI fun z M1 => M = M1 ∧ (0 ≤ z ∧ z ≤ 1) ∧ (z = 0 ∨ (0 ≤ s ∧ s ≤ 7)))) := by
  have hd : (3 : Int) = 2 ∨ (3 : Int) = 3 := by decide
  have hac := hS.2.2.2.2
  intro nn
  induction nn with
  | zero => intros; omega
  | succ nn ih =>
    intro hnn
    refine n_iconst c_84_14 ?_
    exact n_rZ c_84_15 rfl (by omega) ⟨rfl, by omega, by omega⟩
set_option maxHeartbeats 4000000 in
theorem isSlot_3 {xs : List Int32} {e : Nat} {ac : Int} {M0 M : nM} {s : Int} (hS : Sf 3 ac M0 M) (hs : -2147483648 ≤ s ∧ s ≤ 2147483647) : nW xs e 84 0 [some (2, 8), some (0, s)] [] M (nPI fun z M1 => M = M1 ∧ (0 ≤ z ∧ z ≤ 1) ∧ (z = 0 ∨ (0 ≤ s ∧ s ≤ 7))) := by
  have hd : (3 : Int) = 2 ∨ (3 : Int) = 3 := by decide
  have hac := hS.2.2.2.2
  refine n_iload_n c_84_0 rfl ?_
  refine n_if0_lt c_84_1 (by omega) ?_ ?_
  · intro h1
    refine n_fg (le_n (le_n le_0)) ?_
    exact (isSlot_3_c hS hs 12)   (by omega)
  · intro h2
    refine n_iload_n c_84_4 rfl (n_bipush c_84_5 rfl ?_)
    refine n_if2_ge c_84_7 (by omega) (by omega) ?_ ?_
    · intro h3
      refine n_fg (le_n (le_n le_0)) ?_
      exact (isSlot_3_c hS hs 12)   (by omega)
    · intro h4
      refine n_iconst c_84_10 (n_goto c_84_11 ?_)
      exact n_rZ c_84_15 rfl (by omega) ⟨rfl, by omega, by omega⟩

set_option maxHeartbeats 4000000 in
theorem hasRow_3_c {xs : List Int32} {e : Nat} {ac : Int} {M0 M : nM} {s : Int} (hS : Sf 3 ac M0 M) (hs : -2147483648 ≤ s ∧ s ≤ 2147483647) : ∀ nn : Nat, (1 < (nn : Int) → nW xs (e + 1) 85 21 [none, none] [] M (nPI fun z M1 => M = M1 ∧ (0 ≤ z ∧ z ≤ 1) ∧ (z = 0 ∨ (0 ≤ s ∧ s ≤ 7)))) := by
  have hd : (3 : Int) = 2 ∨ (3 : Int) = 3 := by decide
  have hac := hS.2.2.2.2
  intro nn
  induction nn with
  | zero => intros; omega
  | succ nn ih =>
    intro hnn
    refine n_iconst c_85_21 ?_
    exact n_rZ c_85_22 rfl (by omega) ⟨rfl, by omega, by omega⟩
set_option maxHeartbeats 4000000 in
theorem hasRow_3 {xs : List Int32} {e : Nat} {ac : Int} {M0 M : nM} {s : Int} (hS : Sf 3 ac M0 M) (hs : -2147483648 ≤ s ∧ s ≤ 2147483647) : nW xs (e + 1) 85 0 [some (2, 8), some (0, s)] [] M (nPI fun z M1 => M = M1 ∧ (0 ≤ z ∧ z ≤ 1) ∧ (z = 0 ∨ (0 ≤ s ∧ s ≤ 7))) := by
  have hd : (3 : Int) = 2 ∨ (3 : Int) = 3 := by decide
  have hac := hS.2.2.2.2
  refine n_aload_n c_85_0 rfl (n_iload_n c_85_1 rfl (n_v1I c_85_2 rfl sc_8.n rfl rfl rfl rfl (isSlot_3 (s := s) hS (by omega)) ?_))
  intro z1 M2 hP3
  obtain ⟨eM, f3, f3p0⟩ := hP3
  subst eM
  refine n_if0_eq c_85_5 (by omega) ?_ ?_
  · intro h4
    refine n_fg (le_n (le_n le_0)) ?_
    exact (hasRow_3_c hS hs 12)   (by omega)
  · intro h5
    refine n_aload_n c_85_8 rfl (n_getR c_85_9 sc_8.n rfl rfl rfl r_8_2 (n_iload_n c_85_12 rfl (n_ialoadV c_85_13 sc_11.n rfl rfl rfl (by omega) (t_11 hS (by omega)) ?_)))
    intro z6 ez6 f7
    refine n_if0_lt c_85_14 (by omega) ?_ ?_
    · intro h8
      refine n_fg (le_n (le_n le_0)) ?_
      exact (hasRow_3_c hS hs 12)   (by omega)
    · intro h9
      refine n_iconst c_85_17 (n_goto c_85_18 ?_)
      exact n_rZ c_85_22 rfl (by omega) ⟨rfl, by omega, by omega⟩

set_option maxHeartbeats 4000000 in
theorem read2_3_c {xs : List Int32} {e : Nat} {ac : Int} {M0 M : nM} {s i : Int} (hS : Sf 3 ac M0 M) (hs : 0 ≤ s ∧ s ≤ 7) (hi : -2147483648 ≤ i ∧ i ≤ 2147483647) : ∀ nn : Nat, (2 < (nn : Int) → nW xs e 89 14 [none, none, none, none, none, none] [] M (nPI fun z M1 => M = M1 ∧ (-6 ≤ z ∧ z ≤ 2))) ∧ (1 < (nn : Int) → nW xs e 89 45 [none, none, none, none, none, none] [] M (nPI fun z M1 => M = M1 ∧ (-6 ≤ z ∧ z ≤ 2))) := by
  have hd : (3 : Int) = 2 ∨ (3 : Int) = 3 := by decide
  have hac := hS.2.2.2.2
  intro nn
  induction nn with
  | zero => refine ⟨?_, ?_⟩ <;> (intros; omega)
  | succ nn ih =>
    refine ⟨?_, ?_⟩
    · intro hnn
      refine n_bipush c_89_14 rfl ?_
      exact n_rI c_89_16 rfl ⟨rfl, by omega⟩
    · intro hnn
      refine n_bipush c_89_45 rfl ?_
      exact n_rI c_89_47 rfl ⟨rfl, by omega⟩
set_option maxHeartbeats 4000000 in
theorem read2_3 {xs : List Int32} {e : Nat} {ac : Int} {M0 M : nM} {s i : Int} (hS : Sf 3 ac M0 M) (hs : 0 ≤ s ∧ s ≤ 7) (hi : -2147483648 ≤ i ∧ i ≤ 2147483647) : nW xs e 89 0 [some (2, 8), some (0, s), some (0, i), some (0, 2), none, none] [] M (nPI fun z M1 => M = M1 ∧ (-6 ≤ z ∧ z ≤ 2)) := by
  have hd : (3 : Int) = 2 ∨ (3 : Int) = 3 := by decide
  have hac := hS.2.2.2.2
  refine n_iload_n c_89_0 rfl ?_
  refine n_if0_lt c_89_1 (by omega) ?_ ?_
  · intro h1
    refine n_fg (le_n (le_n (le_n (le_n (le_n (le_n le_0)))))) ?_
    exact (read2_3_c hS hs hi 14).1   (by omega)
  · intro h2
    refine n_iload_n c_89_4 rfl (n_aload_n c_89_5 rfl (n_getR c_89_6 sc_8.n rfl rfl rfl r_8_2 (n_iload_n c_89_9 rfl (n_ialoadV c_89_10 sc_11.n rfl rfl rfl (by omega) (t_11 hS (by omega)) ?_))))
    intro z3 ez3 f4
    refine n_if2_lt c_89_11 (by omega) (by omega) ?_ ?_
    · intro h5
      refine n_aload_n c_89_17 rfl (n_getR c_89_18 sc_8.n rfl rfl rfl r_8_0 (n_iload_n c_89_21 rfl (n_bipush c_89_22 rfl (n_imul c_89_24 rfl (n_iload_n c_89_25 rfl (n_iadd c_89_26 rfl (n_laloadV c_89_27 sc_9.n rfl rfl rfl (by omega) (t_9 hS (by omega)) ?_)))))))
      intro z6 ez6 f7
      refine n_lstore (L2 := [some (2, 8), some (0, s), some (0, i), some (0, 2), some (1, z6), none]) c_89_28 rfl rfl (n_lload c_89_30 rfl (n_lconst (n := 0) c_89_32 rfl (n_lcmp c_89_33 ?_)))
      refine n_lif_lt c_89_34 (by omega) (by omega) ?_ ?_
      · intro h8
        refine n_fg (le_n (le_n (le_n (le_n (le_n (le_n le_0)))))) ?_
        exact (read2_3_c hS hs hi 14).2   (by omega)
      · intro h9
        refine n_lload c_89_37 rfl (n_iload_n c_89_39 rfl (n_i2l c_89_40 (by omega) ?_))
        refine n_lcmp c_89_41 ?_
        refine n_lif_le c_89_42 (by omega) (by omega) ?_ ?_
        · intro h10
          refine n_lload c_89_48 rfl (n_l2i c_89_50 ?_)
          exact n_rI c_89_51 rfl ⟨rfl, by omega⟩
        · intro h11
          refine n_fg (le_n (le_n (le_n (le_n (le_n (le_n le_0)))))) ?_
          exact (read2_3_c hS hs hi 14).2   (by omega)
    · intro h12
      refine n_fg (le_n (le_n (le_n (le_n (le_n (le_n le_0)))))) ?_
      exact (read2_3_c hS hs hi 14).1   (by omega)

set_option maxHeartbeats 4000000 in
theorem read27_3_c {xs : List Int32} {e : Nat} {ac : Int} {M0 M : nM} {s i : Int} (hS : Sf 3 ac M0 M) (hs : 0 ≤ s ∧ s ≤ 7) (hi : -2147483648 ≤ i ∧ i ≤ 2147483647) : ∀ nn : Nat, (2 < (nn : Int) → nW xs e 89 14 [none, none, none, none, none, none] [] M (nPI fun z M1 => M = M1 ∧ (-6 ≤ z ∧ z ≤ 27))) ∧ (1 < (nn : Int) → nW xs e 89 45 [none, none, none, none, none, none] [] M (nPI fun z M1 => M = M1 ∧ (-6 ≤ z ∧ z ≤ 27))) := by
  have hd : (3 : Int) = 2 ∨ (3 : Int) = 3 := by decide
  have hac := hS.2.2.2.2
  intro nn
  induction nn with
  | zero => refine ⟨?_, ?_⟩ <;> (intros; omega)
  | succ nn ih =>
    refine ⟨?_, ?_⟩
    · intro hnn
      refine n_bipush c_89_14 rfl ?_
      exact n_rI c_89_16 rfl ⟨rfl, by omega⟩
    · intro hnn
      refine n_bipush c_89_45 rfl ?_
      exact n_rI c_89_47 rfl ⟨rfl, by omega⟩
set_option maxHeartbeats 4000000 in
theorem read27_3 {xs : List Int32} {e : Nat} {ac : Int} {M0 M : nM} {s i : Int} (hS : Sf 3 ac M0 M) (hs : 0 ≤ s ∧ s ≤ 7) (hi : -2147483648 ≤ i ∧ i ≤ 2147483647) : nW xs e 89 0 [some (2, 8), some (0, s), some (0, i), some (0, 27), none, none] [] M (nPI fun z M1 => M = M1 ∧ (-6 ≤ z ∧ z ≤ 27)) := by
  have hd : (3 : Int) = 2 ∨ (3 : Int) = 3 := by decide
  have hac := hS.2.2.2.2
  refine n_iload_n c_89_0 rfl ?_
  refine n_if0_lt c_89_1 (by omega) ?_ ?_
  · intro h1
    refine n_fg (le_n (le_n (le_n (le_n (le_n (le_n le_0)))))) ?_
    exact (read27_3_c hS hs hi 14).1   (by omega)
  · intro h2
    refine n_iload_n c_89_4 rfl (n_aload_n c_89_5 rfl (n_getR c_89_6 sc_8.n rfl rfl rfl r_8_2 (n_iload_n c_89_9 rfl (n_ialoadV c_89_10 sc_11.n rfl rfl rfl (by omega) (t_11 hS (by omega)) ?_))))
    intro z3 ez3 f4
    refine n_if2_lt c_89_11 (by omega) (by omega) ?_ ?_
    · intro h5
      refine n_aload_n c_89_17 rfl (n_getR c_89_18 sc_8.n rfl rfl rfl r_8_0 (n_iload_n c_89_21 rfl (n_bipush c_89_22 rfl (n_imul c_89_24 rfl (n_iload_n c_89_25 rfl (n_iadd c_89_26 rfl (n_laloadV c_89_27 sc_9.n rfl rfl rfl (by omega) (t_9 hS (by omega)) ?_)))))))
      intro z6 ez6 f7
      refine n_lstore (L2 := [some (2, 8), some (0, s), some (0, i), some (0, 27), some (1, z6), none]) c_89_28 rfl rfl (n_lload c_89_30 rfl (n_lconst (n := 0) c_89_32 rfl (n_lcmp c_89_33 ?_)))
      refine n_lif_lt c_89_34 (by omega) (by omega) ?_ ?_
      · intro h8
        refine n_fg (le_n (le_n (le_n (le_n (le_n (le_n le_0)))))) ?_
        exact (read27_3_c hS hs hi 14).2   (by omega)
      · intro h9
        refine n_lload c_89_37 rfl (n_iload_n c_89_39 rfl (n_i2l c_89_40 (by omega) ?_))
        refine n_lcmp c_89_41 ?_
        refine n_lif_le c_89_42 (by omega) (by omega) ?_ ?_
        · intro h10
          refine n_lload c_89_48 rfl (n_l2i c_89_50 ?_)
          exact n_rI c_89_51 rfl ⟨rfl, by omega⟩
        · intro h11
          refine n_fg (le_n (le_n (le_n (le_n (le_n (le_n le_0)))))) ?_
          exact (read27_3_c hS hs hi 14).2   (by omega)
    · intro h12
      refine n_fg (le_n (le_n (le_n (le_n (le_n (le_n le_0)))))) ?_
      exact (read27_3_c hS hs hi 14).1   (by omega)

set_option maxHeartbeats 4000000 in
theorem filled_3_c {xs : List Int32} {e : Nat} {ac : Int} {M0 M : nM} (hS : Sf 3 ac M0 M)  : ∀ nn : Nat, (∀ (x1 x2 : Int), (0 ≤ x1 ∧ x1 ≤ 8) → (0 ≤ x2 ∧ x2 ≤ 8) → (x1 ≤ x2) → (8 - x2) * 2 + 2 < (nn : Int) → nW xs e 90 4 [some (2, 8), some (0, x1), some (0, x2)] [] M (nPI fun z M1 => M = M1 ∧ (0 ≤ z ∧ z ≤ 8))) ∧ (∀ (x1 x2 : Int), (0 ≤ x1 ∧ x1 ≤ 8) → (0 ≤ x2 ∧ x2 ≤ 7) → (x1 ≤ x2 + 1) → (8 - x2) * 2 + 1 < (nn : Int) → nW xs e 90 22 [some (2, 8), some (0, x1), some (0, x2)] [] M (nPI fun z M1 => M = M1 ∧ (0 ≤ z ∧ z ≤ 8))) := by
  have hd : (3 : Int) = 2 ∨ (3 : Int) = 3 := by decide
  have hac := hS.2.2.2.2
  intro nn
  induction nn with
  | zero => refine ⟨?_, ?_⟩ <;> (intros; omega)
  | succ nn ih =>
    refine ⟨?_, ?_⟩
    · intro x1 x2 k1 k2 v0 hnn
      refine n_iload_n c_90_4 rfl (n_bipush c_90_5 rfl ?_)
      refine n_if2_ge c_90_7 (by omega) (by omega) ?_ ?_
      · intro h1
        refine n_iload_n c_90_28 rfl ?_
        exact n_rI c_90_29 rfl ⟨rfl, by omega⟩
      · intro h2
        refine n_aload_n c_90_10 rfl (n_getR c_90_11 sc_8.n rfl rfl rfl r_8_2 (n_iload_n c_90_14 rfl (n_ialoadV c_90_15 sc_11.n rfl rfl rfl (by omega) (t_11 hS (by omega)) ?_)))
        intro z3 ez3 f4
        refine n_if0_lt c_90_16 (by omega) ?_ ?_
        · intro h5
          refine n_fg (le_s (le_s (le_s le_0))) ?_
          exact ih.2 _ _ (by omega) (by omega) (by omega) (by omega)
        · intro h6
          refine n_iinc (L2 := [some (2, 8), some (0, (x1 + 1)), some (0, x2)]) c_90_19 rfl rfl rfl (n_fg (le_s (le_s (le_s le_0))) ?_)
          exact ih.2 _ _ (by omega) (by omega) (by omega) (by omega)
    · intro x1 x2 k1 k2 v0 hnn
      refine n_iinc (L2 := [some (2, 8), some (0, x1), some (0, (x2 + 1))]) c_90_22 rfl rfl rfl (n_goto c_90_25 (n_fg (le_s (le_s (le_s le_0))) ?_))
      exact ih.1 _ _ (by omega) (by omega) (by omega) (by omega)
set_option maxHeartbeats 4000000 in
theorem filled_3 {xs : List Int32} {e : Nat} {ac : Int} {M0 M : nM} (hS : Sf 3 ac M0 M)  : nW xs e 90 0 [some (2, 8), none, none] [] M (nPI fun z M1 => M = M1 ∧ (0 ≤ z ∧ z ≤ 8)) := by
  have hd : (3 : Int) = 2 ∨ (3 : Int) = 3 := by decide
  have hac := hS.2.2.2.2
  refine n_iconst c_90_0 (n_istore_n (L2 := [some (2, 8), some (0, 0), none]) c_90_1 rfl rfl (n_iconst c_90_2 (n_istore_n (L2 := [some (2, 8), some (0, 0), some (0, 0)]) c_90_3 rfl rfl (n_fg (le_s (le_s (le_s le_0))) ?_))))
  exact (filled_3_c hS  50).1 _ _ (by omega) (by omega) (by omega) (by omega)

set_option maxHeartbeats 4000000 in
theorem staysIn_3_c {xs : List Int32} {e : Nat} {ac : Int} {M0 M : nM} {p s : Int} (hS : Sf 3 ac M0 M) (hp : ActAt p) (hpl : p < 55 + 3 * ac) (hs : -2147483648 ≤ s ∧ s ≤ 2147483647) : ∀ nn : Nat, (∀ (x3 : Int), (0 ≤ x3 ∧ x3 ≤ 27) → (27 - x3) * 2 + 2 < (nn : Int) → nW xs (e + 1) 3 2 [some (2, p), some (0, s), some (2, 4), some (0, x3), none] [] M (nPI fun z M1 => M = M1 ∧ (0 ≤ z ∧ z ≤ 1))) ∧ (∀ (x3 : Int), (0 ≤ x3 ∧ x3 ≤ 26) → (27 - x3) * 2 + 1 < (nn : Int) → nW xs (e + 1) 3 45 [some (2, p), some (0, s), some (2, 4), some (0, x3), none] [] M (nPI fun z M1 => M = M1 ∧ (0 ≤ z ∧ z ≤ 1))) := by
  have hd : (3 : Int) = 2 ∨ (3 : Int) = 3 := by decide
  have hac := hS.2.2.2.2
  intro nn
  induction nn with
  | zero => refine ⟨?_, ?_⟩ <;> (intros; omega)
  | succ nn ih =>
    refine ⟨?_, ?_⟩
    · intro x3 k3 hnn
      refine n_iload_n c_3_2 rfl (n_aload_n c_3_3 rfl (n_getV (bi := 1) c_3_4 hp.c0.1.n rfl rfl rfl (t_actl hS hp hpl).2 ?_))
      intro z1 ez1 f2
      refine n_if2_ge c_3_7 (by omega) (by omega) ?_ ?_
      · intro h3
        refine n_iconst c_3_51 ?_
        exact n_rZ c_3_52 rfl (by omega) ⟨rfl, by omega⟩
      · intro h4
        refine n_aload_n c_3_10 rfl (n_iload_n c_3_11 rfl (n_aload_n c_3_12 rfl (n_getV (bi := 0) c_3_13 hp.c0.1.n rfl rfl rfl (t_actl hS hp hpl).1 ?_)))
        intro z5 ez5 f6
        refine n_v2I c_3_16 rfl sc_4.n rfl rfl rfl rfl (thingsOf_3 (r := x3) (p := z5) hS (by omega) (by omega)) ?_
        intro z7 M8 hP9
        obtain ⟨eM, f9⟩ := hP9
        subst eM
        refine n_istore (L2 := [some (2, p), some (0, s), some (2, 4), some (0, x3), some (0, z7)]) c_3_19 rfl rfl (n_iload c_3_21 rfl (n_iload_n c_3_23 rfl (n_i_iand c_3_24 rfl ?_)))
        have f10 := n_and_r z7 s
        generalize (n_and z7 s) = z11 at f10 ⊢
        refine n_iload c_3_25 rfl ?_
        refine n_if2_ne c_3_27 (by omega) (by omega) ?_ ?_
        · intro h12
          refine n_fg (le_s (le_s (le_s (le_s (le_n le_0))))) ?_
          exact ih.2 _ (by omega) (by omega)
        · intro h13
          refine n_iload_n c_3_30 rfl (n_aload_n c_3_31 rfl (n_getR c_3_32 hp.c0.1.n rfl rfl rfl hp.r.1 (n_iload_n c_3_35 rfl (n_ialoadV c_3_36 hp.c0.2.1.n rfl rfl rfl (by omega) (t_actrl hS hp hpl (Or.inl rfl) (by omega) (by omega)) ?_))))
          intro z14 ez14 f15
          refine n_i_ishr c_3_37 rfl ?_
          have f16 := n_shr_r s z14
          generalize (n_shr s z14) = z17 at f16 ⊢
          refine n_iconst c_3_38 (n_i_iand c_3_39 rfl ?_)
          have f18 := n_and_y (x := z17) (y := 1) (by omega)
          generalize (n_and z17 1) = z19 at f18 ⊢
          refine n_if0_ne c_3_40 (by omega) ?_ ?_
          · intro h20
            refine n_fg (le_s (le_s (le_s (le_s (le_n le_0))))) ?_
            exact ih.2 _ (by omega) (by omega)
          · intro h21
            refine n_iconst c_3_43 ?_
            exact n_rZ c_3_44 rfl (by omega) ⟨rfl, by omega⟩
    · intro x3 k3 hnn
      refine n_iinc (L2 := [some (2, p), some (0, s), some (2, 4), some (0, (x3 + 1)), none]) c_3_45 rfl rfl rfl (n_goto c_3_48 (n_fg (le_s (le_s (le_s (le_s (le_n le_0))))) ?_))
      exact ih.1 _ (by omega) (by omega)
set_option maxHeartbeats 4000000 in
theorem staysIn_3 {xs : List Int32} {e : Nat} {ac : Int} {M0 M : nM} {p s : Int} (hS : Sf 3 ac M0 M) (hp : ActAt p) (hpl : p < 55 + 3 * ac) (hs : -2147483648 ≤ s ∧ s ≤ 2147483647) : nW xs (e + 1) 3 0 [some (2, p), some (0, s), some (2, 4), none, none] [] M (nPI fun z M1 => M = M1 ∧ (0 ≤ z ∧ z ≤ 1)) := by
  have hd : (3 : Int) = 2 ∨ (3 : Int) = 3 := by decide
  have hac := hS.2.2.2.2
  refine n_iconst c_3_0 (n_istore_n (L2 := [some (2, p), some (0, s), some (2, 4), some (0, 0), none]) c_3_1 rfl rfl (n_fg (le_s (le_s (le_s (le_s (le_n le_0))))) ?_))
  exact (staysIn_3_c hS hp hpl hs 126).1 _ (by omega) (by omega)

set_option maxHeartbeats 4000000 in
theorem part0_0_3 {xs : List Int32} {e : Nat} {ac : Int} {M0 M : nM} (hS : Sf 3 ac M0 M)  : nW xs e 6 0 [some (0, 0), some (0, 0)] [] M (nPI fun z M1 => M = M1 ∧ (0 ≤ z ∧ z ≤ 0)) := by
  have hd : (3 : Int) = 2 ∨ (3 : Int) = 3 := by decide
  have hac := hS.2.2.2.2
  refine n_iload_n c_6_0 rfl (n_iconst c_6_1 (n_iload_n c_6_2 rfl (n_imul c_6_3 rfl (n_i_ishr (z := 0) c_6_4 (by decide) ?_))))
  refine n_iconst c_6_5 (n_i_iand (z := 0) c_6_6 (by decide) ?_)
  exact n_rI c_6_7 rfl ⟨rfl, by omega⟩

set_option maxHeartbeats 4000000 in
theorem part0_1_3 {xs : List Int32} {e : Nat} {ac : Int} {M0 M : nM} (hS : Sf 3 ac M0 M)  : nW xs e 6 0 [some (0, 0), some (0, 1)] [] M (nPI fun z M1 => M = M1 ∧ (0 ≤ z ∧ z ≤ 0)) := by
  have hd : (3 : Int) = 2 ∨ (3 : Int) = 3 := by decide
  have hac := hS.2.2.2.2
  refine n_iload_n c_6_0 rfl (n_iconst c_6_1 (n_iload_n c_6_2 rfl (n_imul c_6_3 rfl (n_i_ishr (z := 0) c_6_4 (by decide) ?_))))
  refine n_iconst c_6_5 (n_i_iand (z := 0) c_6_6 (by decide) ?_)
  exact n_rI c_6_7 rfl ⟨rfl, by omega⟩

set_option maxHeartbeats 4000000 in
theorem part0_2_3 {xs : List Int32} {e : Nat} {ac : Int} {M0 M : nM} (hS : Sf 3 ac M0 M)  : nW xs e 6 0 [some (0, 0), some (0, 2)] [] M (nPI fun z M1 => M = M1 ∧ (0 ≤ z ∧ z ≤ 0)) := by
  have hd : (3 : Int) = 2 ∨ (3 : Int) = 3 := by decide
  have hac := hS.2.2.2.2
  refine n_iload_n c_6_0 rfl (n_iconst c_6_1 (n_iload_n c_6_2 rfl (n_imul c_6_3 rfl (n_i_ishr (z := 0) c_6_4 (by decide) ?_))))
  refine n_iconst c_6_5 (n_i_iand (z := 0) c_6_6 (by decide) ?_)
  exact n_rI c_6_7 rfl ⟨rfl, by omega⟩

set_option maxHeartbeats 4000000 in
theorem part0_3 {xs : List Int32} {e : Nat} {ac : Int} {M0 M : nM} {t : Int} (hS : Sf 3 ac M0 M) (ht : 0 ≤ t ∧ t ≤ 2) : nW xs e 6 0 [some (0, 0), some (0, t)] [] M (nPI fun z M1 => M = M1 ∧ (0 ≤ z ∧ z ≤ 2)) := by
  rcases (show t = 0 ∨ t = 1 ∨ t = 2 by omega) with rfl | rfl | rfl
  · exact n_post (part0_0_3 hS ) (fun w M1 h => by obtain ⟨z, rfl, h1, h2⟩ := h; exact ⟨z, rfl, h1, by omega⟩)
  · exact n_post (part0_1_3 hS ) (fun w M1 h => by obtain ⟨z, rfl, h1, h2⟩ := h; exact ⟨z, rfl, h1, by omega⟩)
  · exact n_post (part0_2_3 hS ) (fun w M1 h => by obtain ⟨z, rfl, h1, h2⟩ := h; exact ⟨z, rfl, h1, by omega⟩)

set_option maxHeartbeats 4000000 in
theorem keepsParts0_3_c {xs : List Int32} {e : Nat} {ac : Int} {M0 M : nM} {p : Int} (hS : Sf 3 ac M0 M) (hp : ActAt p) (hpl : p < 55 + 3 * ac) : ∀ nn : Nat, (∀ (x3 : Int), (0 ≤ x3 ∧ x3 ≤ 27) → (27 - x3) * 1 + 1 < (nn : Int) → nW xs (e + 1) 4 2 [some (2, p), some (0, 0), some (2, 4), some (0, x3), none] [] M (nPI fun z M1 => M = M1 ∧ (0 ≤ z ∧ z ≤ 1))) := by
  have hd : (3 : Int) = 2 ∨ (3 : Int) = 3 := by decide
  have hac := hS.2.2.2.2
  intro nn
  induction nn with
  | zero => intros; omega
  | succ nn ih =>
    intro x3 k3 hnn
    refine n_iload_n c_4_2 rfl (n_aload_n c_4_3 rfl (n_getV (bi := 1) c_4_4 hp.c0.1.n rfl rfl rfl (t_actl hS hp hpl).2 ?_))
    intro z1 ez1 f2
    refine n_if2_ge c_4_7 (by omega) (by omega) ?_ ?_
    · intro h3
      refine n_iconst c_4_90 ?_
      exact n_rZ c_4_91 rfl (by omega) ⟨rfl, by omega⟩
    · intro h4
      refine n_iload_n c_4_10 rfl (n_aload_n c_4_11 rfl (n_getR c_4_12 sc_4.n rfl rfl rfl r_4_2 (n_iload_n c_4_15 rfl (n_ialoadV c_4_16 sc_5.n rfl rfl rfl (by omega) (t_5d hS hd (by omega) (by omega)) ?_))))
      intro z5 ez5 f6
      refine n_s2I c_4_17 rfl rfl rfl rfl (part0_3 (t := z5) hS (by omega)) ?_
      intro z7 M8 hP9
      obtain ⟨eM, f9⟩ := hP9
      subst eM
      refine n_aload_n c_4_20 rfl (n_getV (bi := 0) c_4_21 sc_4.n rfl rfl rfl (t_4_0 hS) ?_)
      intro z10 ez10 f11
      obtain rfl : z10 = 3 := by omega
      refine n_imul c_4_24 rfl (n_iload_n c_4_25 rfl (n_aload_n c_4_26 rfl (n_getR c_4_27 sc_4.n rfl rfl rfl r_4_3 (n_iload_n c_4_30 rfl (n_ialoadV c_4_31 sc_6.n rfl rfl rfl (by omega) (t_6d hS hd (by omega) (by omega)) ?_)))))
      intro z12 ez12 f13
      refine n_s2I c_4_32 rfl rfl rfl rfl (part0_3 (t := z12) hS (by omega)) ?_
      intro z14 M15 hP16
      obtain ⟨eM, f16⟩ := hP16
      subst eM
      refine n_iadd c_4_35 rfl (n_istore (L2 := [some (2, p), some (0, 0), some (2, 4), some (0, x3), some (0, ((z7 * 3) + z14))]) c_4_36 rfl rfl (n_iload c_4_38 rfl (n_aload_n c_4_40 rfl (n_getV (bi := 0) c_4_41 sc_4.n rfl rfl rfl (t_4_0 hS) ?_))))
      intro z17 ez17 f18
      obtain rfl : z17 = 3 := by omega
      refine n_imul c_4_44 rfl (n_iload_n c_4_45 rfl (n_aload_n c_4_46 rfl (n_getR c_4_47 sc_4.n rfl rfl rfl r_4_4 (n_iload_n c_4_50 rfl (n_ialoadV c_4_51 sc_7.n rfl rfl rfl (by omega) (t_7d hS hd (by omega) (by omega)) ?_)))))
      intro z19 ez19 f20
      refine n_s2I c_4_52 rfl rfl rfl rfl (part0_3 (t := z19) hS (by omega)) ?_
      intro z21 M22 hP23
      obtain ⟨eM, f23⟩ := hP23
      subst eM
      refine n_iadd c_4_55 rfl (n_istore (L2 := [some (2, p), some (0, 0), some (2, 4), some (0, x3), some (0, ((((z7 * 3) + z14) * 3) + z21))]) c_4_56 rfl rfl (n_iload_n c_4_58 rfl (n_aload_n c_4_59 rfl (n_getR c_4_60 hp.c0.1.n rfl rfl rfl hp.r.1 (n_iload_n c_4_63 rfl (n_ialoadV c_4_64 hp.c0.2.1.n rfl rfl rfl (by omega) (t_actrl hS hp hpl (Or.inl rfl) (by omega) (by omega)) ?_))))))
      intro z24 ez24 f25
      refine n_s2I c_4_65 rfl rfl rfl rfl (part0_3 (t := z24) hS (by omega)) ?_
      intro z26 M27 hP28
      obtain ⟨eM, f28⟩ := hP28
      subst eM
      refine n_iload_n c_4_68 rfl (n_aload_n c_4_69 rfl (n_getR c_4_70 hp.c0.1.n rfl rfl rfl hp.r.1 (n_iload c_4_73 rfl (n_ialoadV c_4_75 hp.c0.2.1.n rfl rfl rfl (by omega) (t_actrl hS hp hpl (Or.inl rfl) (by omega) (by omega)) ?_))))
      intro z29 ez29 f30
      refine n_s2I c_4_76 rfl rfl rfl rfl (part0_3 (t := z29) hS (by omega)) ?_
      intro z31 M32 hP33
      obtain ⟨eM, f33⟩ := hP33
      subst eM
      refine n_if2_eq c_4_79 (by omega) (by omega) ?_ ?_
      · intro h34
        refine n_iinc (L2 := [some (2, p), some (0, 0), some (2, 4), some (0, (x3 + 1)), some (0, ((((z7 * 3) + z14) * 3) + z21))]) c_4_84 rfl rfl rfl (n_goto c_4_87 (n_fg (le_s (le_s (le_s (le_s (le_n le_0))))) ?_))
        exact ih _ (by omega) (by omega)
      · intro h35
        refine n_iconst c_4_82 ?_
        exact n_rZ c_4_83 rfl (by omega) ⟨rfl, by omega⟩
set_option maxHeartbeats 4000000 in
theorem keepsParts0_3 {xs : List Int32} {e : Nat} {ac : Int} {M0 M : nM} {p : Int} (hS : Sf 3 ac M0 M) (hp : ActAt p) (hpl : p < 55 + 3 * ac) : nW xs (e + 1) 4 0 [some (2, p), some (0, 0), some (2, 4), none, none] [] M (nPI fun z M1 => M = M1 ∧ (0 ≤ z ∧ z ≤ 1)) := by
  have hd : (3 : Int) = 2 ∨ (3 : Int) = 3 := by decide
  have hac := hS.2.2.2.2
  refine n_iconst c_4_0 (n_istore_n (L2 := [some (2, p), some (0, 0), some (2, 4), some (0, 0), none]) c_4_1 rfl rfl (n_fg (le_s (le_s (le_s (le_s (le_n le_0))))) ?_))
  exact (keepsParts0_3_c hS hp hpl 68) _ (by omega) (by omega)

set_option maxHeartbeats 4000000 in
theorem part4_0_3 {xs : List Int32} {e : Nat} {ac : Int} {M0 M : nM} (hS : Sf 3 ac M0 M)  : nW xs e 6 0 [some (0, 4), some (0, 0)] [] M (nPI fun z M1 => M = M1 ∧ (0 ≤ z ∧ z ≤ 0)) := by
  have hd : (3 : Int) = 2 ∨ (3 : Int) = 3 := by decide
  have hac := hS.2.2.2.2
  refine n_iload_n c_6_0 rfl (n_iconst c_6_1 (n_iload_n c_6_2 rfl (n_imul c_6_3 rfl (n_i_ishr (z := 4) c_6_4 (by decide) ?_))))
  refine n_iconst c_6_5 (n_i_iand (z := 0) c_6_6 (by decide) ?_)
  exact n_rI c_6_7 rfl ⟨rfl, by omega⟩

set_option maxHeartbeats 4000000 in
theorem part4_1_3 {xs : List Int32} {e : Nat} {ac : Int} {M0 M : nM} (hS : Sf 3 ac M0 M)  : nW xs e 6 0 [some (0, 4), some (0, 1)] [] M (nPI fun z M1 => M = M1 ∧ (1 ≤ z ∧ z ≤ 1)) := by
  have hd : (3 : Int) = 2 ∨ (3 : Int) = 3 := by decide
  have hac := hS.2.2.2.2
  refine n_iload_n c_6_0 rfl (n_iconst c_6_1 (n_iload_n c_6_2 rfl (n_imul c_6_3 rfl (n_i_ishr (z := 1) c_6_4 (by decide) ?_))))
  refine n_iconst c_6_5 (n_i_iand (z := 1) c_6_6 (by decide) ?_)
  exact n_rI c_6_7 rfl ⟨rfl, by omega⟩

set_option maxHeartbeats 4000000 in
theorem part4_2_3 {xs : List Int32} {e : Nat} {ac : Int} {M0 M : nM} (hS : Sf 3 ac M0 M)  : nW xs e 6 0 [some (0, 4), some (0, 2)] [] M (nPI fun z M1 => M = M1 ∧ (0 ≤ z ∧ z ≤ 0)) := by
  have hd : (3 : Int) = 2 ∨ (3 : Int) = 3 := by decide
  have hac := hS.2.2.2.2
  refine n_iload_n c_6_0 rfl (n_iconst c_6_1 (n_iload_n c_6_2 rfl (n_imul c_6_3 rfl (n_i_ishr (z := 0) c_6_4 (by decide) ?_))))
  refine n_iconst c_6_5 (n_i_iand (z := 0) c_6_6 (by decide) ?_)
  exact n_rI c_6_7 rfl ⟨rfl, by omega⟩

set_option maxHeartbeats 4000000 in
theorem part4_3 {xs : List Int32} {e : Nat} {ac : Int} {M0 M : nM} {t : Int} (hS : Sf 3 ac M0 M) (ht : 0 ≤ t ∧ t ≤ 2) : nW xs e 6 0 [some (0, 4), some (0, t)] [] M (nPI fun z M1 => M = M1 ∧ (0 ≤ z ∧ z ≤ 2)) := by
  rcases (show t = 0 ∨ t = 1 ∨ t = 2 by omega) with rfl | rfl | rfl
  · exact n_post (part4_0_3 hS ) (fun w M1 h => by obtain ⟨z, rfl, h1, h2⟩ := h; exact ⟨z, rfl, h1, by omega⟩)
  · exact n_post (part4_1_3 hS ) (fun w M1 h => by obtain ⟨z, rfl, h1, h2⟩ := h; exact ⟨z, rfl, h1, by omega⟩)
  · exact n_post (part4_2_3 hS ) (fun w M1 h => by obtain ⟨z, rfl, h1, h2⟩ := h; exact ⟨z, rfl, h1, by omega⟩)

set_option maxHeartbeats 4000000 in
theorem keepsParts4_3_c {xs : List Int32} {e : Nat} {ac : Int} {M0 M : nM} {p : Int} (hS : Sf 3 ac M0 M) (hp : ActAt p) (hpl : p < 55 + 3 * ac) : ∀ nn : Nat, (∀ (x3 : Int), (0 ≤ x3 ∧ x3 ≤ 27) → (27 - x3) * 1 + 1 < (nn : Int) → nW xs (e + 1) 4 2 [some (2, p), some (0, 4), some (2, 4), some (0, x3), none] [] M (nPI fun z M1 => M = M1 ∧ (0 ≤ z ∧ z ≤ 1))) := by
  have hd : (3 : Int) = 2 ∨ (3 : Int) = 3 := by decide
  have hac := hS.2.2.2.2
  intro nn
  induction nn with
  | zero => intros; omega
  | succ nn ih =>
    intro x3 k3 hnn
    refine n_iload_n c_4_2 rfl (n_aload_n c_4_3 rfl (n_getV (bi := 1) c_4_4 hp.c0.1.n rfl rfl rfl (t_actl hS hp hpl).2 ?_))
    intro z1 ez1 f2
    refine n_if2_ge c_4_7 (by omega) (by omega) ?_ ?_
    · intro h3
      refine n_iconst c_4_90 ?_
      exact n_rZ c_4_91 rfl (by omega) ⟨rfl, by omega⟩
    · intro h4
      refine n_iload_n c_4_10 rfl (n_aload_n c_4_11 rfl (n_getR c_4_12 sc_4.n rfl rfl rfl r_4_2 (n_iload_n c_4_15 rfl (n_ialoadV c_4_16 sc_5.n rfl rfl rfl (by omega) (t_5d hS hd (by omega) (by omega)) ?_))))
      intro z5 ez5 f6
      refine n_s2I c_4_17 rfl rfl rfl rfl (part4_3 (t := z5) hS (by omega)) ?_
      intro z7 M8 hP9
      obtain ⟨eM, f9⟩ := hP9
      subst eM
      refine n_aload_n c_4_20 rfl (n_getV (bi := 0) c_4_21 sc_4.n rfl rfl rfl (t_4_0 hS) ?_)
      intro z10 ez10 f11
      obtain rfl : z10 = 3 := by omega
      refine n_imul c_4_24 rfl (n_iload_n c_4_25 rfl (n_aload_n c_4_26 rfl (n_getR c_4_27 sc_4.n rfl rfl rfl r_4_3 (n_iload_n c_4_30 rfl (n_ialoadV c_4_31 sc_6.n rfl rfl rfl (by omega) (t_6d hS hd (by omega) (by omega)) ?_)))))
      intro z12 ez12 f13
      refine n_s2I c_4_32 rfl rfl rfl rfl (part4_3 (t := z12) hS (by omega)) ?_
      intro z14 M15 hP16
      obtain ⟨eM, f16⟩ := hP16
      subst eM
      refine n_iadd c_4_35 rfl (n_istore (L2 := [some (2, p), some (0, 4), some (2, 4), some (0, x3), some (0, ((z7 * 3) + z14))]) c_4_36 rfl rfl (n_iload c_4_38 rfl (n_aload_n c_4_40 rfl (n_getV (bi := 0) c_4_41 sc_4.n rfl rfl rfl (t_4_0 hS) ?_))))
      intro z17 ez17 f18
      obtain rfl : z17 = 3 := by omega
      refine n_imul c_4_44 rfl (n_iload_n c_4_45 rfl (n_aload_n c_4_46 rfl (n_getR c_4_47 sc_4.n rfl rfl rfl r_4_4 (n_iload_n c_4_50 rfl (n_ialoadV c_4_51 sc_7.n rfl rfl rfl (by omega) (t_7d hS hd (by omega) (by omega)) ?_)))))
      intro z19 ez19 f20
      refine n_s2I c_4_52 rfl rfl rfl rfl (part4_3 (t := z19) hS (by omega)) ?_
      intro z21 M22 hP23
      obtain ⟨eM, f23⟩ := hP23
      subst eM
      refine n_iadd c_4_55 rfl (n_istore (L2 := [some (2, p), some (0, 4), some (2, 4), some (0, x3), some (0, ((((z7 * 3) + z14) * 3) + z21))]) c_4_56 rfl rfl (n_iload_n c_4_58 rfl (n_aload_n c_4_59 rfl (n_getR c_4_60 hp.c0.1.n rfl rfl rfl hp.r.1 (n_iload_n c_4_63 rfl (n_ialoadV c_4_64 hp.c0.2.1.n rfl rfl rfl (by omega) (t_actrl hS hp hpl (Or.inl rfl) (by omega) (by omega)) ?_))))))
      intro z24 ez24 f25
      refine n_s2I c_4_65 rfl rfl rfl rfl (part4_3 (t := z24) hS (by omega)) ?_
      intro z26 M27 hP28
      obtain ⟨eM, f28⟩ := hP28
      subst eM
      refine n_iload_n c_4_68 rfl (n_aload_n c_4_69 rfl (n_getR c_4_70 hp.c0.1.n rfl rfl rfl hp.r.1 (n_iload c_4_73 rfl (n_ialoadV c_4_75 hp.c0.2.1.n rfl rfl rfl (by omega) (t_actrl hS hp hpl (Or.inl rfl) (by omega) (by omega)) ?_))))
      intro z29 ez29 f30
      refine n_s2I c_4_76 rfl rfl rfl rfl (part4_3 (t := z29) hS (by omega)) ?_
      intro z31 M32 hP33
      obtain ⟨eM, f33⟩ := hP33
      subst eM
      refine n_if2_eq c_4_79 (by omega) (by omega) ?_ ?_
      · intro h34
        refine n_iinc (L2 := [some (2, p), some (0, 4), some (2, 4), some (0, (x3 + 1)), some (0, ((((z7 * 3) + z14) * 3) + z21))]) c_4_84 rfl rfl rfl (n_goto c_4_87 (n_fg (le_s (le_s (le_s (le_s (le_n le_0))))) ?_))
        exact ih _ (by omega) (by omega)
      · intro h35
        refine n_iconst c_4_82 ?_
        exact n_rZ c_4_83 rfl (by omega) ⟨rfl, by omega⟩
set_option maxHeartbeats 4000000 in
theorem keepsParts4_3 {xs : List Int32} {e : Nat} {ac : Int} {M0 M : nM} {p : Int} (hS : Sf 3 ac M0 M) (hp : ActAt p) (hpl : p < 55 + 3 * ac) : nW xs (e + 1) 4 0 [some (2, p), some (0, 4), some (2, 4), none, none] [] M (nPI fun z M1 => M = M1 ∧ (0 ≤ z ∧ z ≤ 1)) := by
  have hd : (3 : Int) = 2 ∨ (3 : Int) = 3 := by decide
  have hac := hS.2.2.2.2
  refine n_iconst c_4_0 (n_istore_n (L2 := [some (2, p), some (0, 4), some (2, 4), some (0, 0), none]) c_4_1 rfl rfl (n_fg (le_s (le_s (le_s (le_s (le_n le_0))))) ?_))
  exact (keepsParts4_3_c hS hp hpl 68) _ (by omega) (by omega)

set_option maxHeartbeats 4000000 in
theorem part20_0_3 {xs : List Int32} {e : Nat} {ac : Int} {M0 M : nM} (hS : Sf 3 ac M0 M)  : nW xs e 6 0 [some (0, 20), some (0, 0)] [] M (nPI fun z M1 => M = M1 ∧ (0 ≤ z ∧ z ≤ 0)) := by
  have hd : (3 : Int) = 2 ∨ (3 : Int) = 3 := by decide
  have hac := hS.2.2.2.2
  refine n_iload_n c_6_0 rfl (n_iconst c_6_1 (n_iload_n c_6_2 rfl (n_imul c_6_3 rfl (n_i_ishr (z := 20) c_6_4 (by decide) ?_))))
  refine n_iconst c_6_5 (n_i_iand (z := 0) c_6_6 (by decide) ?_)
  exact n_rI c_6_7 rfl ⟨rfl, by omega⟩

set_option maxHeartbeats 4000000 in
theorem part20_1_3 {xs : List Int32} {e : Nat} {ac : Int} {M0 M : nM} (hS : Sf 3 ac M0 M)  : nW xs e 6 0 [some (0, 20), some (0, 1)] [] M (nPI fun z M1 => M = M1 ∧ (1 ≤ z ∧ z ≤ 1)) := by
  have hd : (3 : Int) = 2 ∨ (3 : Int) = 3 := by decide
  have hac := hS.2.2.2.2
  refine n_iload_n c_6_0 rfl (n_iconst c_6_1 (n_iload_n c_6_2 rfl (n_imul c_6_3 rfl (n_i_ishr (z := 5) c_6_4 (by decide) ?_))))
  refine n_iconst c_6_5 (n_i_iand (z := 1) c_6_6 (by decide) ?_)
  exact n_rI c_6_7 rfl ⟨rfl, by omega⟩

set_option maxHeartbeats 4000000 in
theorem part20_2_3 {xs : List Int32} {e : Nat} {ac : Int} {M0 M : nM} (hS : Sf 3 ac M0 M)  : nW xs e 6 0 [some (0, 20), some (0, 2)] [] M (nPI fun z M1 => M = M1 ∧ (1 ≤ z ∧ z ≤ 1)) := by
  have hd : (3 : Int) = 2 ∨ (3 : Int) = 3 := by decide
  have hac := hS.2.2.2.2
  refine n_iload_n c_6_0 rfl (n_iconst c_6_1 (n_iload_n c_6_2 rfl (n_imul c_6_3 rfl (n_i_ishr (z := 1) c_6_4 (by decide) ?_))))
  refine n_iconst c_6_5 (n_i_iand (z := 1) c_6_6 (by decide) ?_)
  exact n_rI c_6_7 rfl ⟨rfl, by omega⟩

set_option maxHeartbeats 4000000 in
theorem part20_3 {xs : List Int32} {e : Nat} {ac : Int} {M0 M : nM} {t : Int} (hS : Sf 3 ac M0 M) (ht : 0 ≤ t ∧ t ≤ 2) : nW xs e 6 0 [some (0, 20), some (0, t)] [] M (nPI fun z M1 => M = M1 ∧ (0 ≤ z ∧ z ≤ 2)) := by
  rcases (show t = 0 ∨ t = 1 ∨ t = 2 by omega) with rfl | rfl | rfl
  · exact n_post (part20_0_3 hS ) (fun w M1 h => by obtain ⟨z, rfl, h1, h2⟩ := h; exact ⟨z, rfl, h1, by omega⟩)
  · exact n_post (part20_1_3 hS ) (fun w M1 h => by obtain ⟨z, rfl, h1, h2⟩ := h; exact ⟨z, rfl, h1, by omega⟩)
  · exact n_post (part20_2_3 hS ) (fun w M1 h => by obtain ⟨z, rfl, h1, h2⟩ := h; exact ⟨z, rfl, h1, by omega⟩)

set_option maxHeartbeats 4000000 in
theorem keepsParts20_3_c {xs : List Int32} {e : Nat} {ac : Int} {M0 M : nM} {p : Int} (hS : Sf 3 ac M0 M) (hp : ActAt p) (hpl : p < 55 + 3 * ac) : ∀ nn : Nat, (∀ (x3 : Int), (0 ≤ x3 ∧ x3 ≤ 27) → (27 - x3) * 1 + 1 < (nn : Int) → nW xs (e + 1) 4 2 [some (2, p), some (0, 20), some (2, 4), some (0, x3), none] [] M (nPI fun z M1 => M = M1 ∧ (0 ≤ z ∧ z ≤ 1))) := by
  have hd : (3 : Int) = 2 ∨ (3 : Int) = 3 := by decide
  have hac := hS.2.2.2.2
  intro nn
  induction nn with
  | zero => intros; omega
  | succ nn ih =>
    intro x3 k3 hnn
    refine n_iload_n c_4_2 rfl (n_aload_n c_4_3 rfl (n_getV (bi := 1) c_4_4 hp.c0.1.n rfl rfl rfl (t_actl hS hp hpl).2 ?_))
    intro z1 ez1 f2
    refine n_if2_ge c_4_7 (by omega) (by omega) ?_ ?_
    · intro h3
      refine n_iconst c_4_90 ?_
      exact n_rZ c_4_91 rfl (by omega) ⟨rfl, by omega⟩
    · intro h4
      refine n_iload_n c_4_10 rfl (n_aload_n c_4_11 rfl (n_getR c_4_12 sc_4.n rfl rfl rfl r_4_2 (n_iload_n c_4_15 rfl (n_ialoadV c_4_16 sc_5.n rfl rfl rfl (by omega) (t_5d hS hd (by omega) (by omega)) ?_))))
      intro z5 ez5 f6
      refine n_s2I c_4_17 rfl rfl rfl rfl (part20_3 (t := z5) hS (by omega)) ?_
      intro z7 M8 hP9
      obtain ⟨eM, f9⟩ := hP9
      subst eM
      refine n_aload_n c_4_20 rfl (n_getV (bi := 0) c_4_21 sc_4.n rfl rfl rfl (t_4_0 hS) ?_)
      intro z10 ez10 f11
      obtain rfl : z10 = 3 := by omega
      refine n_imul c_4_24 rfl (n_iload_n c_4_25 rfl (n_aload_n c_4_26 rfl (n_getR c_4_27 sc_4.n rfl rfl rfl r_4_3 (n_iload_n c_4_30 rfl (n_ialoadV c_4_31 sc_6.n rfl rfl rfl (by omega) (t_6d hS hd (by omega) (by omega)) ?_)))))
      intro z12 ez12 f13
      refine n_s2I c_4_32 rfl rfl rfl rfl (part20_3 (t := z12) hS (by omega)) ?_
      intro z14 M15 hP16
      obtain ⟨eM, f16⟩ := hP16
      subst eM
      refine n_iadd c_4_35 rfl (n_istore (L2 := [some (2, p), some (0, 20), some (2, 4), some (0, x3), some (0, ((z7 * 3) + z14))]) c_4_36 rfl rfl (n_iload c_4_38 rfl (n_aload_n c_4_40 rfl (n_getV (bi := 0) c_4_41 sc_4.n rfl rfl rfl (t_4_0 hS) ?_))))
      intro z17 ez17 f18
      obtain rfl : z17 = 3 := by omega
      refine n_imul c_4_44 rfl (n_iload_n c_4_45 rfl (n_aload_n c_4_46 rfl (n_getR c_4_47 sc_4.n rfl rfl rfl r_4_4 (n_iload_n c_4_50 rfl (n_ialoadV c_4_51 sc_7.n rfl rfl rfl (by omega) (t_7d hS hd (by omega) (by omega)) ?_)))))
      intro z19 ez19 f20
      refine n_s2I c_4_52 rfl rfl rfl rfl (part20_3 (t := z19) hS (by omega)) ?_
      intro z21 M22 hP23
      obtain ⟨eM, f23⟩ := hP23
      subst eM
      refine n_iadd c_4_55 rfl (n_istore (L2 := [some (2, p), some (0, 20), some (2, 4), some (0, x3), some (0, ((((z7 * 3) + z14) * 3) + z21))]) c_4_56 rfl rfl (n_iload_n c_4_58 rfl (n_aload_n c_4_59 rfl (n_getR c_4_60 hp.c0.1.n rfl rfl rfl hp.r.1 (n_iload_n c_4_63 rfl (n_ialoadV c_4_64 hp.c0.2.1.n rfl rfl rfl (by omega) (t_actrl hS hp hpl (Or.inl rfl) (by omega) (by omega)) ?_))))))
      intro z24 ez24 f25
      refine n_s2I c_4_65 rfl rfl rfl rfl (part20_3 (t := z24) hS (by omega)) ?_
      intro z26 M27 hP28
      obtain ⟨eM, f28⟩ := hP28
      subst eM
      refine n_iload_n c_4_68 rfl (n_aload_n c_4_69 rfl (n_getR c_4_70 hp.c0.1.n rfl rfl rfl hp.r.1 (n_iload c_4_73 rfl (n_ialoadV c_4_75 hp.c0.2.1.n rfl rfl rfl (by omega) (t_actrl hS hp hpl (Or.inl rfl) (by omega) (by omega)) ?_))))
      intro z29 ez29 f30
      refine n_s2I c_4_76 rfl rfl rfl rfl (part20_3 (t := z29) hS (by omega)) ?_
      intro z31 M32 hP33
      obtain ⟨eM, f33⟩ := hP33
      subst eM
      refine n_if2_eq c_4_79 (by omega) (by omega) ?_ ?_
      · intro h34
        refine n_iinc (L2 := [some (2, p), some (0, 20), some (2, 4), some (0, (x3 + 1)), some (0, ((((z7 * 3) + z14) * 3) + z21))]) c_4_84 rfl rfl rfl (n_goto c_4_87 (n_fg (le_s (le_s (le_s (le_s (le_n le_0))))) ?_))
        exact ih _ (by omega) (by omega)
      · intro h35
        refine n_iconst c_4_82 ?_
        exact n_rZ c_4_83 rfl (by omega) ⟨rfl, by omega⟩
set_option maxHeartbeats 4000000 in
theorem keepsParts20_3 {xs : List Int32} {e : Nat} {ac : Int} {M0 M : nM} {p : Int} (hS : Sf 3 ac M0 M) (hp : ActAt p) (hpl : p < 55 + 3 * ac) : nW xs (e + 1) 4 0 [some (2, p), some (0, 20), some (2, 4), none, none] [] M (nPI fun z M1 => M = M1 ∧ (0 ≤ z ∧ z ≤ 1)) := by
  have hd : (3 : Int) = 2 ∨ (3 : Int) = 3 := by decide
  have hac := hS.2.2.2.2
  refine n_iconst c_4_0 (n_istore_n (L2 := [some (2, p), some (0, 20), some (2, 4), some (0, 0), none]) c_4_1 rfl rfl (n_fg (le_s (le_s (le_s (le_s (le_n le_0))))) ?_))
  exact (keepsParts20_3_c hS hp hpl 68) _ (by omega) (by omega)

set_option maxHeartbeats 4000000 in
theorem part32_0_3 {xs : List Int32} {e : Nat} {ac : Int} {M0 M : nM} (hS : Sf 3 ac M0 M)  : nW xs e 6 0 [some (0, 32), some (0, 0)] [] M (nPI fun z M1 => M = M1 ∧ (0 ≤ z ∧ z ≤ 0)) := by
  have hd : (3 : Int) = 2 ∨ (3 : Int) = 3 := by decide
  have hac := hS.2.2.2.2
  refine n_iload_n c_6_0 rfl (n_iconst c_6_1 (n_iload_n c_6_2 rfl (n_imul c_6_3 rfl (n_i_ishr (z := 32) c_6_4 (by decide) ?_))))
  refine n_iconst c_6_5 (n_i_iand (z := 0) c_6_6 (by decide) ?_)
  exact n_rI c_6_7 rfl ⟨rfl, by omega⟩

set_option maxHeartbeats 4000000 in
theorem part32_1_3 {xs : List Int32} {e : Nat} {ac : Int} {M0 M : nM} (hS : Sf 3 ac M0 M)  : nW xs e 6 0 [some (0, 32), some (0, 1)] [] M (nPI fun z M1 => M = M1 ∧ (0 ≤ z ∧ z ≤ 0)) := by
  have hd : (3 : Int) = 2 ∨ (3 : Int) = 3 := by decide
  have hac := hS.2.2.2.2
  refine n_iload_n c_6_0 rfl (n_iconst c_6_1 (n_iload_n c_6_2 rfl (n_imul c_6_3 rfl (n_i_ishr (z := 8) c_6_4 (by decide) ?_))))
  refine n_iconst c_6_5 (n_i_iand (z := 0) c_6_6 (by decide) ?_)
  exact n_rI c_6_7 rfl ⟨rfl, by omega⟩

set_option maxHeartbeats 4000000 in
theorem part32_2_3 {xs : List Int32} {e : Nat} {ac : Int} {M0 M : nM} (hS : Sf 3 ac M0 M)  : nW xs e 6 0 [some (0, 32), some (0, 2)] [] M (nPI fun z M1 => M = M1 ∧ (2 ≤ z ∧ z ≤ 2)) := by
  have hd : (3 : Int) = 2 ∨ (3 : Int) = 3 := by decide
  have hac := hS.2.2.2.2
  refine n_iload_n c_6_0 rfl (n_iconst c_6_1 (n_iload_n c_6_2 rfl (n_imul c_6_3 rfl (n_i_ishr (z := 2) c_6_4 (by decide) ?_))))
  refine n_iconst c_6_5 (n_i_iand (z := 2) c_6_6 (by decide) ?_)
  exact n_rI c_6_7 rfl ⟨rfl, by omega⟩

set_option maxHeartbeats 4000000 in
theorem part32_3 {xs : List Int32} {e : Nat} {ac : Int} {M0 M : nM} {t : Int} (hS : Sf 3 ac M0 M) (ht : 0 ≤ t ∧ t ≤ 2) : nW xs e 6 0 [some (0, 32), some (0, t)] [] M (nPI fun z M1 => M = M1 ∧ (0 ≤ z ∧ z ≤ 2)) := by
  rcases (show t = 0 ∨ t = 1 ∨ t = 2 by omega) with rfl | rfl | rfl
  · exact n_post (part32_0_3 hS ) (fun w M1 h => by obtain ⟨z, rfl, h1, h2⟩ := h; exact ⟨z, rfl, h1, by omega⟩)
  · exact n_post (part32_1_3 hS ) (fun w M1 h => by obtain ⟨z, rfl, h1, h2⟩ := h; exact ⟨z, rfl, h1, by omega⟩)
  · exact n_post (part32_2_3 hS ) (fun w M1 h => by obtain ⟨z, rfl, h1, h2⟩ := h; exact ⟨z, rfl, h1, by omega⟩)

set_option maxHeartbeats 4000000 in
theorem keepsParts32_3_c {xs : List Int32} {e : Nat} {ac : Int} {M0 M : nM} {p : Int} (hS : Sf 3 ac M0 M) (hp : ActAt p) (hpl : p < 55 + 3 * ac) : ∀ nn : Nat, (∀ (x3 : Int), (0 ≤ x3 ∧ x3 ≤ 27) → (27 - x3) * 1 + 1 < (nn : Int) → nW xs (e + 1) 4 2 [some (2, p), some (0, 32), some (2, 4), some (0, x3), none] [] M (nPI fun z M1 => M = M1 ∧ (0 ≤ z ∧ z ≤ 1))) := by
  have hd : (3 : Int) = 2 ∨ (3 : Int) = 3 := by decide
  have hac := hS.2.2.2.2
  intro nn
  induction nn with
  | zero => intros; omega
  | succ nn ih =>
    intro x3 k3 hnn
    refine n_iload_n c_4_2 rfl (n_aload_n c_4_3 rfl (n_getV (bi := 1) c_4_4 hp.c0.1.n rfl rfl rfl (t_actl hS hp hpl).2 ?_))
    intro z1 ez1 f2
    refine n_if2_ge c_4_7 (by omega) (by omega) ?_ ?_
    · intro h3
      refine n_iconst c_4_90 ?_
      exact n_rZ c_4_91 rfl (by omega) ⟨rfl, by omega⟩
    · intro h4
      refine n_iload_n c_4_10 rfl (n_aload_n c_4_11 rfl (n_getR c_4_12 sc_4.n rfl rfl rfl r_4_2 (n_iload_n c_4_15 rfl (n_ialoadV c_4_16 sc_5.n rfl rfl rfl (by omega) (t_5d hS hd (by omega) (by omega)) ?_))))
      intro z5 ez5 f6
      refine n_s2I c_4_17 rfl rfl rfl rfl (part32_3 (t := z5) hS (by omega)) ?_
      intro z7 M8 hP9
      obtain ⟨eM, f9⟩ := hP9
      subst eM
      refine n_aload_n c_4_20 rfl (n_getV (bi := 0) c_4_21 sc_4.n rfl rfl rfl (t_4_0 hS) ?_)
      intro z10 ez10 f11
      obtain rfl : z10 = 3 := by omega
      refine n_imul c_4_24 rfl (n_iload_n c_4_25 rfl (n_aload_n c_4_26 rfl (n_getR c_4_27 sc_4.n rfl rfl rfl r_4_3 (n_iload_n c_4_30 rfl (n_ialoadV c_4_31 sc_6.n rfl rfl rfl (by omega) (t_6d hS hd (by omega) (by omega)) ?_)))))
      intro z12 ez12 f13
      refine n_s2I c_4_32 rfl rfl rfl rfl (part32_3 (t := z12) hS (by omega)) ?_
      intro z14 M15 hP16
      obtain ⟨eM, f16⟩ := hP16
      subst eM
      refine n_iadd c_4_35 rfl (n_istore (L2 := [some (2, p), some (0, 32), some (2, 4), some (0, x3), some (0, ((z7 * 3) + z14))]) c_4_36 rfl rfl (n_iload c_4_38 rfl (n_aload_n c_4_40 rfl (n_getV (bi := 0) c_4_41 sc_4.n rfl rfl rfl (t_4_0 hS) ?_))))
      intro z17 ez17 f18
      obtain rfl : z17 = 3 := by omega
      refine n_imul c_4_44 rfl (n_iload_n c_4_45 rfl (n_aload_n c_4_46 rfl (n_getR c_4_47 sc_4.n rfl rfl rfl r_4_4 (n_iload_n c_4_50 rfl (n_ialoadV c_4_51 sc_7.n rfl rfl rfl (by omega) (t_7d hS hd (by omega) (by omega)) ?_)))))
      intro z19 ez19 f20
      refine n_s2I c_4_52 rfl rfl rfl rfl (part32_3 (t := z19) hS (by omega)) ?_
      intro z21 M22 hP23
      obtain ⟨eM, f23⟩ := hP23
      subst eM
      refine n_iadd c_4_55 rfl (n_istore (L2 := [some (2, p), some (0, 32), some (2, 4), some (0, x3), some (0, ((((z7 * 3) + z14) * 3) + z21))]) c_4_56 rfl rfl (n_iload_n c_4_58 rfl (n_aload_n c_4_59 rfl (n_getR c_4_60 hp.c0.1.n rfl rfl rfl hp.r.1 (n_iload_n c_4_63 rfl (n_ialoadV c_4_64 hp.c0.2.1.n rfl rfl rfl (by omega) (t_actrl hS hp hpl (Or.inl rfl) (by omega) (by omega)) ?_))))))
      intro z24 ez24 f25
      refine n_s2I c_4_65 rfl rfl rfl rfl (part32_3 (t := z24) hS (by omega)) ?_
      intro z26 M27 hP28
      obtain ⟨eM, f28⟩ := hP28
      subst eM
      refine n_iload_n c_4_68 rfl (n_aload_n c_4_69 rfl (n_getR c_4_70 hp.c0.1.n rfl rfl rfl hp.r.1 (n_iload c_4_73 rfl (n_ialoadV c_4_75 hp.c0.2.1.n rfl rfl rfl (by omega) (t_actrl hS hp hpl (Or.inl rfl) (by omega) (by omega)) ?_))))
      intro z29 ez29 f30
      refine n_s2I c_4_76 rfl rfl rfl rfl (part32_3 (t := z29) hS (by omega)) ?_
      intro z31 M32 hP33
      obtain ⟨eM, f33⟩ := hP33
      subst eM
      refine n_if2_eq c_4_79 (by omega) (by omega) ?_ ?_
      · intro h34
        refine n_iinc (L2 := [some (2, p), some (0, 32), some (2, 4), some (0, (x3 + 1)), some (0, ((((z7 * 3) + z14) * 3) + z21))]) c_4_84 rfl rfl rfl (n_goto c_4_87 (n_fg (le_s (le_s (le_s (le_s (le_n le_0))))) ?_))
        exact ih _ (by omega) (by omega)
      · intro h35
        refine n_iconst c_4_82 ?_
        exact n_rZ c_4_83 rfl (by omega) ⟨rfl, by omega⟩
set_option maxHeartbeats 4000000 in
theorem keepsParts32_3 {xs : List Int32} {e : Nat} {ac : Int} {M0 M : nM} {p : Int} (hS : Sf 3 ac M0 M) (hp : ActAt p) (hpl : p < 55 + 3 * ac) : nW xs (e + 1) 4 0 [some (2, p), some (0, 32), some (2, 4), none, none] [] M (nPI fun z M1 => M = M1 ∧ (0 ≤ z ∧ z ≤ 1)) := by
  have hd : (3 : Int) = 2 ∨ (3 : Int) = 3 := by decide
  have hac := hS.2.2.2.2
  refine n_iconst c_4_0 (n_istore_n (L2 := [some (2, p), some (0, 32), some (2, 4), some (0, 0), none]) c_4_1 rfl rfl (n_fg (le_s (le_s (le_s (le_s (le_n le_0))))) ?_))
  exact (keepsParts32_3_c hS hp hpl 68) _ (by omega) (by omega)

set_option maxHeartbeats 4000000 in
theorem part36_0_3 {xs : List Int32} {e : Nat} {ac : Int} {M0 M : nM} (hS : Sf 3 ac M0 M)  : nW xs e 6 0 [some (0, 36), some (0, 0)] [] M (nPI fun z M1 => M = M1 ∧ (0 ≤ z ∧ z ≤ 0)) := by
  have hd : (3 : Int) = 2 ∨ (3 : Int) = 3 := by decide
  have hac := hS.2.2.2.2
  refine n_iload_n c_6_0 rfl (n_iconst c_6_1 (n_iload_n c_6_2 rfl (n_imul c_6_3 rfl (n_i_ishr (z := 36) c_6_4 (by decide) ?_))))
  refine n_iconst c_6_5 (n_i_iand (z := 0) c_6_6 (by decide) ?_)
  exact n_rI c_6_7 rfl ⟨rfl, by omega⟩

set_option maxHeartbeats 4000000 in
theorem part36_1_3 {xs : List Int32} {e : Nat} {ac : Int} {M0 M : nM} (hS : Sf 3 ac M0 M)  : nW xs e 6 0 [some (0, 36), some (0, 1)] [] M (nPI fun z M1 => M = M1 ∧ (1 ≤ z ∧ z ≤ 1)) := by
  have hd : (3 : Int) = 2 ∨ (3 : Int) = 3 := by decide
  have hac := hS.2.2.2.2
  refine n_iload_n c_6_0 rfl (n_iconst c_6_1 (n_iload_n c_6_2 rfl (n_imul c_6_3 rfl (n_i_ishr (z := 9) c_6_4 (by decide) ?_))))
  refine n_iconst c_6_5 (n_i_iand (z := 1) c_6_6 (by decide) ?_)
  exact n_rI c_6_7 rfl ⟨rfl, by omega⟩

set_option maxHeartbeats 4000000 in
theorem part36_2_3 {xs : List Int32} {e : Nat} {ac : Int} {M0 M : nM} (hS : Sf 3 ac M0 M)  : nW xs e 6 0 [some (0, 36), some (0, 2)] [] M (nPI fun z M1 => M = M1 ∧ (2 ≤ z ∧ z ≤ 2)) := by
  have hd : (3 : Int) = 2 ∨ (3 : Int) = 3 := by decide
  have hac := hS.2.2.2.2
  refine n_iload_n c_6_0 rfl (n_iconst c_6_1 (n_iload_n c_6_2 rfl (n_imul c_6_3 rfl (n_i_ishr (z := 2) c_6_4 (by decide) ?_))))
  refine n_iconst c_6_5 (n_i_iand (z := 2) c_6_6 (by decide) ?_)
  exact n_rI c_6_7 rfl ⟨rfl, by omega⟩

set_option maxHeartbeats 4000000 in
theorem part36_3 {xs : List Int32} {e : Nat} {ac : Int} {M0 M : nM} {t : Int} (hS : Sf 3 ac M0 M) (ht : 0 ≤ t ∧ t ≤ 2) : nW xs e 6 0 [some (0, 36), some (0, t)] [] M (nPI fun z M1 => M = M1 ∧ (0 ≤ z ∧ z ≤ 2)) := by
  rcases (show t = 0 ∨ t = 1 ∨ t = 2 by omega) with rfl | rfl | rfl
  · exact n_post (part36_0_3 hS ) (fun w M1 h => by obtain ⟨z, rfl, h1, h2⟩ := h; exact ⟨z, rfl, h1, by omega⟩)
  · exact n_post (part36_1_3 hS ) (fun w M1 h => by obtain ⟨z, rfl, h1, h2⟩ := h; exact ⟨z, rfl, h1, by omega⟩)
  · exact n_post (part36_2_3 hS ) (fun w M1 h => by obtain ⟨z, rfl, h1, h2⟩ := h; exact ⟨z, rfl, h1, by omega⟩)

set_option maxHeartbeats 4000000 in
theorem keepsParts36_3_c {xs : List Int32} {e : Nat} {ac : Int} {M0 M : nM} {p : Int} (hS : Sf 3 ac M0 M) (hp : ActAt p) (hpl : p < 55 + 3 * ac) : ∀ nn : Nat, (∀ (x3 : Int), (0 ≤ x3 ∧ x3 ≤ 27) → (27 - x3) * 1 + 1 < (nn : Int) → nW xs (e + 1) 4 2 [some (2, p), some (0, 36), some (2, 4), some (0, x3), none] [] M (nPI fun z M1 => M = M1 ∧ (0 ≤ z ∧ z ≤ 1))) := by
  have hd : (3 : Int) = 2 ∨ (3 : Int) = 3 := by decide
  have hac := hS.2.2.2.2
  intro nn
  induction nn with
  | zero => intros; omega
  | succ nn ih =>
    intro x3 k3 hnn
    refine n_iload_n c_4_2 rfl (n_aload_n c_4_3 rfl (n_getV (bi := 1) c_4_4 hp.c0.1.n rfl rfl rfl (t_actl hS hp hpl).2 ?_))
    intro z1 ez1 f2
    refine n_if2_ge c_4_7 (by omega) (by omega) ?_ ?_
    · intro h3
      refine n_iconst c_4_90 ?_
      exact n_rZ c_4_91 rfl (by omega) ⟨rfl, by omega⟩
    · intro h4
      refine n_iload_n c_4_10 rfl (n_aload_n c_4_11 rfl (n_getR c_4_12 sc_4.n rfl rfl rfl r_4_2 (n_iload_n c_4_15 rfl (n_ialoadV c_4_16 sc_5.n rfl rfl rfl (by omega) (t_5d hS hd (by omega) (by omega)) ?_))))
      intro z5 ez5 f6
      refine n_s2I c_4_17 rfl rfl rfl rfl (part36_3 (t := z5) hS (by omega)) ?_
      intro z7 M8 hP9
      obtain ⟨eM, f9⟩ := hP9
      subst eM
      refine n_aload_n c_4_20 rfl (n_getV (bi := 0) c_4_21 sc_4.n rfl rfl rfl (t_4_0 hS) ?_)
      intro z10 ez10 f11
      obtain rfl : z10 = 3 := by omega
      refine n_imul c_4_24 rfl (n_iload_n c_4_25 rfl (n_aload_n c_4_26 rfl (n_getR c_4_27 sc_4.n rfl rfl rfl r_4_3 (n_iload_n c_4_30 rfl (n_ialoadV c_4_31 sc_6.n rfl rfl rfl (by omega) (t_6d hS hd (by omega) (by omega)) ?_)))))
      intro z12 ez12 f13
      refine n_s2I c_4_32 rfl rfl rfl rfl (part36_3 (t := z12) hS (by omega)) ?_
      intro z14 M15 hP16
      obtain ⟨eM, f16⟩ := hP16
      subst eM
      refine n_iadd c_4_35 rfl (n_istore (L2 := [some (2, p), some (0, 36), some (2, 4), some (0, x3), some (0, ((z7 * 3) + z14))]) c_4_36 rfl rfl (n_iload c_4_38 rfl (n_aload_n c_4_40 rfl (n_getV (bi := 0) c_4_41 sc_4.n rfl rfl rfl (t_4_0 hS) ?_))))
      intro z17 ez17 f18
      obtain rfl : z17 = 3 := by omega
      refine n_imul c_4_44 rfl (n_iload_n c_4_45 rfl (n_aload_n c_4_46 rfl (n_getR c_4_47 sc_4.n rfl rfl rfl r_4_4 (n_iload_n c_4_50 rfl (n_ialoadV c_4_51 sc_7.n rfl rfl rfl (by omega) (t_7d hS hd (by omega) (by omega)) ?_)))))
      intro z19 ez19 f20
      refine n_s2I c_4_52 rfl rfl rfl rfl (part36_3 (t := z19) hS (by omega)) ?_
      intro z21 M22 hP23
      obtain ⟨eM, f23⟩ := hP23
      subst eM
      refine n_iadd c_4_55 rfl (n_istore (L2 := [some (2, p), some (0, 36), some (2, 4), some (0, x3), some (0, ((((z7 * 3) + z14) * 3) + z21))]) c_4_56 rfl rfl (n_iload_n c_4_58 rfl (n_aload_n c_4_59 rfl (n_getR c_4_60 hp.c0.1.n rfl rfl rfl hp.r.1 (n_iload_n c_4_63 rfl (n_ialoadV c_4_64 hp.c0.2.1.n rfl rfl rfl (by omega) (t_actrl hS hp hpl (Or.inl rfl) (by omega) (by omega)) ?_))))))
      intro z24 ez24 f25
      refine n_s2I c_4_65 rfl rfl rfl rfl (part36_3 (t := z24) hS (by omega)) ?_
      intro z26 M27 hP28
      obtain ⟨eM, f28⟩ := hP28
      subst eM
      refine n_iload_n c_4_68 rfl (n_aload_n c_4_69 rfl (n_getR c_4_70 hp.c0.1.n rfl rfl rfl hp.r.1 (n_iload c_4_73 rfl (n_ialoadV c_4_75 hp.c0.2.1.n rfl rfl rfl (by omega) (t_actrl hS hp hpl (Or.inl rfl) (by omega) (by omega)) ?_))))
      intro z29 ez29 f30
      refine n_s2I c_4_76 rfl rfl rfl rfl (part36_3 (t := z29) hS (by omega)) ?_
      intro z31 M32 hP33
      obtain ⟨eM, f33⟩ := hP33
      subst eM
      refine n_if2_eq c_4_79 (by omega) (by omega) ?_ ?_
      · intro h34
        refine n_iinc (L2 := [some (2, p), some (0, 36), some (2, 4), some (0, (x3 + 1)), some (0, ((((z7 * 3) + z14) * 3) + z21))]) c_4_84 rfl rfl rfl (n_goto c_4_87 (n_fg (le_s (le_s (le_s (le_s (le_n le_0))))) ?_))
        exact ih _ (by omega) (by omega)
      · intro h35
        refine n_iconst c_4_82 ?_
        exact n_rZ c_4_83 rfl (by omega) ⟨rfl, by omega⟩
set_option maxHeartbeats 4000000 in
theorem keepsParts36_3 {xs : List Int32} {e : Nat} {ac : Int} {M0 M : nM} {p : Int} (hS : Sf 3 ac M0 M) (hp : ActAt p) (hpl : p < 55 + 3 * ac) : nW xs (e + 1) 4 0 [some (2, p), some (0, 36), some (2, 4), none, none] [] M (nPI fun z M1 => M = M1 ∧ (0 ≤ z ∧ z ≤ 1)) := by
  have hd : (3 : Int) = 2 ∨ (3 : Int) = 3 := by decide
  have hac := hS.2.2.2.2
  refine n_iconst c_4_0 (n_istore_n (L2 := [some (2, p), some (0, 36), some (2, 4), some (0, 0), none]) c_4_1 rfl rfl (n_fg (le_s (le_s (le_s (le_s (le_n le_0))))) ?_))
  exact (keepsParts36_3_c hS hp hpl 68) _ (by omega) (by omega)

set_option maxHeartbeats 4000000 in
theorem fillLT_3_c {xs : List Int32} {e : Nat} {ac : Int} {M0 M : nM} {p i j : Int} (hS : Sf 3 ac M0 M) (hp : ActAt p) (hpl : p < 55 + 3 * ac) (hi : 0 ≤ i ∧ i ≤ 26) (hj : 0 ≤ j ∧ j ≤ 26) : ∀ nn : Nat, (∀ (x5 x6 x7 x8 x9 x10 : Int) (M : nM), Sf 3 ac M0 M → (3 ≤ x5 ∧ x5 ≤ 3) → (0 ≤ x6 ∧ x6 ≤ 24) → (0 ≤ x7 ∧ x7 ≤ 24) → (0 ≤ x8 ∧ x8 ≤ 24) → (0 ≤ x9 ∧ x9 ≤ 27) → (0 ≤ x10 ∧ x10 ≤ 3) → (x9 = 9 * x10) → (3 - x10) * 31 + 31 < (nn : Int) → nW xs e 45 86 [some (2, 52), none, some (2, (p + 1)), none, none, some (0, x5), some (0, x6), some (0, x7), some (0, x8), some (0, x9), some (0, x10), none, none, none, none] [] M (nPV fun M1 => Sf 3 ac M0 M1)) ∧ (∀ (x5 x6 x7 x8 x9 x10 x11 x12 : Int) (M : nM), Sf 3 ac M0 M → (3 ≤ x5 ∧ x5 ≤ 3) → (0 ≤ x6 ∧ x6 ≤ 24) → (0 ≤ x7 ∧ x7 ≤ 24) → (0 ≤ x8 ∧ x8 ≤ 24) → (0 ≤ x9 ∧ x9 ≤ 27) → (0 ≤ x10 ∧ x10 ≤ 2) → (0 ≤ x11 ∧ x11 ≤ 18) → (0 ≤ x12 ∧ x12 ≤ 3) → (x9 = 9 * x10 + 3 * x12) → (3 - x10) * 31 + (3 - x12) * 6 + 6 < (nn : Int) → nW xs e 45 110 [some (2, 52), none, some (2, (p + 1)), none, none, some (0, x5), some (0, x6), some (0, x7), some (0, x8), some (0, x9), some (0, x10), some (0, x11), some (0, x12), none, none] [] M (nPV fun M1 => Sf 3 ac M0 M1)) ∧ (∀ (x5 x6 x7 x8 x9 x10 x11 x12 x13 x14 : Int) (M : nM), Sf 3 ac M0 M → (3 ≤ x5 ∧ x5 ≤ 3) → (0 ≤ x6 ∧ x6 ≤ 24) → (0 ≤ x7 ∧ x7 ≤ 24) → (0 ≤ x8 ∧ x8 ≤ 24) → (0 ≤ x9 ∧ x9 ≤ 27) → (0 ≤ x10 ∧ x10 ≤ 2) → (0 ≤ x11 ∧ x11 ≤ 18) → (0 ≤ x12 ∧ x12 ≤ 2) → (0 ≤ x13 ∧ x13 ≤ 24) → (0 ≤ x14 ∧ x14 ≤ 3) → (x9 = 9 * x10 + 3 * x12 + x14) → (3 - x10) * 31 + (3 - x12) * 6 + (3 - x14) * 1 + 1 < (nn : Int) → nW xs e 45 137 [some (2, 52), none, some (2, (p + 1)), none, none, some (0, x5), some (0, x6), some (0, x7), some (0, x8), some (0, x9), some (0, x10), some (0, x11), some (0, x12), some (0, x13), some (0, x14)] [] M (nPV fun M1 => Sf 3 ac M0 M1)) := by
  have hd : (3 : Int) = 2 ∨ (3 : Int) = 3 := by decide
  have hac := hS.2.2.2.2
  intro nn
  induction nn with
  | zero => refine ⟨?_, ?_, ?_⟩ <;> (intros; omega)
  | succ nn ih =>
    refine ⟨?_, ?_, ?_⟩
    · intro x5 x6 x7 x8 x9 x10 M hS k5 k6 k7 k8 k9 k10 v0 hnn
      refine n_iload c_45_86 rfl (n_iload c_45_88 rfl ?_)
      refine n_if2_ge c_45_90 (by omega) (by omega) ?_ ?_
      · intro h1
        exact n_rV c_45_187 rfl hS
      · intro h2
        refine n_aload_n c_45_93 rfl (n_iload c_45_94 rfl (n_iload c_45_96 rfl (n_iadd c_45_98 rfl (n_ialoadV c_45_99 hp.c0.2.1.n rfl rfl rfl (by omega) (t_actrl hS hp hpl (Or.inl rfl) (by omega) (by omega)) ?_))))
        intro z3 ez3 f4
        refine n_aload_n c_45_100 rfl (n_getV (bi := 1) c_45_101 sc_52.n rfl rfl rfl (t_52_1 hS) ?_)
        intro z5 ez5 f6
        obtain rfl : z5 = 9 := by omega
        refine n_imul c_45_104 rfl (n_istore (L2 := [some (2, 52), none, some (2, (p + 1)), none, none, some (0, x5), some (0, x6), some (0, x7), some (0, x8), some (0, x9), some (0, x10), some (0, (z3 * 9)), none, none, none]) c_45_105 rfl rfl (n_iconst c_45_107 (n_istore (L2 := [some (2, 52), none, some (2, (p + 1)), none, none, some (0, x5), some (0, x6), some (0, x7), some (0, x8), some (0, x9), some (0, x10), some (0, (z3 * 9)), some (0, 0), none, none]) c_45_108 rfl rfl (n_fg (le_s (le_n (le_s (le_n (le_n (le_s (le_s (le_s (le_s (le_s (le_s (le_s (le_s (le_n (le_n le_0))))))))))))))) ?_))))
        exact ih.2.1 _ _ _ _ _ _ _ _ M hS (by omega) (by omega) (by omega) (by omega) (by omega) (by omega) (by omega) (by omega) (by omega) (by omega)
    · intro x5 x6 x7 x8 x9 x10 x11 x12 M hS k5 k6 k7 k8 k9 k10 k11 k12 v0 hnn
      refine n_iload c_45_110 rfl (n_iload c_45_112 rfl ?_)
      refine n_if2_ge c_45_114 (by omega) (by omega) ?_ ?_
      · intro h1
        refine n_iinc (L2 := [some (2, 52), none, some (2, (p + 1)), none, none, some (0, x5), some (0, x6), some (0, x7), some (0, x8), some (0, x9), some (0, (x10 + 1)), some (0, x11), some (0, x12), none, none]) c_45_181 rfl rfl rfl (n_goto c_45_184 (n_fg (le_s (le_n (le_s (le_n (le_n (le_s (le_s (le_s (le_s (le_s (le_s (le_n (le_n (le_n (le_n le_0))))))))))))))) ?_))
        exact ih.1 _ _ _ _ _ _ M hS (by omega) (by omega) (by omega) (by omega) (by omega) (by omega) (by omega) (by omega)
      · intro h2
        refine n_iload c_45_117 rfl (n_aload_n c_45_119 rfl (n_iload c_45_120 rfl (n_iload c_45_122 rfl (n_iadd c_45_124 rfl (n_ialoadV c_45_125 hp.c0.2.1.n rfl rfl rfl (by omega) (t_actrl hS hp hpl (Or.inl rfl) (by omega) (by omega)) ?_)))))
        intro z3 ez3 f4
        refine n_aload_n c_45_126 rfl (n_getV (bi := 2) c_45_127 sc_52.n rfl rfl rfl (t_52_2 hS) ?_)
        intro z5 ez5 f6
        obtain rfl : z5 = 3 := by omega
        refine n_imul c_45_130 rfl (n_iadd c_45_131 rfl (n_istore (L2 := [some (2, 52), none, some (2, (p + 1)), none, none, some (0, x5), some (0, x6), some (0, x7), some (0, x8), some (0, x9), some (0, x10), some (0, x11), some (0, x12), some (0, (x11 + (z3 * 3))), none]) c_45_132 rfl rfl (n_iconst c_45_134 (n_istore (L2 := [some (2, 52), none, some (2, (p + 1)), none, none, some (0, x5), some (0, x6), some (0, x7), some (0, x8), some (0, x9), some (0, x10), some (0, x11), some (0, x12), some (0, (x11 + (z3 * 3))), some (0, 0)]) c_45_135 rfl rfl (n_fg (le_s (le_n (le_s (le_n (le_n (le_s (le_s (le_s (le_s (le_s (le_s (le_s (le_s (le_s (le_s le_0))))))))))))))) ?_)))))
        exact ih.2.2 _ _ _ _ _ _ _ _ _ _ M hS (by omega) (by omega) (by omega) (by omega) (by omega) (by omega) (by omega) (by omega) (by omega) (by omega) (by omega) (by omega)
    · intro x5 x6 x7 x8 x9 x10 x11 x12 x13 x14 M hS k5 k6 k7 k8 k9 k10 k11 k12 k13 k14 v0 hnn
      refine n_iload c_45_137 rfl (n_iload c_45_139 rfl ?_)
      refine n_if2_ge c_45_141 (by omega) (by omega) ?_ ?_
      · intro h1
        refine n_iinc (L2 := [some (2, 52), none, some (2, (p + 1)), none, none, some (0, x5), some (0, x6), some (0, x7), some (0, x8), some (0, x9), some (0, x10), some (0, x11), some (0, (x12 + 1)), some (0, x13), some (0, x14)]) c_45_175 rfl rfl rfl (n_goto c_45_178 (n_fg (le_s (le_n (le_s (le_n (le_n (le_s (le_s (le_s (le_s (le_s (le_s (le_s (le_s (le_n (le_n le_0))))))))))))))) ?_))
        exact ih.2.1 _ _ _ _ _ _ _ _ M hS (by omega) (by omega) (by omega) (by omega) (by omega) (by omega) (by omega) (by omega) (by omega) (by omega)
      · intro h2
        refine n_aload_n c_45_144 rfl (n_getR c_45_145 sc_52.n rfl rfl rfl r_52_0 (n_iload c_45_148 rfl (n_iload c_45_150 rfl (n_aload_n c_45_152 rfl (n_iload c_45_153 rfl (n_iload c_45_155 rfl (n_iadd c_45_157 rfl (n_ialoadV c_45_158 hp.c0.2.1.n rfl rfl rfl (by omega) (t_actrl hS hp hpl (Or.inl rfl) (by omega) (by omega)) ?_))))))))
        intro z3 ez3 f4
        refine n_aload_n c_45_159 rfl (n_getV (bi := 3) c_45_160 sc_52.n rfl rfl rfl (t_52_3 hS) ?_)
        intro z5 ez5 f6
        obtain rfl : z5 = 1 := by omega
        refine n_imul c_45_163 rfl (n_iadd c_45_164 rfl (n_iastoreV hS c_45_165 sc_53.n rfl (by omega) (w_53 (by omega) (by omega)) ?_))
        intro M7 eM7 hS7
        refine n_iinc (L2 := [some (2, 52), none, some (2, (p + 1)), none, none, some (0, x5), some (0, x6), some (0, x7), some (0, x8), some (0, (x9 + 1)), some (0, x10), some (0, x11), some (0, x12), some (0, x13), some (0, x14)]) c_45_166 rfl rfl rfl (n_iinc (L2 := [some (2, 52), none, some (2, (p + 1)), none, none, some (0, x5), some (0, x6), some (0, x7), some (0, x8), some (0, (x9 + 1)), some (0, x10), some (0, x11), some (0, x12), some (0, x13), some (0, (x14 + 1))]) c_45_169 rfl rfl rfl (n_goto c_45_172 (n_fg (le_s (le_n (le_s (le_n (le_n (le_s (le_s (le_s (le_s (le_s (le_s (le_s (le_s (le_s (le_s le_0))))))))))))))) ?_)))
        exact ih.2.2 _ _ _ _ _ _ _ _ _ _ M7 hS7 (by omega) (by omega) (by omega) (by omega) (by omega) (by omega) (by omega) (by omega) (by omega) (by omega) (by omega) (by omega)
set_option maxHeartbeats 4000000 in
theorem fillLT_3 {xs : List Int32} {e : Nat} {ac : Int} {M0 M : nM} {p i j : Int} (hS : Sf 3 ac M0 M) (hp : ActAt p) (hpl : p < 55 + 3 * ac) (hi : 0 ≤ i ∧ i ≤ 26) (hj : 0 ≤ j ∧ j ≤ 26) : nW xs e 45 0 [some (2, 52), some (2, 4), some (2, (p + 1)), some (0, i), some (0, j), none, none, none, none, none, none, none, none, none, none] [] M (nPV fun M1 => Sf 3 ac M0 M1) := by
  have hd : (3 : Int) = 2 ∨ (3 : Int) = 3 := by decide
  have hac := hS.2.2.2.2
  refine n_aload_n c_45_0 rfl (n_getV (bi := 1) c_45_1 sc_52.n rfl rfl rfl (t_52_1 hS) ?_)
  intro z1 ez1 f2
  obtain rfl : z1 = 9 := by omega
  refine n_if0_ne c_45_4 (by omega) ?_ ?_
  · intro h3
    refine n_aload_n c_45_8 rfl (n_getV (bi := 0) c_45_9 sc_4.n rfl rfl rfl (t_4_0 hS) ?_)
    intro z4 ez4 f5
    obtain rfl : z4 = 3 := by omega
    refine n_istore (L2 := [some (2, 52), some (2, 4), some (2, (p + 1)), some (0, i), some (0, j), some (0, 3), none, none, none, none, none, none, none, none, none]) c_45_12 rfl rfl (n_aload_n c_45_14 rfl (n_getR c_45_15 sc_4.n rfl rfl rfl r_4_2 (n_iload_n c_45_18 rfl (n_ialoadV c_45_19 sc_5.n rfl rfl rfl (by omega) (t_5d hS hd (by omega) (by omega)) ?_))))
    intro z6 ez6 f7
    refine n_iload c_45_20 rfl (n_imul c_45_22 rfl (n_aload_n c_45_23 rfl (n_getR c_45_24 sc_4.n rfl rfl rfl r_4_2 (n_iload c_45_27 rfl (n_ialoadV c_45_29 sc_5.n rfl rfl rfl (by omega) (t_5d hS hd (by omega) (by omega)) ?_)))))
    intro z8 ez8 f9
    refine n_iadd c_45_30 rfl (n_iload c_45_31 rfl (n_imul c_45_33 rfl (n_istore (L2 := [some (2, 52), some (2, 4), some (2, (p + 1)), some (0, i), some (0, j), some (0, 3), some (0, (((z6 * 3) + z8) * 3)), none, none, none, none, none, none, none, none]) c_45_34 rfl rfl (n_aload_n c_45_36 rfl (n_getR c_45_37 sc_4.n rfl rfl rfl r_4_3 (n_iload_n c_45_40 rfl (n_ialoadV c_45_41 sc_6.n rfl rfl rfl (by omega) (t_6d hS hd (by omega) (by omega)) ?_)))))))
    intro z10 ez10 f11
    refine n_iload c_45_42 rfl (n_imul c_45_44 rfl (n_aload_n c_45_45 rfl (n_getR c_45_46 sc_4.n rfl rfl rfl r_4_3 (n_iload c_45_49 rfl (n_ialoadV c_45_51 sc_6.n rfl rfl rfl (by omega) (t_6d hS hd (by omega) (by omega)) ?_)))))
    intro z12 ez12 f13
    refine n_iadd c_45_52 rfl (n_iload c_45_53 rfl (n_imul c_45_55 rfl (n_istore (L2 := [some (2, 52), some (2, 4), some (2, (p + 1)), some (0, i), some (0, j), some (0, 3), some (0, (((z6 * 3) + z8) * 3)), some (0, (((z10 * 3) + z12) * 3)), none, none, none, none, none, none, none]) c_45_56 rfl rfl (n_aload_n c_45_58 rfl (n_getR c_45_59 sc_4.n rfl rfl rfl r_4_4 (n_iload_n c_45_62 rfl (n_ialoadV c_45_63 sc_7.n rfl rfl rfl (by omega) (t_7d hS hd (by omega) (by omega)) ?_)))))))
    intro z14 ez14 f15
    refine n_iload c_45_64 rfl (n_imul c_45_66 rfl (n_aload_n c_45_67 rfl (n_getR c_45_68 sc_4.n rfl rfl rfl r_4_4 (n_iload c_45_71 rfl (n_ialoadV c_45_73 sc_7.n rfl rfl rfl (by omega) (t_7d hS hd (by omega) (by omega)) ?_)))))
    intro z16 ez16 f17
    refine n_iadd c_45_74 rfl (n_iload c_45_75 rfl (n_imul c_45_77 rfl (n_istore (L2 := [some (2, 52), some (2, 4), some (2, (p + 1)), some (0, i), some (0, j), some (0, 3), some (0, (((z6 * 3) + z8) * 3)), some (0, (((z10 * 3) + z12) * 3)), some (0, (((z14 * 3) + z16) * 3)), none, none, none, none, none, none]) c_45_78 rfl rfl (n_iconst c_45_80 (n_istore (L2 := [some (2, 52), some (2, 4), some (2, (p + 1)), some (0, i), some (0, j), some (0, 3), some (0, (((z6 * 3) + z8) * 3)), some (0, (((z10 * 3) + z12) * 3)), some (0, (((z14 * 3) + z16) * 3)), some (0, 0), none, none, none, none, none]) c_45_81 rfl rfl (n_iconst c_45_83 (n_istore (L2 := [some (2, 52), some (2, 4), some (2, (p + 1)), some (0, i), some (0, j), some (0, 3), some (0, (((z6 * 3) + z8) * 3)), some (0, (((z10 * 3) + z12) * 3)), some (0, (((z14 * 3) + z16) * 3)), some (0, 0), some (0, 0), none, none, none, none]) c_45_84 rfl rfl (n_fg (le_s (le_n (le_s (le_n (le_n (le_s (le_s (le_s (le_s (le_s (le_s (le_n (le_n (le_n (le_n le_0))))))))))))))) ?_))))))))
    exact (fillLT_3_c hS hp hpl hi hj 320).1 _ _ _ _ _ _ M hS (by omega) (by omega) (by omega) (by omega) (by omega) (by omega) (by omega) (by omega)
  · intro h18
    exfalso; omega

set_option maxHeartbeats 4000000 in
theorem fillLU_3_c {xs : List Int32} {e : Nat} {ac : Int} {M0 M : nM} {p i j : Int} (hS : Sf 3 ac M0 M) (hp : ActAt p) (hpl : p < 55 + 3 * ac) (hi : 0 ≤ i ∧ i ≤ 26) (hj : 0 ≤ j ∧ j ≤ 26) : ∀ nn : Nat, (∀ (x5 x6 x7 x8 x9 x10 : Int) (M : nM), Sf 3 ac M0 M → (3 ≤ x5 ∧ x5 ≤ 3) → (0 ≤ x6 ∧ x6 ≤ 24) → (0 ≤ x7 ∧ x7 ≤ 24) → (0 ≤ x8 ∧ x8 ≤ 24) → (0 ≤ x9 ∧ x9 ≤ 27) → (0 ≤ x10 ∧ x10 ≤ 3) → (x9 = 9 * x10) → (3 - x10) * 31 + 31 < (nn : Int) → nW xs e 45 86 [some (2, 52), none, some (2, (p + 2)), none, none, some (0, x5), some (0, x6), some (0, x7), some (0, x8), some (0, x9), some (0, x10), none, none, none, none] [] M (nPV fun M1 => Sf 3 ac M0 M1)) ∧ (∀ (x5 x6 x7 x8 x9 x10 x11 x12 : Int) (M : nM), Sf 3 ac M0 M → (3 ≤ x5 ∧ x5 ≤ 3) → (0 ≤ x6 ∧ x6 ≤ 24) → (0 ≤ x7 ∧ x7 ≤ 24) → (0 ≤ x8 ∧ x8 ≤ 24) → (0 ≤ x9 ∧ x9 ≤ 27) → (0 ≤ x10 ∧ x10 ≤ 2) → (0 ≤ x11 ∧ x11 ≤ 18) → (0 ≤ x12 ∧ x12 ≤ 3) → (x9 = 9 * x10 + 3 * x12) → (3 - x10) * 31 + (3 - x12) * 6 + 6 < (nn : Int) → nW xs e 45 110 [some (2, 52), none, some (2, (p + 2)), none, none, some (0, x5), some (0, x6), some (0, x7), some (0, x8), some (0, x9), some (0, x10), some (0, x11), some (0, x12), none, none] [] M (nPV fun M1 => Sf 3 ac M0 M1)) ∧ (∀ (x5 x6 x7 x8 x9 x10 x11 x12 x13 x14 : Int) (M : nM), Sf 3 ac M0 M → (3 ≤ x5 ∧ x5 ≤ 3) → (0 ≤ x6 ∧ x6 ≤ 24) → (0 ≤ x7 ∧ x7 ≤ 24) → (0 ≤ x8 ∧ x8 ≤ 24) → (0 ≤ x9 ∧ x9 ≤ 27) → (0 ≤ x10 ∧ x10 ≤ 2) → (0 ≤ x11 ∧ x11 ≤ 18) → (0 ≤ x12 ∧ x12 ≤ 2) → (0 ≤ x13 ∧ x13 ≤ 24) → (0 ≤ x14 ∧ x14 ≤ 3) → (x9 = 9 * x10 + 3 * x12 + x14) → (3 - x10) * 31 + (3 - x12) * 6 + (3 - x14) * 1 + 1 < (nn : Int) → nW xs e 45 137 [some (2, 52), none, some (2, (p + 2)), none, none, some (0, x5), some (0, x6), some (0, x7), some (0, x8), some (0, x9), some (0, x10), some (0, x11), some (0, x12), some (0, x13), some (0, x14)] [] M (nPV fun M1 => Sf 3 ac M0 M1)) := by
  have hd : (3 : Int) = 2 ∨ (3 : Int) = 3 := by decide
  have hac := hS.2.2.2.2
  intro nn
  induction nn with
  | zero => refine ⟨?_, ?_, ?_⟩ <;> (intros; omega)
  | succ nn ih =>
    refine ⟨?_, ?_, ?_⟩
    · intro x5 x6 x7 x8 x9 x10 M hS k5 k6 k7 k8 k9 k10 v0 hnn
      refine n_iload c_45_86 rfl (n_iload c_45_88 rfl ?_)
      refine n_if2_ge c_45_90 (by omega) (by omega) ?_ ?_
      · intro h1
        exact n_rV c_45_187 rfl hS
      · intro h2
        refine n_aload_n c_45_93 rfl (n_iload c_45_94 rfl (n_iload c_45_96 rfl (n_iadd c_45_98 rfl (n_ialoadV c_45_99 hp.c0.2.2.n rfl rfl rfl (by omega) (t_actrl hS hp hpl (Or.inr rfl) (by omega) (by omega)) ?_))))
        intro z3 ez3 f4
        refine n_aload_n c_45_100 rfl (n_getV (bi := 1) c_45_101 sc_52.n rfl rfl rfl (t_52_1 hS) ?_)
        intro z5 ez5 f6
        obtain rfl : z5 = 9 := by omega
        refine n_imul c_45_104 rfl (n_istore (L2 := [some (2, 52), none, some (2, (p + 2)), none, none, some (0, x5), some (0, x6), some (0, x7), some (0, x8), some (0, x9), some (0, x10), some (0, (z3 * 9)), none, none, none]) c_45_105 rfl rfl (n_iconst c_45_107 (n_istore (L2 := [some (2, 52), none, some (2, (p + 2)), none, none, some (0, x5), some (0, x6), some (0, x7), some (0, x8), some (0, x9), some (0, x10), some (0, (z3 * 9)), some (0, 0), none, none]) c_45_108 rfl rfl (n_fg (le_s (le_n (le_s (le_n (le_n (le_s (le_s (le_s (le_s (le_s (le_s (le_s (le_s (le_n (le_n le_0))))))))))))))) ?_))))
        exact ih.2.1 _ _ _ _ _ _ _ _ M hS (by omega) (by omega) (by omega) (by omega) (by omega) (by omega) (by omega) (by omega) (by omega) (by omega)
    · intro x5 x6 x7 x8 x9 x10 x11 x12 M hS k5 k6 k7 k8 k9 k10 k11 k12 v0 hnn
      refine n_iload c_45_110 rfl (n_iload c_45_112 rfl ?_)
      refine n_if2_ge c_45_114 (by omega) (by omega) ?_ ?_
      · intro h1
        refine n_iinc (L2 := [some (2, 52), none, some (2, (p + 2)), none, none, some (0, x5), some (0, x6), some (0, x7), some (0, x8), some (0, x9), some (0, (x10 + 1)), some (0, x11), some (0, x12), none, none]) c_45_181 rfl rfl rfl (n_goto c_45_184 (n_fg (le_s (le_n (le_s (le_n (le_n (le_s (le_s (le_s (le_s (le_s (le_s (le_n (le_n (le_n (le_n le_0))))))))))))))) ?_))
        exact ih.1 _ _ _ _ _ _ M hS (by omega) (by omega) (by omega) (by omega) (by omega) (by omega) (by omega) (by omega)
      · intro h2
        refine n_iload c_45_117 rfl (n_aload_n c_45_119 rfl (n_iload c_45_120 rfl (n_iload c_45_122 rfl (n_iadd c_45_124 rfl (n_ialoadV c_45_125 hp.c0.2.2.n rfl rfl rfl (by omega) (t_actrl hS hp hpl (Or.inr rfl) (by omega) (by omega)) ?_)))))
        intro z3 ez3 f4
        refine n_aload_n c_45_126 rfl (n_getV (bi := 2) c_45_127 sc_52.n rfl rfl rfl (t_52_2 hS) ?_)
        intro z5 ez5 f6
        obtain rfl : z5 = 3 := by omega
        refine n_imul c_45_130 rfl (n_iadd c_45_131 rfl (n_istore (L2 := [some (2, 52), none, some (2, (p + 2)), none, none, some (0, x5), some (0, x6), some (0, x7), some (0, x8), some (0, x9), some (0, x10), some (0, x11), some (0, x12), some (0, (x11 + (z3 * 3))), none]) c_45_132 rfl rfl (n_iconst c_45_134 (n_istore (L2 := [some (2, 52), none, some (2, (p + 2)), none, none, some (0, x5), some (0, x6), some (0, x7), some (0, x8), some (0, x9), some (0, x10), some (0, x11), some (0, x12), some (0, (x11 + (z3 * 3))), some (0, 0)]) c_45_135 rfl rfl (n_fg (le_s (le_n (le_s (le_n (le_n (le_s (le_s (le_s (le_s (le_s (le_s (le_s (le_s (le_s (le_s le_0))))))))))))))) ?_)))))
        exact ih.2.2 _ _ _ _ _ _ _ _ _ _ M hS (by omega) (by omega) (by omega) (by omega) (by omega) (by omega) (by omega) (by omega) (by omega) (by omega) (by omega) (by omega)
    · intro x5 x6 x7 x8 x9 x10 x11 x12 x13 x14 M hS k5 k6 k7 k8 k9 k10 k11 k12 k13 k14 v0 hnn
      refine n_iload c_45_137 rfl (n_iload c_45_139 rfl ?_)
      refine n_if2_ge c_45_141 (by omega) (by omega) ?_ ?_
      · intro h1
        refine n_iinc (L2 := [some (2, 52), none, some (2, (p + 2)), none, none, some (0, x5), some (0, x6), some (0, x7), some (0, x8), some (0, x9), some (0, x10), some (0, x11), some (0, (x12 + 1)), some (0, x13), some (0, x14)]) c_45_175 rfl rfl rfl (n_goto c_45_178 (n_fg (le_s (le_n (le_s (le_n (le_n (le_s (le_s (le_s (le_s (le_s (le_s (le_s (le_s (le_n (le_n le_0))))))))))))))) ?_))
        exact ih.2.1 _ _ _ _ _ _ _ _ M hS (by omega) (by omega) (by omega) (by omega) (by omega) (by omega) (by omega) (by omega) (by omega) (by omega)
      · intro h2
        refine n_aload_n c_45_144 rfl (n_getR c_45_145 sc_52.n rfl rfl rfl r_52_0 (n_iload c_45_148 rfl (n_iload c_45_150 rfl (n_aload_n c_45_152 rfl (n_iload c_45_153 rfl (n_iload c_45_155 rfl (n_iadd c_45_157 rfl (n_ialoadV c_45_158 hp.c0.2.2.n rfl rfl rfl (by omega) (t_actrl hS hp hpl (Or.inr rfl) (by omega) (by omega)) ?_))))))))
        intro z3 ez3 f4
        refine n_aload_n c_45_159 rfl (n_getV (bi := 3) c_45_160 sc_52.n rfl rfl rfl (t_52_3 hS) ?_)
        intro z5 ez5 f6
        obtain rfl : z5 = 1 := by omega
        refine n_imul c_45_163 rfl (n_iadd c_45_164 rfl (n_iastoreV hS c_45_165 sc_53.n rfl (by omega) (w_53 (by omega) (by omega)) ?_))
        intro M7 eM7 hS7
        refine n_iinc (L2 := [some (2, 52), none, some (2, (p + 2)), none, none, some (0, x5), some (0, x6), some (0, x7), some (0, x8), some (0, (x9 + 1)), some (0, x10), some (0, x11), some (0, x12), some (0, x13), some (0, x14)]) c_45_166 rfl rfl rfl (n_iinc (L2 := [some (2, 52), none, some (2, (p + 2)), none, none, some (0, x5), some (0, x6), some (0, x7), some (0, x8), some (0, (x9 + 1)), some (0, x10), some (0, x11), some (0, x12), some (0, x13), some (0, (x14 + 1))]) c_45_169 rfl rfl rfl (n_goto c_45_172 (n_fg (le_s (le_n (le_s (le_n (le_n (le_s (le_s (le_s (le_s (le_s (le_s (le_s (le_s (le_s (le_s le_0))))))))))))))) ?_)))
        exact ih.2.2 _ _ _ _ _ _ _ _ _ _ M7 hS7 (by omega) (by omega) (by omega) (by omega) (by omega) (by omega) (by omega) (by omega) (by omega) (by omega) (by omega) (by omega)
set_option maxHeartbeats 4000000 in
theorem fillLU_3 {xs : List Int32} {e : Nat} {ac : Int} {M0 M : nM} {p i j : Int} (hS : Sf 3 ac M0 M) (hp : ActAt p) (hpl : p < 55 + 3 * ac) (hi : 0 ≤ i ∧ i ≤ 26) (hj : 0 ≤ j ∧ j ≤ 26) : nW xs e 45 0 [some (2, 52), some (2, 4), some (2, (p + 2)), some (0, i), some (0, j), none, none, none, none, none, none, none, none, none, none] [] M (nPV fun M1 => Sf 3 ac M0 M1) := by
  have hd : (3 : Int) = 2 ∨ (3 : Int) = 3 := by decide
  have hac := hS.2.2.2.2
  refine n_aload_n c_45_0 rfl (n_getV (bi := 1) c_45_1 sc_52.n rfl rfl rfl (t_52_1 hS) ?_)
  intro z1 ez1 f2
  obtain rfl : z1 = 9 := by omega
  refine n_if0_ne c_45_4 (by omega) ?_ ?_
  · intro h3
    refine n_aload_n c_45_8 rfl (n_getV (bi := 0) c_45_9 sc_4.n rfl rfl rfl (t_4_0 hS) ?_)
    intro z4 ez4 f5
    obtain rfl : z4 = 3 := by omega
    refine n_istore (L2 := [some (2, 52), some (2, 4), some (2, (p + 2)), some (0, i), some (0, j), some (0, 3), none, none, none, none, none, none, none, none, none]) c_45_12 rfl rfl (n_aload_n c_45_14 rfl (n_getR c_45_15 sc_4.n rfl rfl rfl r_4_2 (n_iload_n c_45_18 rfl (n_ialoadV c_45_19 sc_5.n rfl rfl rfl (by omega) (t_5d hS hd (by omega) (by omega)) ?_))))
    intro z6 ez6 f7
    refine n_iload c_45_20 rfl (n_imul c_45_22 rfl (n_aload_n c_45_23 rfl (n_getR c_45_24 sc_4.n rfl rfl rfl r_4_2 (n_iload c_45_27 rfl (n_ialoadV c_45_29 sc_5.n rfl rfl rfl (by omega) (t_5d hS hd (by omega) (by omega)) ?_)))))
    intro z8 ez8 f9
    refine n_iadd c_45_30 rfl (n_iload c_45_31 rfl (n_imul c_45_33 rfl (n_istore (L2 := [some (2, 52), some (2, 4), some (2, (p + 2)), some (0, i), some (0, j), some (0, 3), some (0, (((z6 * 3) + z8) * 3)), none, none, none, none, none, none, none, none]) c_45_34 rfl rfl (n_aload_n c_45_36 rfl (n_getR c_45_37 sc_4.n rfl rfl rfl r_4_3 (n_iload_n c_45_40 rfl (n_ialoadV c_45_41 sc_6.n rfl rfl rfl (by omega) (t_6d hS hd (by omega) (by omega)) ?_)))))))
    intro z10 ez10 f11
    refine n_iload c_45_42 rfl (n_imul c_45_44 rfl (n_aload_n c_45_45 rfl (n_getR c_45_46 sc_4.n rfl rfl rfl r_4_3 (n_iload c_45_49 rfl (n_ialoadV c_45_51 sc_6.n rfl rfl rfl (by omega) (t_6d hS hd (by omega) (by omega)) ?_)))))
    intro z12 ez12 f13
    refine n_iadd c_45_52 rfl (n_iload c_45_53 rfl (n_imul c_45_55 rfl (n_istore (L2 := [some (2, 52), some (2, 4), some (2, (p + 2)), some (0, i), some (0, j), some (0, 3), some (0, (((z6 * 3) + z8) * 3)), some (0, (((z10 * 3) + z12) * 3)), none, none, none, none, none, none, none]) c_45_56 rfl rfl (n_aload_n c_45_58 rfl (n_getR c_45_59 sc_4.n rfl rfl rfl r_4_4 (n_iload_n c_45_62 rfl (n_ialoadV c_45_63 sc_7.n rfl rfl rfl (by omega) (t_7d hS hd (by omega) (by omega)) ?_)))))))
    intro z14 ez14 f15
    refine n_iload c_45_64 rfl (n_imul c_45_66 rfl (n_aload_n c_45_67 rfl (n_getR c_45_68 sc_4.n rfl rfl rfl r_4_4 (n_iload c_45_71 rfl (n_ialoadV c_45_73 sc_7.n rfl rfl rfl (by omega) (t_7d hS hd (by omega) (by omega)) ?_)))))
    intro z16 ez16 f17
    refine n_iadd c_45_74 rfl (n_iload c_45_75 rfl (n_imul c_45_77 rfl (n_istore (L2 := [some (2, 52), some (2, 4), some (2, (p + 2)), some (0, i), some (0, j), some (0, 3), some (0, (((z6 * 3) + z8) * 3)), some (0, (((z10 * 3) + z12) * 3)), some (0, (((z14 * 3) + z16) * 3)), none, none, none, none, none, none]) c_45_78 rfl rfl (n_iconst c_45_80 (n_istore (L2 := [some (2, 52), some (2, 4), some (2, (p + 2)), some (0, i), some (0, j), some (0, 3), some (0, (((z6 * 3) + z8) * 3)), some (0, (((z10 * 3) + z12) * 3)), some (0, (((z14 * 3) + z16) * 3)), some (0, 0), none, none, none, none, none]) c_45_81 rfl rfl (n_iconst c_45_83 (n_istore (L2 := [some (2, 52), some (2, 4), some (2, (p + 2)), some (0, i), some (0, j), some (0, 3), some (0, (((z6 * 3) + z8) * 3)), some (0, (((z10 * 3) + z12) * 3)), some (0, (((z14 * 3) + z16) * 3)), some (0, 0), some (0, 0), none, none, none, none]) c_45_84 rfl rfl (n_fg (le_s (le_n (le_s (le_n (le_n (le_s (le_s (le_s (le_s (le_s (le_s (le_n (le_n (le_n (le_n le_0))))))))))))))) ?_))))))))
    exact (fillLU_3_c hS hp hpl hi hj 320).1 _ _ _ _ _ _ M hS (by omega) (by omega) (by omega) (by omega) (by omega) (by omega) (by omega) (by omega)
  · intro h18
    exfalso; omega

set_option maxHeartbeats 4000000 in
theorem addWide_3_c {xs : List Int32} {e : Nat} {ac : Int} {M0 M : nM} {r : Int} (hS : Sf 3 ac M0 M) (hr : 0 ≤ r ∧ r ≤ 26) : ∀ nn : Nat, (∀ (M : nM), Sf 3 ac M0 M → 1 < (nn : Int) → nW xs e 42 52 [none, none] [] M (nPV fun M1 => Sf 3 ac M0 M1)) := by
  have hd : (3 : Int) = 2 ∨ (3 : Int) = 3 := by decide
  have hac := hS.2.2.2.2
  intro nn
  induction nn with
  | zero => intros; omega
  | succ nn ih =>
    intro M hS hnn
    exact n_rV c_42_52 rfl hS
set_option maxHeartbeats 4000000 in
theorem addWide_3 {xs : List Int32} {e : Nat} {ac : Int} {M0 M : nM} {r : Int} (hS : Sf 3 ac M0 M) (hr : 0 ≤ r ∧ r ≤ 26) : nW xs e 42 0 [some (2, 50), some (0, r)] [] M (nPV fun M1 => Sf 3 ac M0 M1) := by
  have hd : (3 : Int) = 2 ∨ (3 : Int) = 3 := by decide
  have hac := hS.2.2.2.2
  refine n_aload_n c_42_0 rfl (n_getV (bi := 3) c_42_1 law50.c0.1.n rfl rfl rfl (t_law hS law50).2.2.2 ?_)
  intro z1 ez1 f2
  refine n_bipush c_42_4 rfl ?_
  refine n_if2_ge c_42_6 (by omega) (by omega) ?_ ?_
  · intro h3
    refine n_fg (le_n (le_n le_0)) ?_
    exact (addWide_3_c hS hr 12)  M hS  (by omega)
  · intro h4
    refine n_aload_n c_42_9 rfl (n_getV (bi := 2) c_42_10 law50.c0.1.n rfl rfl rfl (t_law hS law50).2.2.1 ?_)
    intro z5 ez5 f6
    refine n_iload_n c_42_13 rfl (n_i_ishr c_42_14 rfl ?_)
    have f7 := n_shr_r z5 r
    generalize (n_shr z5 r) = z8 at f7 ⊢
    refine n_iconst c_42_15 (n_i_iand c_42_16 rfl ?_)
    have f9 := n_and_y (x := z8) (y := 1) (by omega)
    generalize (n_and z8 1) = z10 at f9 ⊢
    refine n_if0_ne c_42_17 (by omega) ?_ ?_
    · intro h11
      refine n_fg (le_n (le_n le_0)) ?_
      exact (addWide_3_c hS hr 12)  M hS  (by omega)
    · intro h12
      refine n_aload_n c_42_20 rfl (n_getR c_42_21 law50.c0.1.n rfl rfl rfl law50.r (n_aload_n c_42_24 rfl (n_getV (bi := 3) c_42_25 law50.c0.1.n rfl rfl rfl (t_law hS law50).2.2.2 ?_)))
      intro z13 ez13 f14
      refine n_iload_n c_42_28 rfl (n_iastoreV hS c_42_29 law50.c0.2.n rfl (by omega) (w_51 (by omega) (by omega)) ?_)
      intro M15 eM15 hS15
      have g15_0 : M15 50 3 = M 50 3 := by rw [eM15]; exact nu_a (by omega)
      refine n_aload_n c_42_30 rfl (n_dup2 c_42_31 (n_getV (bi := 3) c_42_32 law50.c0.1.n rfl rfl rfl (t_law hS15 law50).2.2.2 ?_))
      intro z16 ez16 f17
      refine n_iconst c_42_35 (n_iadd c_42_36 rfl (n_putV (bi := 3) hS15 c_42_37 law50.c0.1.n rfl rfl rfl rfl (w_50 (by omega) (by omega)) ?_))
      intro M18 eM18 hS18
      have g18_0 : M18 50 3 = (z16 + 1) := by rw [eM18]; exact nu_s _ _ _ _
      refine n_aload_n c_42_40 rfl (n_dup2 c_42_41 (n_getV (bi := 2) c_42_42 law50.c0.1.n rfl rfl rfl (t_law hS18 law50).2.2.1 ?_))
      intro z19 ez19 f20
      refine n_iconst c_42_45 (n_iload_n c_42_46 rfl (n_i_ishl c_42_47 rfl ?_))
      have f21 := n_shl_1 (y := r) (a := 0) (b := 26) (by decide) (by omega)
      generalize (n_shl 1 r) = z22 at f21 ⊢
      refine n_i_ior c_42_48 rfl ?_
      have f23 := n_or_r z19 z22
      generalize (n_or z19 z22) = z24 at f23 ⊢
      refine n_putV (bi := 2) hS18 c_42_49 law50.c0.1.n rfl rfl rfl rfl (w_50 (by omega) (by omega)) ?_
      intro M25 eM25 hS25
      have g25_0 : M25 50 3 = M18 50 3 := by rw [eM25]; exact nu_i (by omega)
      have g25_1 : M25 50 2 = z24 := by rw [eM25]; exact nu_s _ _ _ _
      refine n_fg (le_n (le_n le_0)) ?_
      exact (addWide_3_c hS hr 12)  M25 hS25  (by omega)

set_option maxHeartbeats 4000000 in
theorem takeS0_3_c {xs : List Int32} {e : Nat} {ac : Int} {M0 M : nM} {s : Int} (hS : Sf 3 ac M0 M) (hs : -2147483648 ≤ s ∧ s ≤ 2147483647) : ∀ nn : Nat, (∀ (x4 x5 : Int) (M : nM), Sf 3 ac M0 M → (1 ≤ x4 ∧ x4 ≤ 1) → (0 ≤ x5 ∧ x5 ≤ 1) → (1 - x5) * 2 + 2 < (nn : Int) → nW xs (e + 1) 36 30 [some (2, 50), some (0, 0), some (0, s), some (2, 4), some (0, x4), some (0, x5)] [] M (nPV fun M1 => Sf 3 ac M0 M1)) ∧ (∀ (x4 x5 : Int) (M : nM), Sf 3 ac M0 M → (1 ≤ x4 ∧ x4 ≤ 1) → (0 ≤ x5 ∧ x5 ≤ 0) → (1 - x5) * 2 + 1 < (nn : Int) → nW xs (e + 1) 36 57 [some (2, 50), some (0, 0), some (0, s), some (2, 4), some (0, x4), some (0, x5)] [] M (nPV fun M1 => Sf 3 ac M0 M1)) := by
  have hd : (3 : Int) = 2 ∨ (3 : Int) = 3 := by decide
  have hac := hS.2.2.2.2
  intro nn
  induction nn with
  | zero => refine ⟨?_, ?_⟩ <;> (intros; omega)
  | succ nn ih =>
    refine ⟨?_, ?_⟩
    · intro x4 x5 M hS k4 k5 hnn
      refine n_iload c_36_30 rfl (n_iload c_36_32 rfl ?_)
      refine n_if2_ge c_36_34 (by omega) (by omega) ?_ ?_
      · intro h1
        exact n_rV c_36_63 rfl hS
      · intro h2
        refine n_iload_n c_36_37 rfl (n_iload c_36_38 rfl (n_i_ishr c_36_40 rfl ?_))
        have f3 := n_shr_r s x5
        generalize (n_shr s x5) = z4 at f3 ⊢
        refine n_iconst c_36_41 (n_i_iand c_36_42 rfl ?_)
        have f5 := n_and_y (x := z4) (y := 1) (by omega)
        generalize (n_and z4 1) = z6 at f5 ⊢
        refine n_if0_eq c_36_43 (by omega) ?_ ?_
        · intro h7
          refine n_fg (le_s (le_s (le_s (le_s (le_s (le_s le_0)))))) ?_
          exact ih.2 _ _ M hS (by omega) (by omega) (by omega)
        · intro h8
          refine n_aload_n c_36_46 rfl (n_aload_n c_36_47 rfl (n_iload c_36_48 rfl (n_iload_n c_36_50 rfl (n_v2I c_36_51 rfl sc_4.n rfl rfl rfl rfl (widen0_3 (n := x5) hS (by omega)) ?_))))
          intro z9 M10 hP11
          obtain ⟨eM, f11⟩ := hP11
          subst eM
          refine n_v1V c_36_54 rfl law50.c0.1.n rfl rfl rfl rfl (addWide_3 (r := z9) hS (by omega)) ?_
          intro  M12 hP13
          have hS12 := hP13
          refine n_fg (le_s (le_s (le_s (le_s (le_s (le_s le_0)))))) ?_
          exact ih.2 _ _ M12 hS12 (by omega) (by omega) (by omega)
    · intro x4 x5 M hS k4 k5 hnn
      refine n_iinc (L2 := [some (2, 50), some (0, 0), some (0, s), some (2, 4), some (0, x4), some (0, (x5 + 1))]) c_36_57 rfl rfl rfl (n_goto c_36_60 (n_fg (le_s (le_s (le_s (le_s (le_s (le_s le_0)))))) ?_))
      exact ih.1 _ _ M hS (by omega) (by omega) (by omega)
set_option maxHeartbeats 4000000 in
theorem takeS0_3 {xs : List Int32} {e : Nat} {ac : Int} {M0 M : nM} {s : Int} (hS : Sf 3 ac M0 M) (hs : -2147483648 ≤ s ∧ s ≤ 2147483647) : nW xs (e + 1) 36 0 [some (2, 50), some (0, 0), some (0, s), some (2, 4), none, none] [] M (nPV fun M1 => Sf 3 ac M0 M1) := by
  have hd : (3 : Int) = 2 ∨ (3 : Int) = 3 := by decide
  have hac := hS.2.2.2.2
  refine n_aload_n c_36_0 rfl (n_iload_n c_36_1 rfl (n_putV (bi := 0) hS c_36_2 law50.c0.1.n rfl rfl rfl rfl (w_50 (by omega) (by omega)) ?_))
  intro M1 eM1 hS1
  have g1_0 : M1 50 0 = 0 := by rw [eM1]; exact nu_s _ _ _ _
  refine n_aload_n c_36_5 rfl (n_iload_n c_36_6 rfl (n_putV (bi := 1) hS1 c_36_7 law50.c0.1.n rfl rfl rfl rfl (w_50 (by omega) (by omega)) ?_))
  intro M2 eM2 hS2
  have g2_0 : M2 50 0 = M1 50 0 := by rw [eM2]; exact nu_i (by omega)
  have g2_1 : M2 50 1 = s := by rw [eM2]; exact nu_s _ _ _ _
  refine n_aload_n c_36_10 rfl (n_iconst c_36_11 (n_putV (bi := 2) hS2 c_36_12 law50.c0.1.n rfl rfl rfl rfl (w_50 (by omega) (by omega)) ?_))
  intro M3 eM3 hS3
  have g3_0 : M3 50 0 = M2 50 0 := by rw [eM3]; exact nu_i (by omega)
  have g3_1 : M3 50 1 = M2 50 1 := by rw [eM3]; exact nu_i (by omega)
  have g3_2 : M3 50 2 = 0 := by rw [eM3]; exact nu_s _ _ _ _
  refine n_aload_n c_36_15 rfl (n_iconst c_36_16 (n_putV (bi := 3) hS3 c_36_17 law50.c0.1.n rfl rfl rfl rfl (w_50 (by omega) (by omega)) ?_))
  intro M4 eM4 hS4
  have g4_0 : M4 50 0 = M3 50 0 := by rw [eM4]; exact nu_i (by omega)
  have g4_1 : M4 50 1 = M3 50 1 := by rw [eM4]; exact nu_i (by omega)
  have g4_2 : M4 50 2 = M3 50 2 := by rw [eM4]; exact nu_i (by omega)
  have g4_3 : M4 50 3 = 0 := by rw [eM4]; exact nu_s _ _ _ _
  refine n_aload_n c_36_20 rfl (n_iload_n c_36_21 rfl (n_v1I c_36_22 rfl sc_4.n rfl rfl rfl rfl (power0_3  hS4 ) ?_))
  intro z5 M6 hP7
  obtain ⟨eM, f7⟩ := hP7
  subst eM
  obtain rfl : z5 = 1 := by omega
  refine n_istore (L2 := [some (2, 50), some (0, 0), some (0, s), some (2, 4), some (0, 1), none]) c_36_25 rfl rfl (n_iconst c_36_27 (n_istore (L2 := [some (2, 50), some (0, 0), some (0, s), some (2, 4), some (0, 1), some (0, 0)]) c_36_28 rfl rfl (n_fg (le_s (le_s (le_s (le_s (le_s (le_s le_0)))))) ?_)))
  exact (takeS0_3_c hS hs 22).1 _ _ M4 hS4 (by omega) (by omega) (by omega)

set_option maxHeartbeats 4000000 in
theorem takeS1_3_c {xs : List Int32} {e : Nat} {ac : Int} {M0 M : nM} {s : Int} (hS : Sf 3 ac M0 M) (hs : -2147483648 ≤ s ∧ s ≤ 2147483647) : ∀ nn : Nat, (∀ (x4 x5 : Int) (M : nM), Sf 3 ac M0 M → (3 ≤ x4 ∧ x4 ≤ 3) → (0 ≤ x5 ∧ x5 ≤ 3) → (3 - x5) * 2 + 2 < (nn : Int) → nW xs (e + 1) 36 30 [some (2, 50), some (0, 1), some (0, s), some (2, 4), some (0, x4), some (0, x5)] [] M (nPV fun M1 => Sf 3 ac M0 M1)) ∧ (∀ (x4 x5 : Int) (M : nM), Sf 3 ac M0 M → (3 ≤ x4 ∧ x4 ≤ 3) → (0 ≤ x5 ∧ x5 ≤ 2) → (3 - x5) * 2 + 1 < (nn : Int) → nW xs (e + 1) 36 57 [some (2, 50), some (0, 1), some (0, s), some (2, 4), some (0, x4), some (0, x5)] [] M (nPV fun M1 => Sf 3 ac M0 M1)) := by
  have hd : (3 : Int) = 2 ∨ (3 : Int) = 3 := by decide
  have hac := hS.2.2.2.2
  intro nn
  induction nn with
  | zero => refine ⟨?_, ?_⟩ <;> (intros; omega)
  | succ nn ih =>
    refine ⟨?_, ?_⟩
    · intro x4 x5 M hS k4 k5 hnn
      refine n_iload c_36_30 rfl (n_iload c_36_32 rfl ?_)
      refine n_if2_ge c_36_34 (by omega) (by omega) ?_ ?_
      · intro h1
        exact n_rV c_36_63 rfl hS
      · intro h2
        refine n_iload_n c_36_37 rfl (n_iload c_36_38 rfl (n_i_ishr c_36_40 rfl ?_))
        have f3 := n_shr_r s x5
        generalize (n_shr s x5) = z4 at f3 ⊢
        refine n_iconst c_36_41 (n_i_iand c_36_42 rfl ?_)
        have f5 := n_and_y (x := z4) (y := 1) (by omega)
        generalize (n_and z4 1) = z6 at f5 ⊢
        refine n_if0_eq c_36_43 (by omega) ?_ ?_
        · intro h7
          refine n_fg (le_s (le_s (le_s (le_s (le_s (le_s le_0)))))) ?_
          exact ih.2 _ _ M hS (by omega) (by omega) (by omega)
        · intro h8
          refine n_aload_n c_36_46 rfl (n_aload_n c_36_47 rfl (n_iload c_36_48 rfl (n_iload_n c_36_50 rfl (n_v2I c_36_51 rfl sc_4.n rfl rfl rfl rfl (widen1_3 (n := x5) hS (by omega)) ?_))))
          intro z9 M10 hP11
          obtain ⟨eM, f11⟩ := hP11
          subst eM
          refine n_v1V c_36_54 rfl law50.c0.1.n rfl rfl rfl rfl (addWide_3 (r := z9) hS (by omega)) ?_
          intro  M12 hP13
          have hS12 := hP13
          refine n_fg (le_s (le_s (le_s (le_s (le_s (le_s le_0)))))) ?_
          exact ih.2 _ _ M12 hS12 (by omega) (by omega) (by omega)
    · intro x4 x5 M hS k4 k5 hnn
      refine n_iinc (L2 := [some (2, 50), some (0, 1), some (0, s), some (2, 4), some (0, x4), some (0, (x5 + 1))]) c_36_57 rfl rfl rfl (n_goto c_36_60 (n_fg (le_s (le_s (le_s (le_s (le_s (le_s le_0)))))) ?_))
      exact ih.1 _ _ M hS (by omega) (by omega) (by omega)
set_option maxHeartbeats 4000000 in
theorem takeS1_3 {xs : List Int32} {e : Nat} {ac : Int} {M0 M : nM} {s : Int} (hS : Sf 3 ac M0 M) (hs : -2147483648 ≤ s ∧ s ≤ 2147483647) : nW xs (e + 1) 36 0 [some (2, 50), some (0, 1), some (0, s), some (2, 4), none, none] [] M (nPV fun M1 => Sf 3 ac M0 M1) := by
  have hd : (3 : Int) = 2 ∨ (3 : Int) = 3 := by decide
  have hac := hS.2.2.2.2
  refine n_aload_n c_36_0 rfl (n_iload_n c_36_1 rfl (n_putV (bi := 0) hS c_36_2 law50.c0.1.n rfl rfl rfl rfl (w_50 (by omega) (by omega)) ?_))
  intro M1 eM1 hS1
  have g1_0 : M1 50 0 = 1 := by rw [eM1]; exact nu_s _ _ _ _
  refine n_aload_n c_36_5 rfl (n_iload_n c_36_6 rfl (n_putV (bi := 1) hS1 c_36_7 law50.c0.1.n rfl rfl rfl rfl (w_50 (by omega) (by omega)) ?_))
  intro M2 eM2 hS2
  have g2_0 : M2 50 0 = M1 50 0 := by rw [eM2]; exact nu_i (by omega)
  have g2_1 : M2 50 1 = s := by rw [eM2]; exact nu_s _ _ _ _
  refine n_aload_n c_36_10 rfl (n_iconst c_36_11 (n_putV (bi := 2) hS2 c_36_12 law50.c0.1.n rfl rfl rfl rfl (w_50 (by omega) (by omega)) ?_))
  intro M3 eM3 hS3
  have g3_0 : M3 50 0 = M2 50 0 := by rw [eM3]; exact nu_i (by omega)
  have g3_1 : M3 50 1 = M2 50 1 := by rw [eM3]; exact nu_i (by omega)
  have g3_2 : M3 50 2 = 0 := by rw [eM3]; exact nu_s _ _ _ _
  refine n_aload_n c_36_15 rfl (n_iconst c_36_16 (n_putV (bi := 3) hS3 c_36_17 law50.c0.1.n rfl rfl rfl rfl (w_50 (by omega) (by omega)) ?_))
  intro M4 eM4 hS4
  have g4_0 : M4 50 0 = M3 50 0 := by rw [eM4]; exact nu_i (by omega)
  have g4_1 : M4 50 1 = M3 50 1 := by rw [eM4]; exact nu_i (by omega)
  have g4_2 : M4 50 2 = M3 50 2 := by rw [eM4]; exact nu_i (by omega)
  have g4_3 : M4 50 3 = 0 := by rw [eM4]; exact nu_s _ _ _ _
  refine n_aload_n c_36_20 rfl (n_iload_n c_36_21 rfl (n_v1I c_36_22 rfl sc_4.n rfl rfl rfl rfl (power1_3  hS4 ) ?_))
  intro z5 M6 hP7
  obtain ⟨eM, f7⟩ := hP7
  subst eM
  obtain rfl : z5 = 3 := by omega
  refine n_istore (L2 := [some (2, 50), some (0, 1), some (0, s), some (2, 4), some (0, 3), none]) c_36_25 rfl rfl (n_iconst c_36_27 (n_istore (L2 := [some (2, 50), some (0, 1), some (0, s), some (2, 4), some (0, 3), some (0, 0)]) c_36_28 rfl rfl (n_fg (le_s (le_s (le_s (le_s (le_s (le_s le_0)))))) ?_)))
  exact (takeS1_3_c hS hs 30).1 _ _ M4 hS4 (by omega) (by omega) (by omega)

/-! The methods, by program. -/
set_option maxHeartbeats 4000000 in
theorem takeS2_3_c {xs : List Int32} {e : Nat} {ac : Int} {M0 M : nM} {s : Int} (hS : Sf 3 ac M0 M) (hs : -2147483648 ≤ s ∧ s ≤ 2147483647) : ∀ nn : Nat, (∀ (x4 x5 : Int) (M : nM), Sf 3 ac M0 M → (9 ≤ x4 ∧ x4 ≤ 9) → (0 ≤ x5 ∧ x5 ≤ 9) → (9 - x5) * 2 + 2 < (nn : Int) → nW xs (e + 1) 36 30 [some (2, 50), some (0, 2), some (0, s), some (2, 4), some (0, x4), some (0, x5)] [] M (nPV fun M1 => Sf 3 ac M0 M1)) ∧ (∀ (x4 x5 : Int) (M : nM), Sf 3 ac M0 M → (9 ≤ x4 ∧ x4 ≤ 9) → (0 ≤ x5 ∧ x5 ≤ 8) → (9 - x5) * 2 + 1 < (nn : Int) → nW xs (e + 1) 36 57 [some (2, 50), some (0, 2), some (0, s), some (2, 4), some (0, x4), some (0, x5)] [] M (nPV fun M1 => Sf 3 ac M0 M1)) := by
  have hd : (3 : Int) = 2 ∨ (3 : Int) = 3 := by decide
  have hac := hS.2.2.2.2
  intro nn
  induction nn with
  | zero => refine ⟨?_, ?_⟩ <;> (intros; omega)
  | succ nn ih =>
    refine ⟨?_, ?_⟩
    · intro x4 x5 M hS k4 k5 hnn
      refine n_iload c_36_30 rfl (n_iload c_36_32 rfl ?_)
      refine n_if2_ge c_36_34 (by omega) (by omega) ?_ ?_
      · intro h1
        exact n_rV c_36_63 rfl hS
      · intro h2
        refine n_iload_n c_36_37 rfl (n_iload c_36_38 rfl (n_i_ishr c_36_40 rfl ?_))
        have f3 := n_shr_r s x5
        generalize (n_shr s x5) = z4 at f3 ⊢
        refine n_iconst c_36_41 (n_i_iand c_36_42 rfl ?_)
        have f5 := n_and_y (x := z4) (y := 1) (by omega)
        generalize (n_and z4 1) = z6 at f5 ⊢
        refine n_if0_eq c_36_43 (by omega) ?_ ?_
        · intro h7
          refine n_fg (le_s (le_s (le_s (le_s (le_s (le_s le_0)))))) ?_
          exact ih.2 _ _ M hS (by omega) (by omega) (by omega)
        · intro h8
          refine n_aload_n c_36_46 rfl (n_aload_n c_36_47 rfl (n_iload c_36_48 rfl (n_iload_n c_36_50 rfl (n_v2I c_36_51 rfl sc_4.n rfl rfl rfl rfl (widen2_3 (n := x5) hS (by omega)) ?_))))
          intro z9 M10 hP11
          obtain ⟨eM, f11⟩ := hP11
          subst eM
          refine n_v1V c_36_54 rfl law50.c0.1.n rfl rfl rfl rfl (addWide_3 (r := z9) hS (by omega)) ?_
          intro  M12 hP13
          have hS12 := hP13
          refine n_fg (le_s (le_s (le_s (le_s (le_s (le_s le_0)))))) ?_
          exact ih.2 _ _ M12 hS12 (by omega) (by omega) (by omega)
    · intro x4 x5 M hS k4 k5 hnn
      refine n_iinc (L2 := [some (2, 50), some (0, 2), some (0, s), some (2, 4), some (0, x4), some (0, (x5 + 1))]) c_36_57 rfl rfl rfl (n_goto c_36_60 (n_fg (le_s (le_s (le_s (le_s (le_s (le_s le_0)))))) ?_))
      exact ih.1 _ _ M hS (by omega) (by omega) (by omega)
set_option maxHeartbeats 4000000 in
theorem takeS2_3 {xs : List Int32} {e : Nat} {ac : Int} {M0 M : nM} {s : Int} (hS : Sf 3 ac M0 M) (hs : -2147483648 ≤ s ∧ s ≤ 2147483647) : nW xs (e + 1) 36 0 [some (2, 50), some (0, 2), some (0, s), some (2, 4), none, none] [] M (nPV fun M1 => Sf 3 ac M0 M1) := by
  have hd : (3 : Int) = 2 ∨ (3 : Int) = 3 := by decide
  have hac := hS.2.2.2.2
  refine n_aload_n c_36_0 rfl (n_iload_n c_36_1 rfl (n_putV (bi := 0) hS c_36_2 law50.c0.1.n rfl rfl rfl rfl (w_50 (by omega) (by omega)) ?_))
  intro M1 eM1 hS1
  have g1_0 : M1 50 0 = 2 := by rw [eM1]; exact nu_s _ _ _ _
  refine n_aload_n c_36_5 rfl (n_iload_n c_36_6 rfl (n_putV (bi := 1) hS1 c_36_7 law50.c0.1.n rfl rfl rfl rfl (w_50 (by omega) (by omega)) ?_))
  intro M2 eM2 hS2
  have g2_0 : M2 50 0 = M1 50 0 := by rw [eM2]; exact nu_i (by omega)
  have g2_1 : M2 50 1 = s := by rw [eM2]; exact nu_s _ _ _ _
  refine n_aload_n c_36_10 rfl (n_iconst c_36_11 (n_putV (bi := 2) hS2 c_36_12 law50.c0.1.n rfl rfl rfl rfl (w_50 (by omega) (by omega)) ?_))
  intro M3 eM3 hS3
  have g3_0 : M3 50 0 = M2 50 0 := by rw [eM3]; exact nu_i (by omega)
  have g3_1 : M3 50 1 = M2 50 1 := by rw [eM3]; exact nu_i (by omega)
  have g3_2 : M3 50 2 = 0 := by rw [eM3]; exact nu_s _ _ _ _
  refine n_aload_n c_36_15 rfl (n_iconst c_36_16 (n_putV (bi := 3) hS3 c_36_17 law50.c0.1.n rfl rfl rfl rfl (w_50 (by omega) (by omega)) ?_))
  intro M4 eM4 hS4
  have g4_0 : M4 50 0 = M3 50 0 := by rw [eM4]; exact nu_i (by omega)
  have g4_1 : M4 50 1 = M3 50 1 := by rw [eM4]; exact nu_i (by omega)
  have g4_2 : M4 50 2 = M3 50 2 := by rw [eM4]; exact nu_i (by omega)
  have g4_3 : M4 50 3 = 0 := by rw [eM4]; exact nu_s _ _ _ _
  refine n_aload_n c_36_20 rfl (n_iload_n c_36_21 rfl (n_v1I c_36_22 rfl sc_4.n rfl rfl rfl rfl (power2_3  hS4 ) ?_))
  intro z5 M6 hP7
  obtain ⟨eM, f7⟩ := hP7
  subst eM
  obtain rfl : z5 = 9 := by omega
  refine n_istore (L2 := [some (2, 50), some (0, 2), some (0, s), some (2, 4), some (0, 9), none]) c_36_25 rfl rfl (n_iconst c_36_27 (n_istore (L2 := [some (2, 50), some (0, 2), some (0, s), some (2, 4), some (0, 9), some (0, 0)]) c_36_28 rfl rfl (n_fg (le_s (le_s (le_s (le_s (le_s (le_s le_0)))))) ?_)))
  exact (takeS2_3_c hS hs 54).1 _ _ M4 hS4 (by omega) (by omega) (by omega)

set_option maxHeartbeats 4000000 in
theorem takeS3_3_c {xs : List Int32} {e : Nat} {ac : Int} {M0 M : nM} {s : Int} (hS : Sf 3 ac M0 M) (hs : -2147483648 ≤ s ∧ s ≤ 2147483647) : ∀ nn : Nat, (∀ (x4 x5 : Int) (M : nM), Sf 3 ac M0 M → (27 ≤ x4 ∧ x4 ≤ 27) → (0 ≤ x5 ∧ x5 ≤ 27) → (27 - x5) * 2 + 2 < (nn : Int) → nW xs (e + 1) 36 30 [some (2, 50), some (0, 3), some (0, s), some (2, 4), some (0, x4), some (0, x5)] [] M (nPV fun M1 => Sf 3 ac M0 M1)) ∧ (∀ (x4 x5 : Int) (M : nM), Sf 3 ac M0 M → (27 ≤ x4 ∧ x4 ≤ 27) → (0 ≤ x5 ∧ x5 ≤ 26) → (27 - x5) * 2 + 1 < (nn : Int) → nW xs (e + 1) 36 57 [some (2, 50), some (0, 3), some (0, s), some (2, 4), some (0, x4), some (0, x5)] [] M (nPV fun M1 => Sf 3 ac M0 M1)) := by
  have hd : (3 : Int) = 2 ∨ (3 : Int) = 3 := by decide
  have hac := hS.2.2.2.2
  intro nn
  induction nn with
  | zero => refine ⟨?_, ?_⟩ <;> (intros; omega)
  | succ nn ih =>
    refine ⟨?_, ?_⟩
    · intro x4 x5 M hS k4 k5 hnn
      refine n_iload c_36_30 rfl (n_iload c_36_32 rfl ?_)
      refine n_if2_ge c_36_34 (by omega) (by omega) ?_ ?_
      · intro h1
        exact n_rV c_36_63 rfl hS
      · intro h2
        refine n_iload_n c_36_37 rfl (n_iload c_36_38 rfl (n_i_ishr c_36_40 rfl ?_))
        have f3 := n_shr_r s x5
        generalize (n_shr s x5) = z4 at f3 ⊢
        refine n_iconst c_36_41 (n_i_iand c_36_42 rfl ?_)
        have f5 := n_and_y (x := z4) (y := 1) (by omega)
        generalize (n_and z4 1) = z6 at f5 ⊢
        refine n_if0_eq c_36_43 (by omega) ?_ ?_
        · intro h7
          refine n_fg (le_s (le_s (le_s (le_s (le_s (le_s le_0)))))) ?_
          exact ih.2 _ _ M hS (by omega) (by omega) (by omega)
        · intro h8
          refine n_aload_n c_36_46 rfl (n_aload_n c_36_47 rfl (n_iload c_36_48 rfl (n_iload_n c_36_50 rfl (n_v2I c_36_51 rfl sc_4.n rfl rfl rfl rfl (widen3_3 (n := x5) hS (by omega)) ?_))))
          intro z9 M10 hP11
          obtain ⟨eM, f11⟩ := hP11
          subst eM
          refine n_v1V c_36_54 rfl law50.c0.1.n rfl rfl rfl rfl (addWide_3 (r := z9) hS (by omega)) ?_
          intro  M12 hP13
          have hS12 := hP13
          refine n_fg (le_s (le_s (le_s (le_s (le_s (le_s le_0)))))) ?_
          exact ih.2 _ _ M12 hS12 (by omega) (by omega) (by omega)
    · intro x4 x5 M hS k4 k5 hnn
      refine n_iinc (L2 := [some (2, 50), some (0, 3), some (0, s), some (2, 4), some (0, x4), some (0, (x5 + 1))]) c_36_57 rfl rfl rfl (n_goto c_36_60 (n_fg (le_s (le_s (le_s (le_s (le_s (le_s le_0)))))) ?_))
      exact ih.1 _ _ M hS (by omega) (by omega) (by omega)
set_option maxHeartbeats 4000000 in
theorem takeS3_3 {xs : List Int32} {e : Nat} {ac : Int} {M0 M : nM} {s : Int} (hS : Sf 3 ac M0 M) (hs : -2147483648 ≤ s ∧ s ≤ 2147483647) : nW xs (e + 1) 36 0 [some (2, 50), some (0, 3), some (0, s), some (2, 4), none, none] [] M (nPV fun M1 => Sf 3 ac M0 M1) := by
  have hd : (3 : Int) = 2 ∨ (3 : Int) = 3 := by decide
  have hac := hS.2.2.2.2
  refine n_aload_n c_36_0 rfl (n_iload_n c_36_1 rfl (n_putV (bi := 0) hS c_36_2 law50.c0.1.n rfl rfl rfl rfl (w_50 (by omega) (by omega)) ?_))
  intro M1 eM1 hS1
  have g1_0 : M1 50 0 = 3 := by rw [eM1]; exact nu_s _ _ _ _
  refine n_aload_n c_36_5 rfl (n_iload_n c_36_6 rfl (n_putV (bi := 1) hS1 c_36_7 law50.c0.1.n rfl rfl rfl rfl (w_50 (by omega) (by omega)) ?_))
  intro M2 eM2 hS2
  have g2_0 : M2 50 0 = M1 50 0 := by rw [eM2]; exact nu_i (by omega)
  have g2_1 : M2 50 1 = s := by rw [eM2]; exact nu_s _ _ _ _
  refine n_aload_n c_36_10 rfl (n_iconst c_36_11 (n_putV (bi := 2) hS2 c_36_12 law50.c0.1.n rfl rfl rfl rfl (w_50 (by omega) (by omega)) ?_))
  intro M3 eM3 hS3
  have g3_0 : M3 50 0 = M2 50 0 := by rw [eM3]; exact nu_i (by omega)
  have g3_1 : M3 50 1 = M2 50 1 := by rw [eM3]; exact nu_i (by omega)
  have g3_2 : M3 50 2 = 0 := by rw [eM3]; exact nu_s _ _ _ _
  refine n_aload_n c_36_15 rfl (n_iconst c_36_16 (n_putV (bi := 3) hS3 c_36_17 law50.c0.1.n rfl rfl rfl rfl (w_50 (by omega) (by omega)) ?_))
  intro M4 eM4 hS4
  have g4_0 : M4 50 0 = M3 50 0 := by rw [eM4]; exact nu_i (by omega)
  have g4_1 : M4 50 1 = M3 50 1 := by rw [eM4]; exact nu_i (by omega)
  have g4_2 : M4 50 2 = M3 50 2 := by rw [eM4]; exact nu_i (by omega)
  have g4_3 : M4 50 3 = 0 := by rw [eM4]; exact nu_s _ _ _ _
  refine n_aload_n c_36_20 rfl (n_iload_n c_36_21 rfl (n_v1I c_36_22 rfl sc_4.n rfl rfl rfl rfl (power3_3  hS4 ) ?_))
  intro z5 M6 hP7
  obtain ⟨eM, f7⟩ := hP7
  subst eM
  obtain rfl : z5 = 27 := by omega
  refine n_istore (L2 := [some (2, 50), some (0, 3), some (0, s), some (2, 4), some (0, 27), none]) c_36_25 rfl rfl (n_iconst c_36_27 (n_istore (L2 := [some (2, 50), some (0, 3), some (0, s), some (2, 4), some (0, 27), some (0, 0)]) c_36_28 rfl rfl (n_fg (le_s (le_s (le_s (le_s (le_s (le_s le_0)))))) ?_)))
  exact (takeS3_3_c hS hs 126).1 _ _ M4 hS4 (by omega) (by omega) (by omega)

set_option maxHeartbeats 4000000 in
theorem takeS_3 {xs : List Int32} {e : Nat} {ac : Int} {M0 M : nM} {k s : Int} (hS : Sf 3 ac M0 M) (hk : 0 ≤ k ∧ k ≤ 3) (hs : -2147483648 ≤ s ∧ s ≤ 2147483647) : nW xs (e + 1) 36 0 [some (2, 50), some (0, k), some (0, s), some (2, 4), none, none] [] M (nPV fun M1 => Sf 3 ac M0 M1) := by
  rcases (show k = 0 ∨ k = 1 ∨ k = 2 ∨ k = 3 by omega) with rfl | rfl | rfl | rfl
  · exact n_post (takeS0_3 hS (by omega)) (fun w M1 h => h)
  · exact n_post (takeS1_3 hS (by omega)) (fun w M1 h => h)
  · exact n_post (takeS2_3 hS (by omega)) (fun w M1 h => h)
  · exact n_post (takeS3_3 hS (by omega)) (fun w M1 h => h)

set_option maxHeartbeats 4000000 in
theorem tried_3 {xs : List Int32} {e : Nat} {ac : Int} {M0 M : nM} {q a n : Int} (hS : Sf 3 ac M0 M) (hq : LawAt q) (ha : -2147483648 ≤ a ∧ a ≤ 2147483647) (hn : -2147483648 ≤ n ∧ n ≤ 2147483647) : nW xs (e + 1) 41 0 [some (2, q), some (0, a), some (0, n)] [] M (nPI fun z M1 => M = M1 ∧ (0 ≤ z ∧ z ≤ 27)) := by
  have hd : (3 : Int) = 2 ∨ (3 : Int) = 3 := by decide
  have hac := hS.2.2.2.2
  refine n_iload_n c_41_0 rfl (n_iload_n c_41_1 rfl ?_)
  refine n_if2_lt c_41_2 (by omega) (by omega) ?_ ?_
  · intro h1
    refine n_aload_n c_41_12 rfl (n_getV (bi := 3) c_41_13 hq.c0.1.n rfl rfl rfl (t_law hS hq).2.2.2 ?_)
    intro z2 ez2 f3
    refine n_iconst c_41_16 (n_s2I c_41_17 rfl rfl rfl rfl (imin_3 (x := z2) (y := 1) hS (by omega) (by omega)) ?_)
    intro z4 M5 hP6
    obtain ⟨eM, f6, f6p0⟩ := hP6
    subst eM
    exact n_rI c_41_20 rfl ⟨rfl, by omega⟩
  · intro h7
    refine n_aload_n c_41_5 rfl (n_getV (bi := 3) c_41_6 hq.c0.1.n rfl rfl rfl (t_law hS hq).2.2.2 ?_)
    intro z8 ez8 f9
    refine n_goto c_41_9 ?_
    exact n_rI c_41_20 rfl ⟨rfl, by omega⟩

set_option maxHeartbeats 4000000 in
theorem hasAllRows_3 {xs : List Int32} {e : Nat} {ac : Int} {M0 M : nM} {q : Int} (hS : Sf 3 ac M0 M) (hq : LawAt q) : nW xs (e + 1) 37 0 [some (2, q), some (2, 4)] [] M (nPI fun z M1 => M = M1 ∧ (0 ≤ z ∧ z ≤ 1)) := by
  have hd : (3 : Int) = 2 ∨ (3 : Int) = 3 := by decide
  have hac := hS.2.2.2.2
  refine n_aload_n c_37_0 rfl (n_getV (bi := 3) c_37_1 hq.c0.1.n rfl rfl rfl (t_law hS hq).2.2.2 ?_)
  intro z1 ez1 f2
  refine n_aload_n c_37_4 rfl (n_aload_n c_37_5 rfl (n_getV (bi := 0) c_37_6 hq.c0.1.n rfl rfl rfl (t_law hS hq).1 ?_))
  intro z3 ez3 f4
  refine n_v1I c_37_9 rfl sc_4.n rfl rfl rfl rfl (powerU_3 (n := z3) hS (by omega)) ?_
  intro z5 M6 hP7
  obtain ⟨eM, f7⟩ := hP7
  subst eM
  refine n_if2_ne c_37_12 (by omega) (by omega) ?_ ?_
  · intro h8
    refine n_iconst c_37_19 ?_
    exact n_rZ c_37_20 rfl (by omega) ⟨rfl, by omega⟩
  · intro h9
    refine n_iconst c_37_15 (n_goto c_37_16 ?_)
    exact n_rZ c_37_20 rfl (by omega) ⟨rfl, by omega⟩

set_option maxHeartbeats 4000000 in
theorem isKeptBy_3_c {xs : List Int32} {e : Nat} {ac : Int} {M0 M : nM} {q p : Int} (hS : Sf 3 ac M0 M) (hq : LawAt q) (hp : ActAt p) (hpl : p < 55 + 3 * ac) : ∀ nn : Nat, (∀ (x4 x5 x6 : Int) (M : nM), Sf 3 ac M0 M → (0 ≤ x4 ∧ x4 ≤ 27) → (0 ≤ x5 ∧ x5 ≤ 27) → (0 ≤ x6 ∧ x6 ≤ 27) → (27 - x6) * 871 + 871 < (nn : Int) → nW xs (e + 2) 38 25 [some (2, q), some (2, p), some (2, 4), some (2, 52), some (0, x4), some (0, x5), some (0, x6), none, none] [] M (nPI fun z M1 => Sf 3 ac M0 M1 ∧ (0 ≤ z ∧ z ≤ 1))) ∧ (∀ (x4 x5 x6 x7 : Int) (M : nM), Sf 3 ac M0 M → (1 ≤ x4 ∧ x4 ≤ 27) → (0 ≤ x5 ∧ x5 ≤ 27) → (0 ≤ x6 ∧ x6 ≤ 26) → (0 ≤ x7 ∧ x7 ≤ 27) → (27 - x6) * 871 + (27 - x7) * 30 + 30 < (nn : Int) → nW xs (e + 2) 38 35 [some (2, q), some (2, p), some (2, 4), some (2, 52), some (0, x4), some (0, x5), some (0, x6), some (0, x7), none] [] M (nPI fun z M1 => Sf 3 ac M0 M1 ∧ (0 ≤ z ∧ z ≤ 1))) ∧ (∀ (x4 x5 x6 x7 x8 : Int) (M : nM), Sf 3 ac M0 M → (1 ≤ x4 ∧ x4 ≤ 27) → (1 ≤ x5 ∧ x5 ≤ 27) → (0 ≤ x6 ∧ x6 ≤ 26) → (0 ≤ x7 ∧ x7 ≤ 26) → (0 ≤ x8 ∧ x8 ≤ 27) → (27 - x6) * 871 + (27 - x7) * 30 + (27 - x8) * 1 + 1 < (nn : Int) → nW xs (e + 2) 38 68 [some (2, q), some (2, p), some (2, 4), some (2, 52), some (0, x4), some (0, x5), some (0, x6), some (0, x7), some (0, x8)] [] M (nPI fun z M1 => Sf 3 ac M0 M1 ∧ (0 ≤ z ∧ z ≤ 1))) := by
  have hd : (3 : Int) = 2 ∨ (3 : Int) = 3 := by decide
  have hac := hS.2.2.2.2
  intro nn
  induction nn with
  | zero => refine ⟨?_, ?_, ?_⟩ <;> (intros; omega)
  | succ nn ih =>
    refine ⟨?_, ?_, ?_⟩
    · intro x4 x5 x6 M hS k4 k5 k6 hnn
      refine n_iload c_38_25 rfl (n_iload c_38_27 rfl ?_)
      refine n_if2_ge c_38_29 (by omega) (by omega) ?_ ?_
      · intro h1
        refine n_iconst c_38_119 ?_
        exact n_rZ c_38_120 rfl (by omega) ⟨hS, by omega⟩
      · intro h2
        refine n_iconst c_38_32 (n_istore (L2 := [some (2, q), some (2, p), some (2, 4), some (2, 52), some (0, x4), some (0, x5), some (0, x6), some (0, 0), none]) c_38_33 rfl rfl (n_fg (le_s (le_s (le_s (le_s (le_s (le_s (le_s (le_s (le_n le_0))))))))) ?_))
        exact ih.2.1 _ _ _ _ M hS (by omega) (by omega) (by omega) (by omega) (by omega)
    · intro x4 x5 x6 x7 M hS k4 k5 k6 k7 hnn
      refine n_iload c_38_35 rfl (n_iload c_38_37 rfl ?_)
      refine n_if2_ge c_38_39 (by omega) (by omega) ?_ ?_
      · intro h1
        refine n_iinc (L2 := [some (2, q), some (2, p), some (2, 4), some (2, 52), some (0, x4), some (0, x5), some (0, (x6 + 1)), some (0, x7), none]) c_38_113 rfl rfl rfl (n_goto c_38_116 (n_fg (le_s (le_s (le_s (le_s (le_s (le_s (le_s (le_n (le_n le_0))))))))) ?_))
        exact ih.1 _ _ _ M hS (by omega) (by omega) (by omega) (by omega)
      · intro h2
        refine n_aload_n c_38_42 rfl (n_aload_n c_38_43 rfl (n_aload_n c_38_44 rfl (n_getR c_38_45 hp.c0.1.n rfl rfl rfl hp.r.1 (n_aload_n c_38_48 rfl (n_getR c_38_49 hq.c0.1.n rfl rfl rfl hq.r (n_iload c_38_52 rfl (n_ialoadV c_38_54 hq.c0.2.n rfl rfl rfl (by omega) (t_lawr hS hq (by omega)) ?_)))))))
        intro z3 ez3 f4
        refine n_aload_n c_38_55 rfl (n_getR c_38_56 hq.c0.1.n rfl rfl rfl hq.r (n_iload c_38_59 rfl (n_ialoadV c_38_61 hq.c0.2.n rfl rfl rfl (by omega) (t_lawr hS hq (by omega)) ?_)))
        intro z5 ez5 f6
        refine n_v4V c_38_62 rfl sc_52.n rfl rfl rfl rfl (fillLT_3 (p := p) (i := z3) (j := z5) hS hp hpl (by omega) (by omega)) ?_
        intro  M7 hP8
        have hS7 := hP8
        refine n_iconst c_38_65 (n_istore (L2 := [some (2, q), some (2, p), some (2, 4), some (2, 52), some (0, x4), some (0, x5), some (0, x6), some (0, x7), some (0, 0)]) c_38_66 rfl rfl (n_fg (le_s (le_s (le_s (le_s (le_s (le_s (le_s (le_s (le_s le_0))))))))) ?_))
        exact ih.2.2 _ _ _ _ _ M7 hS7 (by omega) (by omega) (by omega) (by omega) (by omega) (by omega)
    · intro x4 x5 x6 x7 x8 M hS k4 k5 k6 k7 k8 hnn
      refine n_iload c_38_68 rfl (n_aload_n c_38_70 rfl (n_getV (bi := 3) c_38_71 hq.c0.1.n rfl rfl rfl (t_law hS hq).2.2.2 ?_))
      intro z1 ez1 f2
      refine n_if2_ge c_38_74 (by omega) (by omega) ?_ ?_
      · intro h3
        refine n_iinc (L2 := [some (2, q), some (2, p), some (2, 4), some (2, 52), some (0, x4), some (0, x5), some (0, x6), some (0, (x7 + 1)), some (0, x8)]) c_38_107 rfl rfl rfl (n_goto c_38_110 (n_fg (le_s (le_s (le_s (le_s (le_s (le_s (le_s (le_s (le_n le_0))))))))) ?_))
        exact ih.2.1 _ _ _ _ M hS (by omega) (by omega) (by omega) (by omega) (by omega)
      · intro h4
        refine n_aload_n c_38_77 rfl (n_getV (bi := 2) c_38_78 hq.c0.1.n rfl rfl rfl (t_law hS hq).2.2.1 ?_)
        intro z5 ez5 f6
        refine n_aload_n c_38_81 rfl (n_getR c_38_82 sc_52.n rfl rfl rfl r_52_0 (n_aload_n c_38_85 rfl (n_getR c_38_86 hq.c0.1.n rfl rfl rfl hq.r (n_iload c_38_89 rfl (n_ialoadV c_38_91 hq.c0.2.n rfl rfl rfl (by omega) (t_lawr hS hq (by omega)) ?_)))))
        intro z7 ez7 f8
        refine n_ialoadV c_38_92 sc_53.n rfl rfl rfl (by omega) (t_53 hS (by omega)) ?_
        intro z9 ez9 f10
        refine n_i_ishr c_38_93 rfl ?_
        have f11 := n_shr_r z5 z9
        generalize (n_shr z5 z9) = z12 at f11 ⊢
        refine n_iconst c_38_94 (n_i_iand c_38_95 rfl ?_)
        have f13 := n_and_y (x := z12) (y := 1) (by omega)
        generalize (n_and z12 1) = z14 at f13 ⊢
        refine n_if0_ne c_38_96 (by omega) ?_ ?_
        · intro h15
          refine n_iinc (L2 := [some (2, q), some (2, p), some (2, 4), some (2, 52), some (0, x4), some (0, x5), some (0, x6), some (0, x7), some (0, (x8 + 1))]) c_38_101 rfl rfl rfl (n_goto c_38_104 (n_fg (le_s (le_s (le_s (le_s (le_s (le_s (le_s (le_s (le_s le_0))))))))) ?_))
          exact ih.2.2 _ _ _ _ _ M hS (by omega) (by omega) (by omega) (by omega) (by omega) (by omega)
        · intro h16
          refine n_iconst c_38_99 ?_
          exact n_rZ c_38_100 rfl (by omega) ⟨hS, by omega⟩
set_option maxHeartbeats 4000000 in
theorem isKeptBy_3 {xs : List Int32} {e : Nat} {ac : Int} {M0 M : nM} {q p : Int} (hS : Sf 3 ac M0 M) (hq : LawAt q) (hp : ActAt p) (hpl : p < 55 + 3 * ac) : nW xs (e + 2) 38 0 [some (2, q), some (2, p), some (2, 4), some (2, 52), none, none, none, none, none] [] M (nPI fun z M1 => Sf 3 ac M0 M1 ∧ (0 ≤ z ∧ z ≤ 1)) := by
  have hd : (3 : Int) = 2 ∨ (3 : Int) = 3 := by decide
  have hac := hS.2.2.2.2
  refine n_aload_n c_38_0 rfl (n_aload_n c_38_1 rfl (n_getV (bi := 0) c_38_2 hp.c0.1.n rfl rfl rfl (t_actl hS hp hpl).1 ?_))
  intro z1 ez1 f2
  refine n_iconst c_38_5 (n_v2I c_38_6 rfl hq.c0.1.n rfl rfl rfl rfl (tried_3 (q := q) (a := z1) (n := 3) hS hq (by omega) (by omega)) ?_)
  intro z3 M4 hP5
  obtain ⟨eM, f5⟩ := hP5
  subst eM
  refine n_istore (L2 := [some (2, q), some (2, p), some (2, 4), some (2, 52), some (0, z3), none, none, none, none]) c_38_9 rfl rfl (n_aload_n c_38_11 rfl (n_aload_n c_38_12 rfl (n_getV (bi := 0) c_38_13 hp.c0.1.n rfl rfl rfl (t_actl hS hp hpl).1 ?_)))
  intro z6 ez6 f7
  refine n_iconst c_38_16 (n_v2I c_38_17 rfl hq.c0.1.n rfl rfl rfl rfl (tried_3 (q := q) (a := z6) (n := 2) hS hq (by omega) (by omega)) ?_)
  intro z8 M9 hP10
  obtain ⟨eM, f10⟩ := hP10
  subst eM
  refine n_istore (L2 := [some (2, q), some (2, p), some (2, 4), some (2, 52), some (0, z3), some (0, z8), none, none, none]) c_38_20 rfl rfl (n_iconst c_38_22 (n_istore (L2 := [some (2, q), some (2, p), some (2, 4), some (2, 52), some (0, z3), some (0, z8), some (0, 0), none, none]) c_38_23 rfl rfl (n_fg (le_s (le_s (le_s (le_s (le_s (le_s (le_s (le_n (le_n le_0))))))))) ?_)))
  exact (isKeptBy_3_c hS hq hp hpl 50528).1 _ _ _ M hS (by omega) (by omega) (by omega) (by omega)

set_option maxHeartbeats 4000000 in
theorem growsBy_3_c {xs : List Int32} {e : Nat} {ac : Int} {M0 M : nM} {p : Int} (hS : Sf 3 ac M0 M) (hp : ActAt p) (hpl : p < 55 + 3 * ac) : ∀ nn : Nat, (∀ (x4 x5 x6 x7 : Int) (M : nM), Sf 3 ac M0 M → (0 ≤ x4 ∧ x4 ≤ 27) → (0 ≤ x5 ∧ x5 ≤ 27) → (0 ≤ x6 ∧ x6 ≤ 27) → (0 ≤ x7 ∧ x7 ≤ 27) → (27 - x7) * 871 + 871 < (nn : Int) → nW xs (e + 2) 39 31 [some (2, 50), some (2, p), some (2, 4), some (2, 52), some (0, x4), some (0, x5), some (0, x6), some (0, x7), none, none] [] M (nPI fun z M1 => Sf 3 ac M0 M1 ∧ (0 ≤ z ∧ z ≤ 1))) ∧ (∀ (x4 x5 x6 x7 x8 : Int) (M : nM), Sf 3 ac M0 M → (0 ≤ x4 ∧ x4 ≤ 27) → (1 ≤ x5 ∧ x5 ≤ 27) → (0 ≤ x6 ∧ x6 ≤ 27) → (0 ≤ x7 ∧ x7 ≤ 26) → (0 ≤ x8 ∧ x8 ≤ 27) → (27 - x7) * 871 + (27 - x8) * 30 + 30 < (nn : Int) → nW xs (e + 2) 39 41 [some (2, 50), some (2, p), some (2, 4), some (2, 52), some (0, x4), some (0, x5), some (0, x6), some (0, x7), some (0, x8), none] [] M (nPI fun z M1 => Sf 3 ac M0 M1 ∧ (0 ≤ z ∧ z ≤ 1))) ∧ (∀ (x4 x5 x6 x7 x8 x9 : Int) (M : nM), Sf 3 ac M0 M → (0 ≤ x4 ∧ x4 ≤ 27) → (1 ≤ x5 ∧ x5 ≤ 27) → (1 ≤ x6 ∧ x6 ≤ 27) → (0 ≤ x7 ∧ x7 ≤ 26) → (0 ≤ x8 ∧ x8 ≤ 26) → (0 ≤ x9 ∧ x9 ≤ 27) → (27 - x7) * 871 + (27 - x8) * 30 + (27 - x9) * 1 + 1 < (nn : Int) → nW xs (e + 2) 39 74 [some (2, 50), some (2, p), some (2, 4), some (2, 52), some (0, x4), some (0, x5), some (0, x6), some (0, x7), some (0, x8), some (0, x9)] [] M (nPI fun z M1 => Sf 3 ac M0 M1 ∧ (0 ≤ z ∧ z ≤ 1))) := by
  have hd : (3 : Int) = 2 ∨ (3 : Int) = 3 := by decide
  have hac := hS.2.2.2.2
  intro nn
  induction nn with
  | zero => refine ⟨?_, ?_, ?_⟩ <;> (intros; omega)
  | succ nn ih =>
    refine ⟨?_, ?_, ?_⟩
    · intro x4 x5 x6 x7 M hS k4 k5 k6 k7 hnn
      refine n_iload c_39_31 rfl (n_iload c_39_33 rfl ?_)
      refine n_if2_ge c_39_35 (by omega) (by omega) ?_ ?_
      · intro h1
        refine n_aload_n c_39_115 rfl (n_getV (bi := 3) c_39_116 law50.c0.1.n rfl rfl rfl (t_law hS law50).2.2.2 ?_)
        intro z2 ez2 f3
        refine n_iload c_39_119 rfl ?_
        refine n_if2_le c_39_121 (by omega) (by omega) ?_ ?_
        · intro h4
          refine n_iconst c_39_128 ?_
          exact n_rZ c_39_129 rfl (by omega) ⟨hS, by omega⟩
        · intro h5
          refine n_iconst c_39_124 (n_goto c_39_125 ?_)
          exact n_rZ c_39_129 rfl (by omega) ⟨hS, by omega⟩
      · intro h6
        refine n_iconst c_39_38 (n_istore (L2 := [some (2, 50), some (2, p), some (2, 4), some (2, 52), some (0, x4), some (0, x5), some (0, x6), some (0, x7), some (0, 0), none]) c_39_39 rfl rfl (n_fg (le_s (le_s (le_s (le_s (le_s (le_s (le_s (le_s (le_s (le_n le_0)))))))))) ?_))
        exact ih.2.1 _ _ _ _ _ M hS (by omega) (by omega) (by omega) (by omega) (by omega) (by omega)
    · intro x4 x5 x6 x7 x8 M hS k4 k5 k6 k7 k8 hnn
      refine n_iload c_39_41 rfl (n_iload c_39_43 rfl ?_)
      refine n_if2_ge c_39_45 (by omega) (by omega) ?_ ?_
      · intro h1
        refine n_iinc (L2 := [some (2, 50), some (2, p), some (2, 4), some (2, 52), some (0, x4), some (0, x5), some (0, x6), some (0, (x7 + 1)), some (0, x8), none]) c_39_109 rfl rfl rfl (n_goto c_39_112 (n_fg (le_s (le_s (le_s (le_s (le_s (le_s (le_s (le_s (le_n (le_n le_0)))))))))) ?_))
        exact ih.1 _ _ _ _ M hS (by omega) (by omega) (by omega) (by omega) (by omega)
      · intro h2
        refine n_aload_n c_39_48 rfl (n_aload_n c_39_49 rfl (n_aload_n c_39_50 rfl (n_getR c_39_51 hp.c0.1.n rfl rfl rfl hp.r.1 (n_aload_n c_39_54 rfl (n_getR c_39_55 law50.c0.1.n rfl rfl rfl law50.r (n_iload c_39_58 rfl (n_ialoadV c_39_60 law50.c0.2.n rfl rfl rfl (by omega) (t_lawr hS law50 (by omega)) ?_)))))))
        intro z3 ez3 f4
        refine n_aload_n c_39_61 rfl (n_getR c_39_62 law50.c0.1.n rfl rfl rfl law50.r (n_iload c_39_65 rfl (n_ialoadV c_39_67 law50.c0.2.n rfl rfl rfl (by omega) (t_lawr hS law50 (by omega)) ?_)))
        intro z5 ez5 f6
        refine n_v4V c_39_68 rfl sc_52.n rfl rfl rfl rfl (fillLT_3 (p := p) (i := z3) (j := z5) hS hp hpl (by omega) (by omega)) ?_
        intro  M7 hP8
        have hS7 := hP8
        refine n_iconst c_39_71 (n_istore (L2 := [some (2, 50), some (2, p), some (2, 4), some (2, 52), some (0, x4), some (0, x5), some (0, x6), some (0, x7), some (0, x8), some (0, 0)]) c_39_72 rfl rfl (n_fg (le_s (le_s (le_s (le_s (le_s (le_s (le_s (le_s (le_s (le_s le_0)))))))))) ?_))
        exact ih.2.2 _ _ _ _ _ _ M7 hS7 (by omega) (by omega) (by omega) (by omega) (by omega) (by omega) (by omega)
    · intro x4 x5 x6 x7 x8 x9 M hS k4 k5 k6 k7 k8 k9 hnn
      refine n_iload c_39_74 rfl (n_iload c_39_76 rfl ?_)
      refine n_if2_ge c_39_78 (by omega) (by omega) ?_ ?_
      · intro h1
        refine n_iinc (L2 := [some (2, 50), some (2, p), some (2, 4), some (2, 52), some (0, x4), some (0, x5), some (0, x6), some (0, x7), some (0, (x8 + 1)), some (0, x9)]) c_39_103 rfl rfl rfl (n_goto c_39_106 (n_fg (le_s (le_s (le_s (le_s (le_s (le_s (le_s (le_s (le_s (le_n le_0)))))))))) ?_))
        exact ih.2.1 _ _ _ _ _ M hS (by omega) (by omega) (by omega) (by omega) (by omega) (by omega)
      · intro h2
        refine n_aload_n c_39_81 rfl (n_aload_n c_39_82 rfl (n_getR c_39_83 sc_52.n rfl rfl rfl r_52_0 (n_aload_n c_39_86 rfl (n_getR c_39_87 law50.c0.1.n rfl rfl rfl law50.r (n_iload c_39_90 rfl (n_ialoadV c_39_92 law50.c0.2.n rfl rfl rfl (by omega) (t_lawr hS law50 (by omega)) ?_))))))
        intro z3 ez3 f4
        refine n_ialoadV c_39_93 sc_53.n rfl rfl rfl (by omega) (t_53 hS (by omega)) ?_
        intro z5 ez5 f6
        refine n_v1V c_39_94 rfl law50.c0.1.n rfl rfl rfl rfl (addWide_3 (r := z5) hS (by omega)) ?_
        intro  M7 hP8
        have hS7 := hP8
        refine n_iinc (L2 := [some (2, 50), some (2, p), some (2, 4), some (2, 52), some (0, x4), some (0, x5), some (0, x6), some (0, x7), some (0, x8), some (0, (x9 + 1))]) c_39_97 rfl rfl rfl (n_goto c_39_100 (n_fg (le_s (le_s (le_s (le_s (le_s (le_s (le_s (le_s (le_s (le_s le_0)))))))))) ?_))
        exact ih.2.2 _ _ _ _ _ _ M7 hS7 (by omega) (by omega) (by omega) (by omega) (by omega) (by omega) (by omega)
set_option maxHeartbeats 4000000 in
theorem growsBy_3 {xs : List Int32} {e : Nat} {ac : Int} {M0 M : nM} {p : Int} (hS : Sf 3 ac M0 M) (hp : ActAt p) (hpl : p < 55 + 3 * ac) : nW xs (e + 2) 39 0 [some (2, 50), some (2, p), some (2, 4), some (2, 52), none, none, none, none, none, none] [] M (nPI fun z M1 => Sf 3 ac M0 M1 ∧ (0 ≤ z ∧ z ≤ 1)) := by
  have hd : (3 : Int) = 2 ∨ (3 : Int) = 3 := by decide
  have hac := hS.2.2.2.2
  refine n_aload_n c_39_0 rfl (n_getV (bi := 3) c_39_1 law50.c0.1.n rfl rfl rfl (t_law hS law50).2.2.2 ?_)
  intro z1 ez1 f2
  refine n_istore (L2 := [some (2, 50), some (2, p), some (2, 4), some (2, 52), some (0, z1), none, none, none, none, none]) c_39_4 rfl rfl (n_aload_n c_39_6 rfl (n_aload_n c_39_7 rfl (n_getV (bi := 0) c_39_8 hp.c0.1.n rfl rfl rfl (t_actl hS hp hpl).1 ?_)))
  intro z3 ez3 f4
  refine n_iconst c_39_11 (n_v2I c_39_12 rfl law50.c0.1.n rfl rfl rfl rfl (tried_3 (q := 50) (a := z3) (n := 3) hS law50 (by omega) (by omega)) ?_)
  intro z5 M6 hP7
  obtain ⟨eM, f7⟩ := hP7
  subst eM
  refine n_istore (L2 := [some (2, 50), some (2, p), some (2, 4), some (2, 52), some (0, z1), some (0, z5), none, none, none, none]) c_39_15 rfl rfl (n_aload_n c_39_17 rfl (n_aload_n c_39_18 rfl (n_getV (bi := 0) c_39_19 hp.c0.1.n rfl rfl rfl (t_actl hS hp hpl).1 ?_)))
  intro z8 ez8 f9
  refine n_iconst c_39_22 (n_v2I c_39_23 rfl law50.c0.1.n rfl rfl rfl rfl (tried_3 (q := 50) (a := z8) (n := 2) hS law50 (by omega) (by omega)) ?_)
  intro z10 M11 hP12
  obtain ⟨eM, f12⟩ := hP12
  subst eM
  refine n_istore (L2 := [some (2, 50), some (2, p), some (2, 4), some (2, 52), some (0, z1), some (0, z5), some (0, z10), none, none, none]) c_39_26 rfl rfl (n_iconst c_39_28 (n_istore (L2 := [some (2, 50), some (2, p), some (2, 4), some (2, 52), some (0, z1), some (0, z5), some (0, z10), some (0, 0), none, none]) c_39_29 rfl rfl (n_fg (le_s (le_s (le_s (le_s (le_s (le_s (le_s (le_s (le_n (le_n le_0)))))))))) ?_)))
  exact (growsBy_3_c hS hp hpl 50528).1 _ _ _ _ M hS (by omega) (by omega) (by omega) (by omega) (by omega)

set_option maxHeartbeats 4000000 in
theorem narrowSet_3_c {xs : List Int32} {e : Nat} {ac : Int} {M0 M : nM} (hS : Sf 3 ac M0 M)  : ∀ nn : Nat, (∀ (x2 x3 x4 : Int), (-2147483648 ≤ x2 ∧ x2 ≤ 2147483647) → (1 ≤ x3 ∧ x3 ≤ 27) → (0 ≤ x4 ∧ x4 ≤ 27) → (27 - x4) * 2 + 2 < (nn : Int) → nW xs (e + 1) 40 14 [some (2, 50), some (2, 4), some (0, x2), some (0, x3), some (0, x4)] [] M (nPI fun z M1 => M = M1 ∧ (-2147483648 ≤ z ∧ z ≤ 2147483647))) ∧ (∀ (x2 x3 x4 : Int), (-2147483648 ≤ x2 ∧ x2 ≤ 2147483647) → (1 ≤ x3 ∧ x3 ≤ 27) → (0 ≤ x4 ∧ x4 ≤ 26) → (27 - x4) * 2 + 1 < (nn : Int) → nW xs (e + 1) 40 47 [some (2, 50), some (2, 4), some (0, x2), some (0, x3), some (0, x4)] [] M (nPI fun z M1 => M = M1 ∧ (-2147483648 ≤ z ∧ z ≤ 2147483647))) := by
  have hd : (3 : Int) = 2 ∨ (3 : Int) = 3 := by decide
  have hac := hS.2.2.2.2
  intro nn
  induction nn with
  | zero => refine ⟨?_, ?_⟩ <;> (intros; omega)
  | succ nn ih =>
    refine ⟨?_, ?_⟩
    · intro x2 x3 x4 k2 k3 k4 hnn
      refine n_iload c_40_14 rfl (n_iload_n c_40_16 rfl ?_)
      refine n_if2_ge c_40_17 (by omega) (by omega) ?_ ?_
      · intro h1
        refine n_iload_n c_40_53 rfl ?_
        exact n_rI c_40_54 rfl ⟨rfl, by omega⟩
      · intro h2
        refine n_aload_n c_40_20 rfl (n_getV (bi := 2) c_40_21 law50.c0.1.n rfl rfl rfl (t_law hS law50).2.2.1 ?_)
        intro z3 ez3 f4
        refine n_aload_n c_40_24 rfl (n_iload c_40_25 rfl (n_aload_n c_40_27 rfl (n_getV (bi := 0) c_40_28 law50.c0.1.n rfl rfl rfl (t_law hS law50).1 ?_)))
        intro z5 ez5 f6
        refine n_v2I c_40_31 rfl sc_4.n rfl rfl rfl rfl (widenW_3 (n := x4) (p := z5) hS (by omega) (by omega)) ?_
        intro z7 M8 hP9
        obtain ⟨eM, f9⟩ := hP9
        subst eM
        refine n_i_ishr c_40_34 rfl ?_
        have f10 := n_shr_r z3 z7
        generalize (n_shr z3 z7) = z11 at f10 ⊢
        refine n_iconst c_40_35 (n_i_iand c_40_36 rfl ?_)
        have f12 := n_and_y (x := z11) (y := 1) (by omega)
        generalize (n_and z11 1) = z13 at f12 ⊢
        refine n_if0_eq c_40_37 (by omega) ?_ ?_
        · intro h14
          refine n_fg (le_s (le_s (le_s (le_s (le_s le_0))))) ?_
          exact ih.2 _ _ _ (by omega) (by omega) (by omega) (by omega)
        · intro h15
          refine n_iload_n c_40_40 rfl (n_iconst c_40_41 (n_iload c_40_42 rfl (n_i_ishl c_40_44 rfl ?_)))
          have f16 := n_shl_1 (y := x4) (a := 0) (b := 26) (by decide) (by omega)
          generalize (n_shl 1 x4) = z17 at f16 ⊢
          refine n_i_ior c_40_45 rfl ?_
          have f18 := n_or_r x2 z17
          generalize (n_or x2 z17) = z19 at f18 ⊢
          refine n_istore_n (L2 := [some (2, 50), some (2, 4), some (0, z19), some (0, x3), some (0, x4)]) c_40_46 rfl rfl (n_fg (le_s (le_s (le_s (le_s (le_s le_0))))) ?_)
          exact ih.2 _ _ _ (by omega) (by omega) (by omega) (by omega)
    · intro x2 x3 x4 k2 k3 k4 hnn
      refine n_iinc (L2 := [some (2, 50), some (2, 4), some (0, x2), some (0, x3), some (0, (x4 + 1))]) c_40_47 rfl rfl rfl (n_goto c_40_50 (n_fg (le_s (le_s (le_s (le_s (le_s le_0))))) ?_))
      exact ih.1 _ _ _ (by omega) (by omega) (by omega) (by omega)
set_option maxHeartbeats 4000000 in
theorem narrowSet_3 {xs : List Int32} {e : Nat} {ac : Int} {M0 M : nM} (hS : Sf 3 ac M0 M)  : nW xs (e + 1) 40 0 [some (2, 50), some (2, 4), none, none, none] [] M (nPI fun z M1 => M = M1 ∧ (-2147483648 ≤ z ∧ z ≤ 2147483647)) := by
  have hd : (3 : Int) = 2 ∨ (3 : Int) = 3 := by decide
  have hac := hS.2.2.2.2
  refine n_iconst c_40_0 (n_istore_n (L2 := [some (2, 50), some (2, 4), some (0, 0), none, none]) c_40_1 rfl rfl (n_aload_n c_40_2 rfl (n_aload_n c_40_3 rfl (n_getV (bi := 0) c_40_4 law50.c0.1.n rfl rfl rfl (t_law hS law50).1 ?_))))
  intro z1 ez1 f2
  refine n_v1I c_40_7 rfl sc_4.n rfl rfl rfl rfl (powerU_3 (n := z1) hS (by omega)) ?_
  intro z3 M4 hP5
  obtain ⟨eM, f5⟩ := hP5
  subst eM
  refine n_istore_n (L2 := [some (2, 50), some (2, 4), some (0, 0), some (0, z3), none]) c_40_10 rfl rfl (n_iconst c_40_11 (n_istore (L2 := [some (2, 50), some (2, 4), some (0, 0), some (0, z3), some (0, 0)]) c_40_12 rfl rfl (n_fg (le_s (le_s (le_s (le_s (le_s le_0))))) ?_)))
  exact (narrowSet_3_c hS  126).1 _ _ _ (by omega) (by omega) (by omega) (by omega)

set_option maxHeartbeats 4000000 in
theorem nthBit46_3_c {xs : List Int32} {e : Nat} {ac : Int} {M0 M : nM} {w n : Int} (hS : Sf 3 ac M0 M) (hw : -9223372036854775808 ≤ w ∧ w ≤ 9223372036854775807) (hn : -2147483648 ≤ n ∧ n ≤ 2147483647) : ∀ nn : Nat, (∀ (x4 x5 : Int), (-2147483648 ≤ x4 ∧ x4 ≤ 2147483647) → (0 ≤ x5 ∧ x5 ≤ 64) → (64 - x5) * 2 + 2 < (nn : Int) → nW xs e 34 6 [none, some (1, w), none, none, some (0, x4), some (0, x5)] [] M (nPI fun z M1 => M = M1 ∧ (-2147483648 ≤ z ∧ z ≤ 2147483647))) ∧ (∀ (x4 x5 : Int), (-2147483648 ≤ x4 ∧ x4 ≤ 2147483647) → (0 ≤ x5 ∧ x5 ≤ 63) → (64 - x5) * 2 + 1 < (nn : Int) → nW xs e 34 35 [none, some (1, w), none, none, some (0, x4), some (0, x5)] [] M (nPI fun z M1 => M = M1 ∧ (-2147483648 ≤ z ∧ z ≤ 2147483647))) := by
  have hd : (3 : Int) = 2 ∨ (3 : Int) = 3 := by decide
  have hac := hS.2.2.2.2
  intro nn
  induction nn with
  | zero => refine ⟨?_, ?_⟩ <;> (intros; omega)
  | succ nn ih =>
    refine ⟨?_, ?_⟩
    · intro x4 x5 k4 k5 hnn
      refine n_iload c_34_6 rfl (n_bipush c_34_8 rfl ?_)
      refine n_if2_ge c_34_10 (by omega) (by omega) ?_ ?_
      · intro h1
        refine n_iconst c_34_41 ?_
        exact n_rI c_34_42 rfl ⟨rfl, by omega⟩
      · intro h2
        refine n_lload_n c_34_13 rfl (n_iload c_34_14 rfl (n_i_lushr c_34_16 rfl ?_))
        have f3 := n_lushr_r w x5
        generalize (n_lushr w x5) = z4 at f3 ⊢
        refine n_lconst (n := 1) c_34_17 rfl (n_i_land c_34_18 rfl ?_)
        have f5 := n_land_r z4 1
        generalize (n_land z4 1) = z6 at f5 ⊢
        refine n_lconst (n := 0) c_34_19 rfl (n_lcmp c_34_20 ?_)
        refine n_lif_eq c_34_21 (by omega) (by omega) ?_ ?_
        · intro h7
          refine n_fg (le_n (le_s (le_n (le_n (le_s (le_s le_0)))))) ?_
          exact ih.2 _ _ (by omega) (by omega) (by omega)
        · intro h8
          refine n_iload c_34_24 rfl ?_
          refine n_if0_ne c_34_26 (by omega) ?_ ?_
          · intro h9
            refine n_iincW (L2 := [none, some (1, w), none, none, some (0, n_wr (x4 + (-1))), some (0, x5)]) c_34_32 rfl rfl ?_
            have f10 := n_wr_r (x4 + (-1))
            generalize n_wr (x4 + (-1)) = z11 at f10 ⊢
            refine n_fg (le_n (le_s (le_n (le_n (le_s (le_s le_0)))))) ?_
            exact ih.2 _ _ (by omega) (by omega) (by omega)
          · intro h12
            refine n_iload c_34_29 rfl ?_
            exact n_rI c_34_31 rfl ⟨rfl, by omega⟩
    · intro x4 x5 k4 k5 hnn
      refine n_iinc (L2 := [none, some (1, w), none, none, some (0, x4), some (0, (x5 + 1))]) c_34_35 rfl rfl rfl (n_goto c_34_38 (n_fg (le_n (le_s (le_n (le_n (le_s (le_s le_0)))))) ?_))
      exact ih.1 _ _ (by omega) (by omega) (by omega)
set_option maxHeartbeats 4000000 in
theorem nthBit46_3 {xs : List Int32} {e : Nat} {ac : Int} {M0 M : nM} {w n : Int} (hS : Sf 3 ac M0 M) (hw : -9223372036854775808 ≤ w ∧ w ≤ 9223372036854775807) (hn : -2147483648 ≤ n ∧ n ≤ 2147483647) : nW xs e 34 0 [some (2, 46), some (1, w), none, some (0, n), none, none] [] M (nPI fun z M1 => M = M1 ∧ (-2147483648 ≤ z ∧ z ≤ 2147483647)) := by
  have hd : (3 : Int) = 2 ∨ (3 : Int) = 3 := by decide
  have hac := hS.2.2.2.2
  refine n_iload_n c_34_0 rfl (n_istore (L2 := [some (2, 46), some (1, w), none, some (0, n), some (0, n), none]) c_34_1 rfl rfl (n_iconst c_34_3 (n_istore (L2 := [some (2, 46), some (1, w), none, some (0, n), some (0, n), some (0, 0)]) c_34_4 rfl rfl (n_fg (le_n (le_s (le_n (le_n (le_s (le_s le_0)))))) ?_))))
  exact (nthBit46_3_c hS hw hn 274).1 _ _ (by omega) (by omega) (by omega)

set_option maxHeartbeats 4000000 in
theorem nth46_3_c {xs : List Int32} {e : Nat} {ac : Int} {M0 M : nM} {i : Int} (hS : Sf 3 ac M0 M) (hi : -2147483648 ≤ i ∧ i ≤ 2147483647) : ∀ nn : Nat, (311 < (nn : Int) → nW xs (e + 1) 33 12 [none, none, none, none, none] [] M (nPI fun z M1 => M = M1 ∧ (-2147483648 ≤ z ∧ z ≤ 2147483647))) ∧ (∀ (x2 x3 : Int), (-127 ≤ x2 ∧ x2 ≤ 2147483646) → (0 ≤ x3 ∧ x3 ≤ 308) → (308 - x3) * 1 + 1 < (nn : Int) → nW xs (e + 1) 33 18 [some (2, 46), none, some (0, x2), some (0, x3), none] [] M (nPI fun z M1 => M = M1 ∧ (-2147483648 ≤ z ∧ z ≤ 2147483647))) := by
  have hd : (3 : Int) = 2 ∨ (3 : Int) = 3 := by decide
  have hac := hS.2.2.2.2
  intro nn
  induction nn with
  | zero => refine ⟨?_, ?_⟩ <;> (intros; omega)
  | succ nn ih =>
    refine ⟨?_, ?_⟩
    · intro hnn
      refine n_iconst c_33_12 ?_
      exact n_rI c_33_13 rfl ⟨rfl, by omega⟩
    · intro x2 x3 k2 k3 hnn
      refine n_iload_n c_33_18 rfl (n_aload_n c_33_19 rfl (n_getR c_33_20 sc_46.n rfl rfl rfl r_46_0 (n_alen c_33_23 sc_47.n rfl ?_)))
      refine n_if2_ge c_33_24 (by omega) (by omega) ?_ ?_
      · intro h1
        refine n_iconst c_33_72 ?_
        exact n_rI c_33_73 rfl ⟨rfl, by omega⟩
      · intro h2
        refine n_aload_n c_33_27 rfl (n_getR c_33_28 sc_46.n rfl rfl rfl r_46_0 (n_iload_n c_33_31 rfl (n_laloadV c_33_32 sc_47.n rfl rfl rfl (by omega) (t_47 hS (by omega)) ?_)))
        intro z3 ez3 f4
        refine n_s1I c_33_33 rfl rfl rfl rfl (lbits_3 (x := z3) hS (by omega)) ?_
        intro z5 M6 hP7
        obtain ⟨eM, f7⟩ := hP7
        subst eM
        refine n_istore (L2 := [some (2, 46), none, some (0, x2), some (0, x3), some (0, z5)]) c_33_36 rfl rfl (n_iload_n c_33_38 rfl (n_iload c_33_39 rfl ?_))
        refine n_if2_ge c_33_41 (by omega) (by omega) ?_ ?_
        · intro h8
          refine n_iload_n c_33_61 rfl (n_iload c_33_62 rfl (n_isub c_33_64 rfl (n_istore_n (L2 := [some (2, 46), none, some (0, (x2 - z5)), some (0, x3), some (0, z5)]) c_33_65 rfl rfl (n_iinc (L2 := [some (2, 46), none, some (0, (x2 - z5)), some (0, (x3 + 1)), some (0, z5)]) c_33_66 rfl rfl rfl (n_goto c_33_69 (n_fg (le_s (le_n (le_s (le_s (le_n le_0))))) ?_))))))
          exact ih.2 _ _ (by omega) (by omega) (by omega)
        · intro h9
          refine n_iload_n c_33_44 rfl (n_bipush c_33_45 rfl (n_imul c_33_47 rfl (n_aload_n c_33_48 rfl (n_aload_n c_33_49 rfl (n_getR c_33_50 sc_46.n rfl rfl rfl r_46_0 (n_iload_n c_33_53 rfl (n_laloadV c_33_54 sc_47.n rfl rfl rfl (by omega) (t_47 hS (by omega)) ?_)))))))
          intro z10 ez10 f11
          refine n_iload_n c_33_55 rfl (n_v2I c_33_56 rfl sc_46.n rfl rfl rfl rfl (nthBit46_3 (w := z10) (n := x2) hS (by omega) (by omega)) ?_)
          intro z12 M13 hP14
          obtain ⟨eM, f14⟩ := hP14
          subst eM
          refine n_iadd c_33_59 rfl (n_wrap ?_)
          have f15 := n_wr_r ((x3 * 64) + z12)
          generalize n_wr ((x3 * 64) + z12) = z16 at f15 ⊢
          exact n_rI c_33_60 rfl ⟨rfl, by omega⟩
set_option maxHeartbeats 4000000 in
theorem nth46_3 {xs : List Int32} {e : Nat} {ac : Int} {M0 M : nM} {i : Int} (hS : Sf 3 ac M0 M) (hi : -2147483648 ≤ i ∧ i ≤ 2147483647) : nW xs (e + 1) 33 0 [some (2, 46), some (0, i), none, none, none] [] M (nPI fun z M1 => M = M1 ∧ (-2147483648 ≤ z ∧ z ≤ 2147483647)) := by
  have hd : (3 : Int) = 2 ∨ (3 : Int) = 3 := by decide
  have hac := hS.2.2.2.2
  refine n_iload_n c_33_0 rfl ?_
  refine n_if0_lt c_33_1 (by omega) ?_ ?_
  · intro h1
    refine n_fg (le_n (le_n (le_n (le_n (le_n le_0))))) ?_
    exact (nth46_3_c hS hi 632).1   (by omega)
  · intro h2
    refine n_iload_n c_33_4 rfl (n_aload_n c_33_5 rfl (n_getV (bi := 1) c_33_6 sc_46.n rfl rfl rfl (t_46_1 hS) ?_))
    intro z3 ez3 f4
    refine n_if2_lt c_33_9 (by omega) (by omega) ?_ ?_
    · intro h5
      refine n_iload_n c_33_14 rfl (n_istore_n (L2 := [some (2, 46), some (0, i), some (0, i), none, none]) c_33_15 rfl rfl (n_iconst c_33_16 (n_istore_n (L2 := [some (2, 46), some (0, i), some (0, i), some (0, 0), none]) c_33_17 rfl rfl (n_fg (le_s (le_n (le_s (le_s (le_n le_0))))) ?_))))
      exact (nth46_3_c hS hi 632).2 _ _ (by omega) (by omega) (by omega)
    · intro h6
      refine n_fg (le_n (le_n (le_n (le_n (le_n le_0))))) ?_
      exact (nth46_3_c hS hi 632).1   (by omega)

set_option maxHeartbeats 4000000 in
theorem clear48_3 {xs : List Int32} {e : Nat} {ac : Int} {M0 M : nM} (hS : Sf 3 ac M0 M)  : nW xs (e + 1) 31 0 [some (2, 48)] [] M (nPV fun M1 => Sf 3 ac M0 M1) := by
  have hd : (3 : Int) = 2 ∨ (3 : Int) = 3 := by decide
  have hac := hS.2.2.2.2
  refine n_aload_n c_31_0 rfl (n_getR c_31_1 sc_48.n rfl rfl rfl r_48_0 (n_lconst (n := 0) c_31_4 rfl (n_s2V c_31_5 rfl rfl rfl rfl (fill49_3 (v := 0) hS (by omega)) ?_)))
  intro  M1 hP2
  have hS1 := hP2
  refine n_aload_n c_31_8 rfl (n_iconst c_31_9 (n_putV (bi := 1) hS1 c_31_10 sc_48.n rfl rfl rfl rfl (w_48_1 (by omega)) ?_))
  intro M3 eM3 hS3
  have g3_0 : M3 48 1 = 0 := by rw [eM3]; exact nu_s _ _ _ _
  exact n_rV c_31_13 rfl hS3

set_option maxHeartbeats 4000000 in
theorem add48_3_c {xs : List Int32} {e : Nat} {ac : Int} {M0 M : nM} {n : Int} (hS : Sf 3 ac M0 M) (hn : -2147483648 ≤ n ∧ n ≤ 2147483647) : ∀ nn : Nat, (∀ (M : nM), Sf 3 ac M0 M → 1 < (nn : Int) → nW xs e 32 43 [none, none, none] [] M (nPV fun M1 => Sf 3 ac M0 M1)) := by
  have hd : (3 : Int) = 2 ∨ (3 : Int) = 3 := by decide
  have hac := hS.2.2.2.2
  intro nn
  induction nn with
  | zero => intros; omega
  | succ nn ih =>
    intro M hS hnn
    exact n_rV c_32_43 rfl hS
set_option maxHeartbeats 4000000 in
theorem add48_3 {xs : List Int32} {e : Nat} {ac : Int} {M0 M : nM} {n : Int} (hS : Sf 3 ac M0 M) (hn : -2147483648 ≤ n ∧ n ≤ 2147483647) : nW xs e 32 0 [some (2, 48), some (0, n), none] [] M (nPV fun M1 => Sf 3 ac M0 M1) := by
  have hd : (3 : Int) = 2 ∨ (3 : Int) = 3 := by decide
  have hac := hS.2.2.2.2
  refine n_iload_n c_32_0 rfl (n_bipush c_32_1 rfl (n_i_ishr c_32_3 rfl ?_))
  have f1 := n_shr_r n 6
  generalize (n_shr n 6) = z2 at f1 ⊢
  refine n_istore_n (L2 := [some (2, 48), some (0, n), some (0, z2)]) c_32_4 rfl rfl (n_iload_n c_32_5 rfl ?_)
  refine n_if0_lt c_32_6 (by omega) ?_ ?_
  · intro h3
    refine n_fg (le_n (le_n (le_n le_0))) ?_
    exact (add48_3_c hS hn 12)  M hS  (by omega)
  · intro h4
    refine n_iload_n c_32_9 rfl (n_aload_n c_32_10 rfl (n_getR c_32_11 sc_48.n rfl rfl rfl r_48_0 (n_alen c_32_14 sc_49.n rfl ?_)))
    refine n_if2_ge c_32_15 (by omega) (by omega) ?_ ?_
    · intro h5
      refine n_fg (le_n (le_n (le_n le_0))) ?_
      exact (add48_3_c hS hn 12)  M hS  (by omega)
    · intro h6
      refine n_aload_n c_32_18 rfl (n_getR c_32_19 sc_48.n rfl rfl rfl r_48_0 (n_iload_n c_32_22 rfl (n_dup202 c_32_23 (n_laloadV c_32_24 sc_49.n rfl rfl rfl (by omega) (t_49 hS (by omega)) ?_))))
      intro z7 ez7 f8
      refine n_lconst (n := 1) c_32_25 rfl (n_iload_n c_32_26 rfl (n_bipush c_32_27 rfl (n_i_iand c_32_29 rfl ?_)))
      have f9 := n_and_y (x := n) (y := 63) (by omega)
      generalize (n_and n 63) = z10 at f9 ⊢
      refine n_i_lshl c_32_30 rfl ?_
      have f11 := n_lshl_r 1 z10
      generalize (n_lshl 1 z10) = z12 at f11 ⊢
      refine n_i_lor c_32_31 rfl ?_
      have f13 := n_lor_r z7 z12
      generalize (n_lor z7 z12) = z14 at f13 ⊢
      refine n_lastoreV hS c_32_32 sc_49.n rfl (by omega) (w_49 (by omega) (by omega)) ?_
      intro M15 eM15 hS15
      refine n_aload_n c_32_33 rfl (n_dup2 c_32_34 (n_getV (bi := 1) c_32_35 sc_48.n rfl rfl rfl (t_48_1 hS15) ?_))
      intro z16 ez16 f17
      refine n_iconst c_32_38 (n_iadd c_32_39 rfl (n_wrap ?_))
      have f18 := n_wr_r (z16 + 1)
      generalize n_wr (z16 + 1) = z19 at f18 ⊢
      refine n_putV (bi := 1) hS15 c_32_40 sc_48.n rfl rfl rfl rfl (w_48_1 (by omega)) ?_
      intro M20 eM20 hS20
      have g20_0 : M20 48 1 = z19 := by rw [eM20]; exact nu_s _ _ _ _
      refine n_fg (le_n (le_n (le_n le_0))) ?_
      exact (add48_3_c hS hn 12)  M20 hS20  (by omega)

set_option maxHeartbeats 4000000 in
theorem nthBit48_3_c {xs : List Int32} {e : Nat} {ac : Int} {M0 M : nM} {w n : Int} (hS : Sf 3 ac M0 M) (hw : -9223372036854775808 ≤ w ∧ w ≤ 9223372036854775807) (hn : -2147483648 ≤ n ∧ n ≤ 2147483647) : ∀ nn : Nat, (∀ (x4 x5 : Int), (-2147483648 ≤ x4 ∧ x4 ≤ 2147483647) → (0 ≤ x5 ∧ x5 ≤ 64) → (64 - x5) * 2 + 2 < (nn : Int) → nW xs e 34 6 [none, some (1, w), none, none, some (0, x4), some (0, x5)] [] M (nPI fun z M1 => M = M1 ∧ (-2147483648 ≤ z ∧ z ≤ 2147483647))) ∧ (∀ (x4 x5 : Int), (-2147483648 ≤ x4 ∧ x4 ≤ 2147483647) → (0 ≤ x5 ∧ x5 ≤ 63) → (64 - x5) * 2 + 1 < (nn : Int) → nW xs e 34 35 [none, some (1, w), none, none, some (0, x4), some (0, x5)] [] M (nPI fun z M1 => M = M1 ∧ (-2147483648 ≤ z ∧ z ≤ 2147483647))) := by
  have hd : (3 : Int) = 2 ∨ (3 : Int) = 3 := by decide
  have hac := hS.2.2.2.2
  intro nn
  induction nn with
  | zero => refine ⟨?_, ?_⟩ <;> (intros; omega)
  | succ nn ih =>
    refine ⟨?_, ?_⟩
    · intro x4 x5 k4 k5 hnn
      refine n_iload c_34_6 rfl (n_bipush c_34_8 rfl ?_)
      refine n_if2_ge c_34_10 (by omega) (by omega) ?_ ?_
      · intro h1
        refine n_iconst c_34_41 ?_
        exact n_rI c_34_42 rfl ⟨rfl, by omega⟩
      · intro h2
        refine n_lload_n c_34_13 rfl (n_iload c_34_14 rfl (n_i_lushr c_34_16 rfl ?_))
        have f3 := n_lushr_r w x5
        generalize (n_lushr w x5) = z4 at f3 ⊢
        refine n_lconst (n := 1) c_34_17 rfl (n_i_land c_34_18 rfl ?_)
        have f5 := n_land_r z4 1
        generalize (n_land z4 1) = z6 at f5 ⊢
        refine n_lconst (n := 0) c_34_19 rfl (n_lcmp c_34_20 ?_)
        refine n_lif_eq c_34_21 (by omega) (by omega) ?_ ?_
        · intro h7
          refine n_fg (le_n (le_s (le_n (le_n (le_s (le_s le_0)))))) ?_
          exact ih.2 _ _ (by omega) (by omega) (by omega)
        · intro h8
          refine n_iload c_34_24 rfl ?_
          refine n_if0_ne c_34_26 (by omega) ?_ ?_
          · intro h9
            refine n_iincW (L2 := [none, some (1, w), none, none, some (0, n_wr (x4 + (-1))), some (0, x5)]) c_34_32 rfl rfl ?_
            have f10 := n_wr_r (x4 + (-1))
            generalize n_wr (x4 + (-1)) = z11 at f10 ⊢
            refine n_fg (le_n (le_s (le_n (le_n (le_s (le_s le_0)))))) ?_
            exact ih.2 _ _ (by omega) (by omega) (by omega)
          · intro h12
            refine n_iload c_34_29 rfl ?_
            exact n_rI c_34_31 rfl ⟨rfl, by omega⟩
    · intro x4 x5 k4 k5 hnn
      refine n_iinc (L2 := [none, some (1, w), none, none, some (0, x4), some (0, (x5 + 1))]) c_34_35 rfl rfl rfl (n_goto c_34_38 (n_fg (le_n (le_s (le_n (le_n (le_s (le_s le_0)))))) ?_))
      exact ih.1 _ _ (by omega) (by omega) (by omega)
set_option maxHeartbeats 4000000 in
theorem nthBit48_3 {xs : List Int32} {e : Nat} {ac : Int} {M0 M : nM} {w n : Int} (hS : Sf 3 ac M0 M) (hw : -9223372036854775808 ≤ w ∧ w ≤ 9223372036854775807) (hn : -2147483648 ≤ n ∧ n ≤ 2147483647) : nW xs e 34 0 [some (2, 48), some (1, w), none, some (0, n), none, none] [] M (nPI fun z M1 => M = M1 ∧ (-2147483648 ≤ z ∧ z ≤ 2147483647)) := by
  have hd : (3 : Int) = 2 ∨ (3 : Int) = 3 := by decide
  have hac := hS.2.2.2.2
  refine n_iload_n c_34_0 rfl (n_istore (L2 := [some (2, 48), some (1, w), none, some (0, n), some (0, n), none]) c_34_1 rfl rfl (n_iconst c_34_3 (n_istore (L2 := [some (2, 48), some (1, w), none, some (0, n), some (0, n), some (0, 0)]) c_34_4 rfl rfl (n_fg (le_n (le_s (le_n (le_n (le_s (le_s le_0)))))) ?_))))
  exact (nthBit48_3_c hS hw hn 274).1 _ _ (by omega) (by omega) (by omega)

set_option maxHeartbeats 4000000 in
theorem nth48_3_c {xs : List Int32} {e : Nat} {ac : Int} {M0 M : nM} {i : Int} (hS : Sf 3 ac M0 M) (hi : -2147483648 ≤ i ∧ i ≤ 2147483647) : ∀ nn : Nat, (106 < (nn : Int) → nW xs (e + 1) 33 12 [none, none, none, none, none] [] M (nPI fun z M1 => M = M1 ∧ (-2147483648 ≤ z ∧ z ≤ 2147483647))) ∧ (∀ (x2 x3 : Int), (-127 ≤ x2 ∧ x2 ≤ 2147483646) → (0 ≤ x3 ∧ x3 ≤ 103) → (103 - x3) * 1 + 1 < (nn : Int) → nW xs (e + 1) 33 18 [some (2, 48), none, some (0, x2), some (0, x3), none] [] M (nPI fun z M1 => M = M1 ∧ (-2147483648 ≤ z ∧ z ≤ 2147483647))) := by
  have hd : (3 : Int) = 2 ∨ (3 : Int) = 3 := by decide
  have hac := hS.2.2.2.2
  intro nn
  induction nn with
  | zero => refine ⟨?_, ?_⟩ <;> (intros; omega)
  | succ nn ih =>
    refine ⟨?_, ?_⟩
    · intro hnn
      refine n_iconst c_33_12 ?_
      exact n_rI c_33_13 rfl ⟨rfl, by omega⟩
    · intro x2 x3 k2 k3 hnn
      refine n_iload_n c_33_18 rfl (n_aload_n c_33_19 rfl (n_getR c_33_20 sc_48.n rfl rfl rfl r_48_0 (n_alen c_33_23 sc_49.n rfl ?_)))
      refine n_if2_ge c_33_24 (by omega) (by omega) ?_ ?_
      · intro h1
        refine n_iconst c_33_72 ?_
        exact n_rI c_33_73 rfl ⟨rfl, by omega⟩
      · intro h2
        refine n_aload_n c_33_27 rfl (n_getR c_33_28 sc_48.n rfl rfl rfl r_48_0 (n_iload_n c_33_31 rfl (n_laloadV c_33_32 sc_49.n rfl rfl rfl (by omega) (t_49 hS (by omega)) ?_)))
        intro z3 ez3 f4
        refine n_s1I c_33_33 rfl rfl rfl rfl (lbits_3 (x := z3) hS (by omega)) ?_
        intro z5 M6 hP7
        obtain ⟨eM, f7⟩ := hP7
        subst eM
        refine n_istore (L2 := [some (2, 48), none, some (0, x2), some (0, x3), some (0, z5)]) c_33_36 rfl rfl (n_iload_n c_33_38 rfl (n_iload c_33_39 rfl ?_))
        refine n_if2_ge c_33_41 (by omega) (by omega) ?_ ?_
        · intro h8
          refine n_iload_n c_33_61 rfl (n_iload c_33_62 rfl (n_isub c_33_64 rfl (n_istore_n (L2 := [some (2, 48), none, some (0, (x2 - z5)), some (0, x3), some (0, z5)]) c_33_65 rfl rfl (n_iinc (L2 := [some (2, 48), none, some (0, (x2 - z5)), some (0, (x3 + 1)), some (0, z5)]) c_33_66 rfl rfl rfl (n_goto c_33_69 (n_fg (le_s (le_n (le_s (le_s (le_n le_0))))) ?_))))))
          exact ih.2 _ _ (by omega) (by omega) (by omega)
        · intro h9
          refine n_iload_n c_33_44 rfl (n_bipush c_33_45 rfl (n_imul c_33_47 rfl (n_aload_n c_33_48 rfl (n_aload_n c_33_49 rfl (n_getR c_33_50 sc_48.n rfl rfl rfl r_48_0 (n_iload_n c_33_53 rfl (n_laloadV c_33_54 sc_49.n rfl rfl rfl (by omega) (t_49 hS (by omega)) ?_)))))))
          intro z10 ez10 f11
          refine n_iload_n c_33_55 rfl (n_v2I c_33_56 rfl sc_48.n rfl rfl rfl rfl (nthBit48_3 (w := z10) (n := x2) hS (by omega) (by omega)) ?_)
          intro z12 M13 hP14
          obtain ⟨eM, f14⟩ := hP14
          subst eM
          refine n_iadd c_33_59 rfl (n_wrap ?_)
          have f15 := n_wr_r ((x3 * 64) + z12)
          generalize n_wr ((x3 * 64) + z12) = z16 at f15 ⊢
          exact n_rI c_33_60 rfl ⟨rfl, by omega⟩
set_option maxHeartbeats 4000000 in
theorem nth48_3 {xs : List Int32} {e : Nat} {ac : Int} {M0 M : nM} {i : Int} (hS : Sf 3 ac M0 M) (hi : -2147483648 ≤ i ∧ i ≤ 2147483647) : nW xs (e + 1) 33 0 [some (2, 48), some (0, i), none, none, none] [] M (nPI fun z M1 => M = M1 ∧ (-2147483648 ≤ z ∧ z ≤ 2147483647)) := by
  have hd : (3 : Int) = 2 ∨ (3 : Int) = 3 := by decide
  have hac := hS.2.2.2.2
  refine n_iload_n c_33_0 rfl ?_
  refine n_if0_lt c_33_1 (by omega) ?_ ?_
  · intro h1
    refine n_fg (le_n (le_n (le_n (le_n (le_n le_0))))) ?_
    exact (nth48_3_c hS hi 222).1   (by omega)
  · intro h2
    refine n_iload_n c_33_4 rfl (n_aload_n c_33_5 rfl (n_getV (bi := 1) c_33_6 sc_48.n rfl rfl rfl (t_48_1 hS) ?_))
    intro z3 ez3 f4
    refine n_if2_lt c_33_9 (by omega) (by omega) ?_ ?_
    · intro h5
      refine n_iload_n c_33_14 rfl (n_istore_n (L2 := [some (2, 48), some (0, i), some (0, i), none, none]) c_33_15 rfl rfl (n_iconst c_33_16 (n_istore_n (L2 := [some (2, 48), some (0, i), some (0, i), some (0, 0), none]) c_33_17 rfl rfl (n_fg (le_s (le_n (le_s (le_s (le_n le_0))))) ?_))))
      exact (nth48_3_c hS hi 222).2 _ _ (by omega) (by omega) (by omega)
    · intro h6
      refine n_fg (le_n (le_n (le_n (le_n (le_n le_0))))) ?_
      exact (nth48_3_c hS hi 222).1   (by omega)

set_option maxHeartbeats 4000000 in
theorem fmod1_3 {xs : List Int32} {e : Nat} {ac : Int} {M0 M : nM} (hS : Sf 3 ac M0 M)  : nW xs e 204 0 [some (0, (-2)), some (0, 3), none] [] M (nPI fun z M1 => M = M1 ∧ (1 ≤ z ∧ z ≤ 1)) := by
  have hd : (3 : Int) = 2 ∨ (3 : Int) = 3 := by decide
  have hac := hS.2.2.2.2
  refine n_iload_n c_204_0 rfl (n_iload_n c_204_1 rfl (n_iremT (z := (-2)) c_204_2 (by omega) (by omega) (by omega) (by decide) ?_))
  refine n_istore_n (L2 := [some (0, (-2)), some (0, 3), some (0, (-2))]) c_204_3 rfl rfl (n_iload_n c_204_4 rfl (n_iload_n c_204_5 rfl (n_i_ixor (z := (-3)) c_204_6 (by decide) ?_)))
  refine n_if0_ge c_204_7 (by omega) ?_ ?_
  · intro h1
    exfalso; omega
  · intro h2
    refine n_iload_n c_204_10 rfl ?_
    refine n_if0_eq c_204_11 (by omega) ?_ ?_
    · intro h3
      exfalso; omega
    · intro h4
      refine n_iload_n c_204_14 rfl (n_iload_n c_204_15 rfl (n_iadd c_204_16 rfl ?_))
      exact n_rI c_204_17 rfl ⟨rfl, by omega⟩

set_option maxHeartbeats 4000000 in
theorem fmod2_3 {xs : List Int32} {e : Nat} {ac : Int} {M0 M : nM} (hS : Sf 3 ac M0 M)  : nW xs e 204 0 [some (0, (-1)), some (0, 3), none] [] M (nPI fun z M1 => M = M1 ∧ (2 ≤ z ∧ z ≤ 2)) := by
  have hd : (3 : Int) = 2 ∨ (3 : Int) = 3 := by decide
  have hac := hS.2.2.2.2
  refine n_iload_n c_204_0 rfl (n_iload_n c_204_1 rfl (n_iremT (z := (-1)) c_204_2 (by omega) (by omega) (by omega) (by decide) ?_))
  refine n_istore_n (L2 := [some (0, (-1)), some (0, 3), some (0, (-1))]) c_204_3 rfl rfl (n_iload_n c_204_4 rfl (n_iload_n c_204_5 rfl (n_i_ixor (z := (-4)) c_204_6 (by decide) ?_)))
  refine n_if0_ge c_204_7 (by omega) ?_ ?_
  · intro h1
    exfalso; omega
  · intro h2
    refine n_iload_n c_204_10 rfl ?_
    refine n_if0_eq c_204_11 (by omega) ?_ ?_
    · intro h3
      exfalso; omega
    · intro h4
      refine n_iload_n c_204_14 rfl (n_iload_n c_204_15 rfl (n_iadd c_204_16 rfl ?_))
      exact n_rI c_204_17 rfl ⟨rfl, by omega⟩

set_option maxHeartbeats 4000000 in
theorem fmod3_3_c {xs : List Int32} {e : Nat} {ac : Int} {M0 M : nM} (hS : Sf 3 ac M0 M)  : ∀ nn : Nat, (∀ (x2 : Int), (0 ≤ x2 ∧ x2 ≤ 0) → 1 < (nn : Int) → nW xs e 204 18 [none, none, some (0, x2)] [] M (nPI fun z M1 => M = M1 ∧ (0 ≤ z ∧ z ≤ 0))) := by
  have hd : (3 : Int) = 2 ∨ (3 : Int) = 3 := by decide
  have hac := hS.2.2.2.2
  intro nn
  induction nn with
  | zero => intros; omega
  | succ nn ih =>
    intro x2 k2 hnn
    refine n_iload_n c_204_18 rfl ?_
    exact n_rI c_204_19 rfl ⟨rfl, by omega⟩
set_option maxHeartbeats 4000000 in
theorem fmod3_3 {xs : List Int32} {e : Nat} {ac : Int} {M0 M : nM} (hS : Sf 3 ac M0 M)  : nW xs e 204 0 [some (0, 0), some (0, 3), none] [] M (nPI fun z M1 => M = M1 ∧ (0 ≤ z ∧ z ≤ 0)) := by
  have hd : (3 : Int) = 2 ∨ (3 : Int) = 3 := by decide
  have hac := hS.2.2.2.2
  refine n_iload_n c_204_0 rfl (n_iload_n c_204_1 rfl (n_iremT (z := 0) c_204_2 (by omega) (by omega) (by omega) (by decide) ?_))
  refine n_istore_n (L2 := [some (0, 0), some (0, 3), some (0, 0)]) c_204_3 rfl rfl (n_iload_n c_204_4 rfl (n_iload_n c_204_5 rfl (n_i_ixor (z := 3) c_204_6 (by decide) ?_)))
  refine n_if0_ge c_204_7 (by omega) ?_ ?_
  · intro h1
    refine n_fg (le_n (le_n (le_s le_0))) ?_
    exact (fmod3_3_c hS  12) _ (by omega) (by omega)
  · intro h2
    exfalso; omega

set_option maxHeartbeats 4000000 in
theorem fmod4_3_c {xs : List Int32} {e : Nat} {ac : Int} {M0 M : nM} (hS : Sf 3 ac M0 M)  : ∀ nn : Nat, (∀ (x2 : Int), (1 ≤ x2 ∧ x2 ≤ 1) → 1 < (nn : Int) → nW xs e 204 18 [none, none, some (0, x2)] [] M (nPI fun z M1 => M = M1 ∧ (1 ≤ z ∧ z ≤ 1))) := by
  have hd : (3 : Int) = 2 ∨ (3 : Int) = 3 := by decide
  have hac := hS.2.2.2.2
  intro nn
  induction nn with
  | zero => intros; omega
  | succ nn ih =>
    intro x2 k2 hnn
    refine n_iload_n c_204_18 rfl ?_
    exact n_rI c_204_19 rfl ⟨rfl, by omega⟩
set_option maxHeartbeats 4000000 in
theorem fmod4_3 {xs : List Int32} {e : Nat} {ac : Int} {M0 M : nM} (hS : Sf 3 ac M0 M)  : nW xs e 204 0 [some (0, 1), some (0, 3), none] [] M (nPI fun z M1 => M = M1 ∧ (1 ≤ z ∧ z ≤ 1)) := by
  have hd : (3 : Int) = 2 ∨ (3 : Int) = 3 := by decide
  have hac := hS.2.2.2.2
  refine n_iload_n c_204_0 rfl (n_iload_n c_204_1 rfl (n_iremT (z := 1) c_204_2 (by omega) (by omega) (by omega) (by decide) ?_))
  refine n_istore_n (L2 := [some (0, 1), some (0, 3), some (0, 1)]) c_204_3 rfl rfl (n_iload_n c_204_4 rfl (n_iload_n c_204_5 rfl (n_i_ixor (z := 2) c_204_6 (by decide) ?_)))
  refine n_if0_ge c_204_7 (by omega) ?_ ?_
  · intro h1
    refine n_fg (le_n (le_n (le_s le_0))) ?_
    exact (fmod4_3_c hS  12) _ (by omega) (by omega)
  · intro h2
    exfalso; omega

set_option maxHeartbeats 4000000 in
theorem fmod5_3_c {xs : List Int32} {e : Nat} {ac : Int} {M0 M : nM} (hS : Sf 3 ac M0 M)  : ∀ nn : Nat, (∀ (x2 : Int), (2 ≤ x2 ∧ x2 ≤ 2) → 1 < (nn : Int) → nW xs e 204 18 [none, none, some (0, x2)] [] M (nPI fun z M1 => M = M1 ∧ (2 ≤ z ∧ z ≤ 2))) := by
  have hd : (3 : Int) = 2 ∨ (3 : Int) = 3 := by decide
  have hac := hS.2.2.2.2
  intro nn
  induction nn with
  | zero => intros; omega
  | succ nn ih =>
    intro x2 k2 hnn
    refine n_iload_n c_204_18 rfl ?_
    exact n_rI c_204_19 rfl ⟨rfl, by omega⟩
set_option maxHeartbeats 4000000 in
theorem fmod5_3 {xs : List Int32} {e : Nat} {ac : Int} {M0 M : nM} (hS : Sf 3 ac M0 M)  : nW xs e 204 0 [some (0, 2), some (0, 3), none] [] M (nPI fun z M1 => M = M1 ∧ (2 ≤ z ∧ z ≤ 2)) := by
  have hd : (3 : Int) = 2 ∨ (3 : Int) = 3 := by decide
  have hac := hS.2.2.2.2
  refine n_iload_n c_204_0 rfl (n_iload_n c_204_1 rfl (n_iremT (z := 2) c_204_2 (by omega) (by omega) (by omega) (by decide) ?_))
  refine n_istore_n (L2 := [some (0, 2), some (0, 3), some (0, 2)]) c_204_3 rfl rfl (n_iload_n c_204_4 rfl (n_iload_n c_204_5 rfl (n_i_ixor (z := 1) c_204_6 (by decide) ?_)))
  refine n_if0_ge c_204_7 (by omega) ?_ ?_
  · intro h1
    refine n_fg (le_n (le_n (le_s le_0))) ?_
    exact (fmod5_3_c hS  12) _ (by omega) (by omega)
  · intro h2
    exfalso; omega

set_option maxHeartbeats 4000000 in
theorem fmod6_3_c {xs : List Int32} {e : Nat} {ac : Int} {M0 M : nM} (hS : Sf 3 ac M0 M)  : ∀ nn : Nat, (∀ (x2 : Int), (0 ≤ x2 ∧ x2 ≤ 0) → 1 < (nn : Int) → nW xs e 204 18 [none, none, some (0, x2)] [] M (nPI fun z M1 => M = M1 ∧ (0 ≤ z ∧ z ≤ 0))) := by
  have hd : (3 : Int) = 2 ∨ (3 : Int) = 3 := by decide
  have hac := hS.2.2.2.2
  intro nn
  induction nn with
  | zero => intros; omega
  | succ nn ih =>
    intro x2 k2 hnn
    refine n_iload_n c_204_18 rfl ?_
    exact n_rI c_204_19 rfl ⟨rfl, by omega⟩
set_option maxHeartbeats 4000000 in
theorem fmod6_3 {xs : List Int32} {e : Nat} {ac : Int} {M0 M : nM} (hS : Sf 3 ac M0 M)  : nW xs e 204 0 [some (0, 3), some (0, 3), none] [] M (nPI fun z M1 => M = M1 ∧ (0 ≤ z ∧ z ≤ 0)) := by
  have hd : (3 : Int) = 2 ∨ (3 : Int) = 3 := by decide
  have hac := hS.2.2.2.2
  refine n_iload_n c_204_0 rfl (n_iload_n c_204_1 rfl (n_iremT (z := 0) c_204_2 (by omega) (by omega) (by omega) (by decide) ?_))
  refine n_istore_n (L2 := [some (0, 3), some (0, 3), some (0, 0)]) c_204_3 rfl rfl (n_iload_n c_204_4 rfl (n_iload_n c_204_5 rfl (n_i_ixor (z := 0) c_204_6 (by decide) ?_)))
  refine n_if0_ge c_204_7 (by omega) ?_ ?_
  · intro h1
    refine n_fg (le_n (le_n (le_s le_0))) ?_
    exact (fmod6_3_c hS  12) _ (by omega) (by omega)
  · intro h2
    exfalso; omega

set_option maxHeartbeats 4000000 in
theorem fmod7_3_c {xs : List Int32} {e : Nat} {ac : Int} {M0 M : nM} (hS : Sf 3 ac M0 M)  : ∀ nn : Nat, (∀ (x2 : Int), (1 ≤ x2 ∧ x2 ≤ 1) → 1 < (nn : Int) → nW xs e 204 18 [none, none, some (0, x2)] [] M (nPI fun z M1 => M = M1 ∧ (1 ≤ z ∧ z ≤ 1))) := by
  have hd : (3 : Int) = 2 ∨ (3 : Int) = 3 := by decide
  have hac := hS.2.2.2.2
  intro nn
  induction nn with
  | zero => intros; omega
  | succ nn ih =>
    intro x2 k2 hnn
    refine n_iload_n c_204_18 rfl ?_
    exact n_rI c_204_19 rfl ⟨rfl, by omega⟩
set_option maxHeartbeats 4000000 in
theorem fmod7_3 {xs : List Int32} {e : Nat} {ac : Int} {M0 M : nM} (hS : Sf 3 ac M0 M)  : nW xs e 204 0 [some (0, 4), some (0, 3), none] [] M (nPI fun z M1 => M = M1 ∧ (1 ≤ z ∧ z ≤ 1)) := by
  have hd : (3 : Int) = 2 ∨ (3 : Int) = 3 := by decide
  have hac := hS.2.2.2.2
  refine n_iload_n c_204_0 rfl (n_iload_n c_204_1 rfl (n_iremT (z := 1) c_204_2 (by omega) (by omega) (by omega) (by decide) ?_))
  refine n_istore_n (L2 := [some (0, 4), some (0, 3), some (0, 1)]) c_204_3 rfl rfl (n_iload_n c_204_4 rfl (n_iload_n c_204_5 rfl (n_i_ixor (z := 7) c_204_6 (by decide) ?_)))
  refine n_if0_ge c_204_7 (by omega) ?_ ?_
  · intro h1
    refine n_fg (le_n (le_n (le_s le_0))) ?_
    exact (fmod7_3_c hS  12) _ (by omega) (by omega)
  · intro h2
    exfalso; omega

set_option maxHeartbeats 4000000 in
theorem fmodU_3 {xs : List Int32} {e : Nat} {ac : Int} {M0 M : nM} {x : Int} (hS : Sf 3 ac M0 M) (hx : -2 ≤ x ∧ x ≤ 4) : nW xs e 204 0 [some (0, x), some (0, 3), none] [] M (nPI fun z M1 => M = M1 ∧ (0 ≤ z ∧ z ≤ 2)) := by
  rcases (show x = (-2) ∨ x = (-1) ∨ x = 0 ∨ x = 1 ∨ x = 2 ∨ x = 3 ∨ x = 4 by omega) with rfl | rfl | rfl | rfl | rfl | rfl | rfl
  · exact n_post (fmod1_3 hS ) (fun w M1 h => by obtain ⟨z, rfl, h1, h2⟩ := h; exact ⟨z, rfl, h1, by omega⟩)
  · exact n_post (fmod2_3 hS ) (fun w M1 h => by obtain ⟨z, rfl, h1, h2⟩ := h; exact ⟨z, rfl, h1, by omega⟩)
  · exact n_post (fmod3_3 hS ) (fun w M1 h => by obtain ⟨z, rfl, h1, h2⟩ := h; exact ⟨z, rfl, h1, by omega⟩)
  · exact n_post (fmod4_3 hS ) (fun w M1 h => by obtain ⟨z, rfl, h1, h2⟩ := h; exact ⟨z, rfl, h1, by omega⟩)
  · exact n_post (fmod5_3 hS ) (fun w M1 h => by obtain ⟨z, rfl, h1, h2⟩ := h; exact ⟨z, rfl, h1, by omega⟩)
  · exact n_post (fmod6_3 hS ) (fun w M1 h => by obtain ⟨z, rfl, h1, h2⟩ := h; exact ⟨z, rfl, h1, by omega⟩)
  · exact n_post (fmod7_3 hS ) (fun w M1 h => by obtain ⟨z, rfl, h1, h2⟩ := h; exact ⟨z, rfl, h1, by omega⟩)

set_option maxHeartbeats 4000000 in
theorem begin_3 {xs : List Int32} {e : Nat} {ac : Int} {M0 M : nM} {n c : Int} (hS : Sf 3 ac M0 M) (hn : 0 ≤ n ∧ n ≤ 3) (hc : 0 ≤ c ∧ c ≤ 3) : nW xs e 27 0 [some (2, 44), some (0, n), some (0, c), some (2, 4)] [] M (nPV fun M1 => Sf 3 ac M0 M1 ∧ (M1 44 2 = c ∧ M1 44 0 = n ∧ M1 44 5 = 3)) := by
  have hd : (3 : Int) = 2 ∨ (3 : Int) = 3 := by decide
  have hac := hS.2.2.2.2
  refine n_aload_n c_27_0 rfl (n_aload_n c_27_1 rfl (n_getV (bi := 0) c_27_2 sc_4.n rfl rfl rfl (t_4_0 hS) ?_))
  intro z1 ez1 f2
  obtain rfl : z1 = 3 := by omega
  refine n_putV (bi := 5) hS c_27_5 sc_44.n rfl rfl rfl rfl (w_44_5 (by omega)) ?_
  intro M3 eM3 hS3
  have g3_0 : M3 44 5 = 3 := by rw [eM3]; exact nu_s _ _ _ _
  refine n_aload_n c_27_8 rfl (n_iload_n c_27_9 rfl (n_putV (bi := 0) hS3 c_27_10 sc_44.n rfl rfl rfl rfl (w_44_0 (by omega)) ?_))
  intro M4 eM4 hS4
  have g4_0 : M4 44 5 = M3 44 5 := by rw [eM4]; exact nu_i (by omega)
  have g4_1 : M4 44 0 = n := by rw [eM4]; exact nu_s _ _ _ _
  refine n_aload_n c_27_13 rfl (n_iload_n c_27_14 rfl (n_putV (bi := 1) hS4 c_27_15 sc_44.n rfl rfl rfl rfl (w_44_1 (by omega)) ?_))
  intro M5 eM5 hS5
  have g5_0 : M5 44 5 = M4 44 5 := by rw [eM5]; exact nu_i (by omega)
  have g5_1 : M5 44 0 = M4 44 0 := by rw [eM5]; exact nu_i (by omega)
  have g5_2 : M5 44 1 = c := by rw [eM5]; exact nu_s _ _ _ _
  refine n_aload_n c_27_18 rfl (n_iload_n c_27_19 rfl (n_putV (bi := 2) hS5 c_27_20 sc_44.n rfl rfl rfl rfl (w_44_2 (by omega)) ?_))
  intro M6 eM6 hS6
  have g6_0 : M6 44 5 = M5 44 5 := by rw [eM6]; exact nu_i (by omega)
  have g6_1 : M6 44 0 = M5 44 0 := by rw [eM6]; exact nu_i (by omega)
  have g6_2 : M6 44 1 = M5 44 1 := by rw [eM6]; exact nu_i (by omega)
  have g6_3 : M6 44 2 = c := by rw [eM6]; exact nu_s _ _ _ _
  refine n_aload_n c_27_23 rfl (n_iconst c_27_24 (n_putZV (bi := 3) hS6 c_27_25 sc_44.n rfl rfl rfl (by omega) rfl (w_44_3 (by omega)) ?_))
  intro M7 eM7 hS7
  have g7_0 : M7 44 5 = M6 44 5 := by rw [eM7]; exact nu_i (by omega)
  have g7_1 : M7 44 0 = M6 44 0 := by rw [eM7]; exact nu_i (by omega)
  have g7_2 : M7 44 1 = M6 44 1 := by rw [eM7]; exact nu_i (by omega)
  have g7_3 : M7 44 2 = M6 44 2 := by rw [eM7]; exact nu_i (by omega)
  have g7_4 : M7 44 3 = 0 := by rw [eM7]; exact nu_s _ _ _ _
  exact n_rV c_27_28 rfl ⟨hS7, by omega⟩

set_option maxHeartbeats 4000000 in
theorem repeat_3_c {xs : List Int32} {e : Nat} {ac : Int} {M0 M : nM} (hS : Sf 3 ac M0 M)  : ∀ nn : Nat, (∀ (x2 x3 : Int) (M : nM), Sf 3 ac M0 M → (1 ≤ x2 ∧ x2 ≤ 27) → (1 ≤ x3 ∧ x3 ≤ 27) → (x2 ≤ x3) → (27 - x3) * 1 + 1 < (nn : Int) → nW xs (e + 1) 28 11 [some (2, 44), some (2, 4), some (0, x2), some (0, x3)] [] M (nPV fun M1 => Sf 3 ac M0 M1)) := by
  have hd : (3 : Int) = 2 ∨ (3 : Int) = 3 := by decide
  have hac := hS.2.2.2.2
  intro nn
  induction nn with
  | zero => intros; omega
  | succ nn ih =>
    intro x2 x3 M hS k2 k3 v0 hnn
    refine n_iload_n c_28_11 rfl (n_aload_n c_28_12 rfl (n_getV (bi := 1) c_28_13 sc_4.n rfl rfl rfl (t_4_1 hS) ?_))
    intro z1 ez1 f2
    obtain rfl : z1 = 27 := by omega
    refine n_if2_ge c_28_16 (by omega) (by omega) ?_ ?_
    · intro h3
      exact n_rV c_28_39 rfl hS
    · intro h4
      refine n_aload_n c_28_19 rfl (n_getR c_28_20 sc_44.n rfl rfl rfl r_44_4 (n_iload_n c_28_23 rfl (n_aload_n c_28_24 rfl (n_getR c_28_25 sc_44.n rfl rfl rfl r_44_4 (n_iload_n c_28_28 rfl (n_iload_n c_28_29 rfl (n_isub c_28_30 rfl (n_ialoadV c_28_31 sc_45.n rfl rfl rfl (by omega) (t_45 hS (by omega)) ?_))))))))
      intro z5 ez5 f6
      refine n_iastoreV hS c_28_32 sc_45.n rfl (by omega) (w_45 (by omega) (by omega)) ?_
      intro M7 eM7 hS7
      refine n_iinc (L2 := [some (2, 44), some (2, 4), some (0, x2), some (0, (x3 + 1))]) c_28_33 rfl rfl rfl (n_goto c_28_36 (n_fg (le_s (le_s (le_s (le_s le_0)))) ?_))
      exact ih _ _ M7 hS7 (by omega) (by omega) (by omega) (by omega)
set_option maxHeartbeats 4000000 in
theorem repeat_3 {xs : List Int32} {e : Nat} {ac : Int} {M0 M : nM} (hS : Sf 3 ac M0 M)  : nW xs (e + 1) 28 0 [some (2, 44), some (2, 4), none, none] [] M (nPV fun M1 => Sf 3 ac M0 M1) := by
  have hd : (3 : Int) = 2 ∨ (3 : Int) = 3 := by decide
  have hac := hS.2.2.2.2
  refine n_aload_n c_28_0 rfl (n_aload_n c_28_1 rfl (n_getV (bi := 0) c_28_2 sc_44.n rfl rfl rfl (t_44_0 hS) ?_))
  intro z1 ez1 f2
  refine n_v1I c_28_5 rfl sc_4.n rfl rfl rfl rfl (powerU_3 (n := z1) hS (by omega)) ?_
  intro z3 M4 hP5
  obtain ⟨eM, f5⟩ := hP5
  subst eM
  refine n_istore_n (L2 := [some (2, 44), some (2, 4), some (0, z3), none]) c_28_8 rfl rfl (n_iload_n c_28_9 rfl (n_istore_n (L2 := [some (2, 44), some (2, 4), some (0, z3), some (0, z3)]) c_28_10 rfl rfl (n_fg (le_s (le_s (le_s (le_s le_0)))) ?_)))
  exact (repeat_3_c hS  66) _ _ M hS (by omega) (by omega) (by omega) (by omega)

set_option maxHeartbeats 4000000 in
theorem beFree1_3 {xs : List Int32} {e : Nat} {ac : Int} {M0 M : nM} (hS : Sf 3 ac M0 M)  : nW xs (e + 2) 20 0 [some (2, 44), some (0, 1), some (2, 4), none] [] M (nPV fun M1 => Sf 3 ac M0 M1) := by
  have hd : (3 : Int) = 2 ∨ (3 : Int) = 3 := by decide
  have hac := hS.2.2.2.2
  refine n_aload_n c_20_0 rfl (n_iload_n c_20_1 rfl (n_iconst c_20_2 (n_aload_n c_20_3 rfl (n_v3V c_20_4 rfl sc_44.n rfl rfl rfl rfl (begin_3 (n := 1) (c := 0) hS (by omega) (by omega)) ?_))))
  intro  M1 hP2
  obtain ⟨hS1, f2p0⟩ := hP2
  refine n_aload_n c_20_7 rfl (n_iload_n c_20_8 rfl (n_v1I c_20_9 rfl sc_4.n rfl rfl rfl rfl (power1_3  hS1 ) ?_))
  intro z3 M4 hP5
  obtain ⟨eM, f5⟩ := hP5
  subst eM
  obtain rfl : z3 = 3 := by omega
  refine n_iconst c_20_12 (n_isub c_20_13 rfl (n_istore_n (L2 := [some (2, 44), some (0, 1), some (2, 4), some (0, (3 - 1))]) c_20_14 rfl rfl (n_iload_n c_20_15 rfl ?_)))
  refine n_if0_lt c_20_16 (by omega) ?_ ?_
  · intro h6
    exfalso; omega
  · intro h7
    refine n_aload_n c_20_19 rfl (n_getR c_20_20 sc_44.n rfl rfl rfl r_44_4 (n_iload_n c_20_23 rfl (n_aload_n c_20_24 rfl (n_dup2 c_20_25 (n_getV (bi := 2) c_20_26 sc_44.n rfl rfl rfl (t_44_2 hS1) ?_)))))
    intro z8 ez8 f9
    obtain rfl : z8 = 0 := by omega
    refine n_dup_x102 c_20_29 (n_iconst c_20_30 (n_iadd c_20_31 rfl (n_putV (bi := 2) hS1 c_20_32 sc_44.n rfl rfl rfl rfl (w_44_2 (by omega)) ?_)))
    intro M10 eM10 hS10
    have g10_0 : M10 44 0 = M1 44 0 := by rw [eM10]; exact nu_i (by omega)
    have g10_1 : M10 44 5 = M1 44 5 := by rw [eM10]; exact nu_i (by omega)
    have g10_2 : M10 44 2 = (0 + 1) := by rw [eM10]; exact nu_s _ _ _ _
    refine n_iastoreV hS10 c_20_35 sc_45.n rfl (by omega) (w_45 (by omega) (by omega)) ?_
    intro M11 eM11 hS11
    have g11_0 : M11 44 0 = M10 44 0 := by rw [eM11]; exact nu_a (by omega)
    have g11_1 : M11 44 5 = M10 44 5 := by rw [eM11]; exact nu_a (by omega)
    have g11_2 : M11 44 2 = M10 44 2 := by rw [eM11]; exact nu_a (by omega)
    refine n_iinc (L2 := [some (2, 44), some (0, 1), some (2, 4), some (0, ((3 - 1) + (-1)))]) c_20_36 rfl rfl rfl (n_goto c_20_39 (n_iload_n c_20_15 rfl ?_))
    refine n_if0_lt c_20_16 (by omega) ?_ ?_
    · intro h12
      exfalso; omega
    · intro h13
      refine n_aload_n c_20_19 rfl (n_getR c_20_20 sc_44.n rfl rfl rfl r_44_4 (n_iload_n c_20_23 rfl (n_aload_n c_20_24 rfl (n_dup2 c_20_25 (n_getV (bi := 2) c_20_26 sc_44.n rfl rfl rfl (t_44_2 hS11) ?_)))))
      intro z14 ez14 f15
      obtain rfl : z14 = 1 := by omega
      refine n_dup_x102 c_20_29 (n_iconst c_20_30 (n_iadd c_20_31 rfl (n_putV (bi := 2) hS11 c_20_32 sc_44.n rfl rfl rfl rfl (w_44_2 (by omega)) ?_)))
      intro M16 eM16 hS16
      have g16_0 : M16 44 0 = M11 44 0 := by rw [eM16]; exact nu_i (by omega)
      have g16_1 : M16 44 5 = M11 44 5 := by rw [eM16]; exact nu_i (by omega)
      have g16_2 : M16 44 2 = (1 + 1) := by rw [eM16]; exact nu_s _ _ _ _
      refine n_iastoreV hS16 c_20_35 sc_45.n rfl (by omega) (w_45 (by omega) (by omega)) ?_
      intro M17 eM17 hS17
      have g17_0 : M17 44 0 = M16 44 0 := by rw [eM17]; exact nu_a (by omega)
      have g17_1 : M17 44 5 = M16 44 5 := by rw [eM17]; exact nu_a (by omega)
      have g17_2 : M17 44 2 = M16 44 2 := by rw [eM17]; exact nu_a (by omega)
      refine n_iinc (L2 := [some (2, 44), some (0, 1), some (2, 4), some (0, (((3 - 1) + (-1)) + (-1)))]) c_20_36 rfl rfl rfl (n_goto c_20_39 (n_iload_n c_20_15 rfl ?_))
      refine n_if0_lt c_20_16 (by omega) ?_ ?_
      · intro h18
        exfalso; omega
      · intro h19
        refine n_aload_n c_20_19 rfl (n_getR c_20_20 sc_44.n rfl rfl rfl r_44_4 (n_iload_n c_20_23 rfl (n_aload_n c_20_24 rfl (n_dup2 c_20_25 (n_getV (bi := 2) c_20_26 sc_44.n rfl rfl rfl (t_44_2 hS17) ?_)))))
        intro z20 ez20 f21
        obtain rfl : z20 = 2 := by omega
        refine n_dup_x102 c_20_29 (n_iconst c_20_30 (n_iadd c_20_31 rfl (n_putV (bi := 2) hS17 c_20_32 sc_44.n rfl rfl rfl rfl (w_44_2 (by omega)) ?_)))
        intro M22 eM22 hS22
        have g22_0 : M22 44 0 = M17 44 0 := by rw [eM22]; exact nu_i (by omega)
        have g22_1 : M22 44 5 = M17 44 5 := by rw [eM22]; exact nu_i (by omega)
        have g22_2 : M22 44 2 = (2 + 1) := by rw [eM22]; exact nu_s _ _ _ _
        refine n_iastoreV hS22 c_20_35 sc_45.n rfl (by omega) (w_45 (by omega) (by omega)) ?_
        intro M23 eM23 hS23
        have g23_0 : M23 44 0 = M22 44 0 := by rw [eM23]; exact nu_a (by omega)
        have g23_1 : M23 44 5 = M22 44 5 := by rw [eM23]; exact nu_a (by omega)
        have g23_2 : M23 44 2 = M22 44 2 := by rw [eM23]; exact nu_a (by omega)
        refine n_iinc (L2 := [some (2, 44), some (0, 1), some (2, 4), some (0, ((((3 - 1) + (-1)) + (-1)) + (-1)))]) c_20_36 rfl rfl rfl (n_goto c_20_39 (n_iload_n c_20_15 rfl ?_))
        refine n_if0_lt c_20_16 (by omega) ?_ ?_
        · intro h24
          refine n_aload_n c_20_42 rfl (n_aload_n c_20_43 rfl (n_v1V c_20_44 rfl sc_44.n rfl rfl rfl rfl (repeat_3  hS23 ) ?_))
          intro  M25 hP26
          have hS25 := hP26
          exact n_rV c_20_47 rfl hS25
        · intro h27
          exfalso; omega

set_option maxHeartbeats 4000000 in
theorem beFree2_3 {xs : List Int32} {e : Nat} {ac : Int} {M0 M : nM} (hS : Sf 3 ac M0 M)  : nW xs (e + 2) 20 0 [some (2, 44), some (0, 2), some (2, 4), none] [] M (nPV fun M1 => Sf 3 ac M0 M1) := by
  have hd : (3 : Int) = 2 ∨ (3 : Int) = 3 := by decide
  have hac := hS.2.2.2.2
  refine n_aload_n c_20_0 rfl (n_iload_n c_20_1 rfl (n_iconst c_20_2 (n_aload_n c_20_3 rfl (n_v3V c_20_4 rfl sc_44.n rfl rfl rfl rfl (begin_3 (n := 2) (c := 0) hS (by omega) (by omega)) ?_))))
  intro  M1 hP2
  obtain ⟨hS1, f2p0⟩ := hP2
  refine n_aload_n c_20_7 rfl (n_iload_n c_20_8 rfl (n_v1I c_20_9 rfl sc_4.n rfl rfl rfl rfl (power2_3  hS1 ) ?_))
  intro z3 M4 hP5
  obtain ⟨eM, f5⟩ := hP5
  subst eM
  obtain rfl : z3 = 9 := by omega
  refine n_iconst c_20_12 (n_isub c_20_13 rfl (n_istore_n (L2 := [some (2, 44), some (0, 2), some (2, 4), some (0, (9 - 1))]) c_20_14 rfl rfl (n_iload_n c_20_15 rfl ?_)))
  refine n_if0_lt c_20_16 (by omega) ?_ ?_
  · intro h6
    exfalso; omega
  · intro h7
    refine n_aload_n c_20_19 rfl (n_getR c_20_20 sc_44.n rfl rfl rfl r_44_4 (n_iload_n c_20_23 rfl (n_aload_n c_20_24 rfl (n_dup2 c_20_25 (n_getV (bi := 2) c_20_26 sc_44.n rfl rfl rfl (t_44_2 hS1) ?_)))))
    intro z8 ez8 f9
    obtain rfl : z8 = 0 := by omega
    refine n_dup_x102 c_20_29 (n_iconst c_20_30 (n_iadd c_20_31 rfl (n_putV (bi := 2) hS1 c_20_32 sc_44.n rfl rfl rfl rfl (w_44_2 (by omega)) ?_)))
    intro M10 eM10 hS10
    have g10_0 : M10 44 0 = M1 44 0 := by rw [eM10]; exact nu_i (by omega)
    have g10_1 : M10 44 5 = M1 44 5 := by rw [eM10]; exact nu_i (by omega)
    have g10_2 : M10 44 2 = (0 + 1) := by rw [eM10]; exact nu_s _ _ _ _
    refine n_iastoreV hS10 c_20_35 sc_45.n rfl (by omega) (w_45 (by omega) (by omega)) ?_
    intro M11 eM11 hS11
    have g11_0 : M11 44 0 = M10 44 0 := by rw [eM11]; exact nu_a (by omega)
    have g11_1 : M11 44 5 = M10 44 5 := by rw [eM11]; exact nu_a (by omega)
    have g11_2 : M11 44 2 = M10 44 2 := by rw [eM11]; exact nu_a (by omega)
    refine n_iinc (L2 := [some (2, 44), some (0, 2), some (2, 4), some (0, ((9 - 1) + (-1)))]) c_20_36 rfl rfl rfl (n_goto c_20_39 (n_iload_n c_20_15 rfl ?_))
    refine n_if0_lt c_20_16 (by omega) ?_ ?_
    · intro h12
      exfalso; omega
    · intro h13
      refine n_aload_n c_20_19 rfl (n_getR c_20_20 sc_44.n rfl rfl rfl r_44_4 (n_iload_n c_20_23 rfl (n_aload_n c_20_24 rfl (n_dup2 c_20_25 (n_getV (bi := 2) c_20_26 sc_44.n rfl rfl rfl (t_44_2 hS11) ?_)))))
      intro z14 ez14 f15
      obtain rfl : z14 = 1 := by omega
      refine n_dup_x102 c_20_29 (n_iconst c_20_30 (n_iadd c_20_31 rfl (n_putV (bi := 2) hS11 c_20_32 sc_44.n rfl rfl rfl rfl (w_44_2 (by omega)) ?_)))
      intro M16 eM16 hS16
      have g16_0 : M16 44 0 = M11 44 0 := by rw [eM16]; exact nu_i (by omega)
      have g16_1 : M16 44 5 = M11 44 5 := by rw [eM16]; exact nu_i (by omega)
      have g16_2 : M16 44 2 = (1 + 1) := by rw [eM16]; exact nu_s _ _ _ _
      refine n_iastoreV hS16 c_20_35 sc_45.n rfl (by omega) (w_45 (by omega) (by omega)) ?_
      intro M17 eM17 hS17
      have g17_0 : M17 44 0 = M16 44 0 := by rw [eM17]; exact nu_a (by omega)
      have g17_1 : M17 44 5 = M16 44 5 := by rw [eM17]; exact nu_a (by omega)
      have g17_2 : M17 44 2 = M16 44 2 := by rw [eM17]; exact nu_a (by omega)
      refine n_iinc (L2 := [some (2, 44), some (0, 2), some (2, 4), some (0, (((9 - 1) + (-1)) + (-1)))]) c_20_36 rfl rfl rfl (n_goto c_20_39 (n_iload_n c_20_15 rfl ?_))
      refine n_if0_lt c_20_16 (by omega) ?_ ?_
      · intro h18
        exfalso; omega
      · intro h19
        refine n_aload_n c_20_19 rfl (n_getR c_20_20 sc_44.n rfl rfl rfl r_44_4 (n_iload_n c_20_23 rfl (n_aload_n c_20_24 rfl (n_dup2 c_20_25 (n_getV (bi := 2) c_20_26 sc_44.n rfl rfl rfl (t_44_2 hS17) ?_)))))
        intro z20 ez20 f21
        obtain rfl : z20 = 2 := by omega
        refine n_dup_x102 c_20_29 (n_iconst c_20_30 (n_iadd c_20_31 rfl (n_putV (bi := 2) hS17 c_20_32 sc_44.n rfl rfl rfl rfl (w_44_2 (by omega)) ?_)))
        intro M22 eM22 hS22
        have g22_0 : M22 44 0 = M17 44 0 := by rw [eM22]; exact nu_i (by omega)
        have g22_1 : M22 44 5 = M17 44 5 := by rw [eM22]; exact nu_i (by omega)
        have g22_2 : M22 44 2 = (2 + 1) := by rw [eM22]; exact nu_s _ _ _ _
        refine n_iastoreV hS22 c_20_35 sc_45.n rfl (by omega) (w_45 (by omega) (by omega)) ?_
        intro M23 eM23 hS23
        have g23_0 : M23 44 0 = M22 44 0 := by rw [eM23]; exact nu_a (by omega)
        have g23_1 : M23 44 5 = M22 44 5 := by rw [eM23]; exact nu_a (by omega)
        have g23_2 : M23 44 2 = M22 44 2 := by rw [eM23]; exact nu_a (by omega)
        refine n_iinc (L2 := [some (2, 44), some (0, 2), some (2, 4), some (0, ((((9 - 1) + (-1)) + (-1)) + (-1)))]) c_20_36 rfl rfl rfl (n_goto c_20_39 (n_iload_n c_20_15 rfl ?_))
        refine n_if0_lt c_20_16 (by omega) ?_ ?_
        · intro h24
          exfalso; omega
        · intro h25
          refine n_aload_n c_20_19 rfl (n_getR c_20_20 sc_44.n rfl rfl rfl r_44_4 (n_iload_n c_20_23 rfl (n_aload_n c_20_24 rfl (n_dup2 c_20_25 (n_getV (bi := 2) c_20_26 sc_44.n rfl rfl rfl (t_44_2 hS23) ?_)))))
          intro z26 ez26 f27
          obtain rfl : z26 = 3 := by omega
          refine n_dup_x102 c_20_29 (n_iconst c_20_30 (n_iadd c_20_31 rfl (n_putV (bi := 2) hS23 c_20_32 sc_44.n rfl rfl rfl rfl (w_44_2 (by omega)) ?_)))
          intro M28 eM28 hS28
          have g28_0 : M28 44 0 = M23 44 0 := by rw [eM28]; exact nu_i (by omega)
          have g28_1 : M28 44 5 = M23 44 5 := by rw [eM28]; exact nu_i (by omega)
          have g28_2 : M28 44 2 = (3 + 1) := by rw [eM28]; exact nu_s _ _ _ _
          refine n_iastoreV hS28 c_20_35 sc_45.n rfl (by omega) (w_45 (by omega) (by omega)) ?_
          intro M29 eM29 hS29
          have g29_0 : M29 44 0 = M28 44 0 := by rw [eM29]; exact nu_a (by omega)
          have g29_1 : M29 44 5 = M28 44 5 := by rw [eM29]; exact nu_a (by omega)
          have g29_2 : M29 44 2 = M28 44 2 := by rw [eM29]; exact nu_a (by omega)
          refine n_iinc (L2 := [some (2, 44), some (0, 2), some (2, 4), some (0, (((((9 - 1) + (-1)) + (-1)) + (-1)) + (-1)))]) c_20_36 rfl rfl rfl (n_goto c_20_39 (n_iload_n c_20_15 rfl ?_))
          refine n_if0_lt c_20_16 (by omega) ?_ ?_
          · intro h30
            exfalso; omega
          · intro h31
            refine n_aload_n c_20_19 rfl (n_getR c_20_20 sc_44.n rfl rfl rfl r_44_4 (n_iload_n c_20_23 rfl (n_aload_n c_20_24 rfl (n_dup2 c_20_25 (n_getV (bi := 2) c_20_26 sc_44.n rfl rfl rfl (t_44_2 hS29) ?_)))))
            intro z32 ez32 f33
            obtain rfl : z32 = 4 := by omega
            refine n_dup_x102 c_20_29 (n_iconst c_20_30 (n_iadd c_20_31 rfl (n_putV (bi := 2) hS29 c_20_32 sc_44.n rfl rfl rfl rfl (w_44_2 (by omega)) ?_)))
            intro M34 eM34 hS34
            have g34_0 : M34 44 0 = M29 44 0 := by rw [eM34]; exact nu_i (by omega)
            have g34_1 : M34 44 5 = M29 44 5 := by rw [eM34]; exact nu_i (by omega)
            have g34_2 : M34 44 2 = (4 + 1) := by rw [eM34]; exact nu_s _ _ _ _
            refine n_iastoreV hS34 c_20_35 sc_45.n rfl (by omega) (w_45 (by omega) (by omega)) ?_
            intro M35 eM35 hS35
            have g35_0 : M35 44 0 = M34 44 0 := by rw [eM35]; exact nu_a (by omega)
            have g35_1 : M35 44 5 = M34 44 5 := by rw [eM35]; exact nu_a (by omega)
            have g35_2 : M35 44 2 = M34 44 2 := by rw [eM35]; exact nu_a (by omega)
            refine n_iinc (L2 := [some (2, 44), some (0, 2), some (2, 4), some (0, ((((((9 - 1) + (-1)) + (-1)) + (-1)) + (-1)) + (-1)))]) c_20_36 rfl rfl rfl (n_goto c_20_39 (n_iload_n c_20_15 rfl ?_))
            refine n_if0_lt c_20_16 (by omega) ?_ ?_
            · intro h36
              exfalso; omega
            · intro h37
              refine n_aload_n c_20_19 rfl (n_getR c_20_20 sc_44.n rfl rfl rfl r_44_4 (n_iload_n c_20_23 rfl (n_aload_n c_20_24 rfl (n_dup2 c_20_25 (n_getV (bi := 2) c_20_26 sc_44.n rfl rfl rfl (t_44_2 hS35) ?_)))))
              intro z38 ez38 f39
              obtain rfl : z38 = 5 := by omega
              refine n_dup_x102 c_20_29 (n_iconst c_20_30 (n_iadd c_20_31 rfl (n_putV (bi := 2) hS35 c_20_32 sc_44.n rfl rfl rfl rfl (w_44_2 (by omega)) ?_)))
              intro M40 eM40 hS40
              have g40_0 : M40 44 0 = M35 44 0 := by rw [eM40]; exact nu_i (by omega)
              have g40_1 : M40 44 5 = M35 44 5 := by rw [eM40]; exact nu_i (by omega)
              have g40_2 : M40 44 2 = (5 + 1) := by rw [eM40]; exact nu_s _ _ _ _
              refine n_iastoreV hS40 c_20_35 sc_45.n rfl (by omega) (w_45 (by omega) (by omega)) ?_
              intro M41 eM41 hS41
              have g41_0 : M41 44 0 = M40 44 0 := by rw [eM41]; exact nu_a (by omega)
              have g41_1 : M41 44 5 = M40 44 5 := by rw [eM41]; exact nu_a (by omega)
              have g41_2 : M41 44 2 = M40 44 2 := by rw [eM41]; exact nu_a (by omega)
              refine n_iinc (L2 := [some (2, 44), some (0, 2), some (2, 4), some (0, (((((((9 - 1) + (-1)) + (-1)) + (-1)) + (-1)) + (-1)) + (-1)))]) c_20_36 rfl rfl rfl (n_goto c_20_39 (n_iload_n c_20_15 rfl ?_))
              refine n_if0_lt c_20_16 (by omega) ?_ ?_
              · intro h42
                exfalso; omega
              · intro h43
                refine n_aload_n c_20_19 rfl (n_getR c_20_20 sc_44.n rfl rfl rfl r_44_4 (n_iload_n c_20_23 rfl (n_aload_n c_20_24 rfl (n_dup2 c_20_25 (n_getV (bi := 2) c_20_26 sc_44.n rfl rfl rfl (t_44_2 hS41) ?_)))))
                intro z44 ez44 f45
                obtain rfl : z44 = 6 := by omega
                refine n_dup_x102 c_20_29 (n_iconst c_20_30 (n_iadd c_20_31 rfl (n_putV (bi := 2) hS41 c_20_32 sc_44.n rfl rfl rfl rfl (w_44_2 (by omega)) ?_)))
                intro M46 eM46 hS46
                have g46_0 : M46 44 0 = M41 44 0 := by rw [eM46]; exact nu_i (by omega)
                have g46_1 : M46 44 5 = M41 44 5 := by rw [eM46]; exact nu_i (by omega)
                have g46_2 : M46 44 2 = (6 + 1) := by rw [eM46]; exact nu_s _ _ _ _
                refine n_iastoreV hS46 c_20_35 sc_45.n rfl (by omega) (w_45 (by omega) (by omega)) ?_
                intro M47 eM47 hS47
                have g47_0 : M47 44 0 = M46 44 0 := by rw [eM47]; exact nu_a (by omega)
                have g47_1 : M47 44 5 = M46 44 5 := by rw [eM47]; exact nu_a (by omega)
                have g47_2 : M47 44 2 = M46 44 2 := by rw [eM47]; exact nu_a (by omega)
                refine n_iinc (L2 := [some (2, 44), some (0, 2), some (2, 4), some (0, ((((((((9 - 1) + (-1)) + (-1)) + (-1)) + (-1)) + (-1)) + (-1)) + (-1)))]) c_20_36 rfl rfl rfl (n_goto c_20_39 (n_iload_n c_20_15 rfl ?_))
                refine n_if0_lt c_20_16 (by omega) ?_ ?_
                · intro h48
                  exfalso; omega
                · intro h49
                  refine n_aload_n c_20_19 rfl (n_getR c_20_20 sc_44.n rfl rfl rfl r_44_4 (n_iload_n c_20_23 rfl (n_aload_n c_20_24 rfl (n_dup2 c_20_25 (n_getV (bi := 2) c_20_26 sc_44.n rfl rfl rfl (t_44_2 hS47) ?_)))))
                  intro z50 ez50 f51
                  obtain rfl : z50 = 7 := by omega
                  refine n_dup_x102 c_20_29 (n_iconst c_20_30 (n_iadd c_20_31 rfl (n_putV (bi := 2) hS47 c_20_32 sc_44.n rfl rfl rfl rfl (w_44_2 (by omega)) ?_)))
                  intro M52 eM52 hS52
                  have g52_0 : M52 44 0 = M47 44 0 := by rw [eM52]; exact nu_i (by omega)
                  have g52_1 : M52 44 5 = M47 44 5 := by rw [eM52]; exact nu_i (by omega)
                  have g52_2 : M52 44 2 = (7 + 1) := by rw [eM52]; exact nu_s _ _ _ _
                  refine n_iastoreV hS52 c_20_35 sc_45.n rfl (by omega) (w_45 (by omega) (by omega)) ?_
                  intro M53 eM53 hS53
                  have g53_0 : M53 44 0 = M52 44 0 := by rw [eM53]; exact nu_a (by omega)
                  have g53_1 : M53 44 5 = M52 44 5 := by rw [eM53]; exact nu_a (by omega)
                  have g53_2 : M53 44 2 = M52 44 2 := by rw [eM53]; exact nu_a (by omega)
                  refine n_iinc (L2 := [some (2, 44), some (0, 2), some (2, 4), some (0, (((((((((9 - 1) + (-1)) + (-1)) + (-1)) + (-1)) + (-1)) + (-1)) + (-1)) + (-1)))]) c_20_36 rfl rfl rfl (n_goto c_20_39 (n_iload_n c_20_15 rfl ?_))
                  refine n_if0_lt c_20_16 (by omega) ?_ ?_
                  · intro h54
                    exfalso; omega
                  · intro h55
                    refine n_aload_n c_20_19 rfl (n_getR c_20_20 sc_44.n rfl rfl rfl r_44_4 (n_iload_n c_20_23 rfl (n_aload_n c_20_24 rfl (n_dup2 c_20_25 (n_getV (bi := 2) c_20_26 sc_44.n rfl rfl rfl (t_44_2 hS53) ?_)))))
                    intro z56 ez56 f57
                    obtain rfl : z56 = 8 := by omega
                    refine n_dup_x102 c_20_29 (n_iconst c_20_30 (n_iadd c_20_31 rfl (n_putV (bi := 2) hS53 c_20_32 sc_44.n rfl rfl rfl rfl (w_44_2 (by omega)) ?_)))
                    intro M58 eM58 hS58
                    have g58_0 : M58 44 0 = M53 44 0 := by rw [eM58]; exact nu_i (by omega)
                    have g58_1 : M58 44 5 = M53 44 5 := by rw [eM58]; exact nu_i (by omega)
                    have g58_2 : M58 44 2 = (8 + 1) := by rw [eM58]; exact nu_s _ _ _ _
                    refine n_iastoreV hS58 c_20_35 sc_45.n rfl (by omega) (w_45 (by omega) (by omega)) ?_
                    intro M59 eM59 hS59
                    have g59_0 : M59 44 0 = M58 44 0 := by rw [eM59]; exact nu_a (by omega)
                    have g59_1 : M59 44 5 = M58 44 5 := by rw [eM59]; exact nu_a (by omega)
                    have g59_2 : M59 44 2 = M58 44 2 := by rw [eM59]; exact nu_a (by omega)
                    refine n_iinc (L2 := [some (2, 44), some (0, 2), some (2, 4), some (0, ((((((((((9 - 1) + (-1)) + (-1)) + (-1)) + (-1)) + (-1)) + (-1)) + (-1)) + (-1)) + (-1)))]) c_20_36 rfl rfl rfl (n_goto c_20_39 (n_iload_n c_20_15 rfl ?_))
                    refine n_if0_lt c_20_16 (by omega) ?_ ?_
                    · intro h60
                      refine n_aload_n c_20_42 rfl (n_aload_n c_20_43 rfl (n_v1V c_20_44 rfl sc_44.n rfl rfl rfl rfl (repeat_3  hS59 ) ?_))
                      intro  M61 hP62
                      have hS61 := hP62
                      exact n_rV c_20_47 rfl hS61
                    · intro h63
                      exfalso; omega

set_option maxHeartbeats 4000000 in
theorem beFree_3 {xs : List Int32} {e : Nat} {ac : Int} {M0 M : nM} {n : Int} (hS : Sf 3 ac M0 M) (hn : 1 ≤ n ∧ n ≤ 2) : nW xs (e + 2) 20 0 [some (2, 44), some (0, n), some (2, 4), none] [] M (nPV fun M1 => Sf 3 ac M0 M1) := by
  rcases (show n = 1 ∨ n = 2 by omega) with rfl | rfl
  · exact n_post (beFree1_3 hS ) (fun w M1 h => h)
  · exact n_post (beFree2_3 hS ) (fun w M1 h => h)

set_option maxHeartbeats 4000000 in
theorem beHalf_3 {xs : List Int32} {e : Nat} {ac : Int} {M0 M : nM} (hS : Sf 3 ac M0 M)  : nW xs (e + 2) 21 0 [some (2, 44), some (2, 4), none, none] [] M (nPV fun M1 => Sf 3 ac M0 M1) := by
  have hd : (3 : Int) = 2 ∨ (3 : Int) = 3 := by decide
  have hac := hS.2.2.2.2
  refine n_aload_n c_21_0 rfl (n_iconst c_21_1 (n_aload_n c_21_2 rfl (n_getV (bi := 0) c_21_3 sc_4.n rfl rfl rfl (t_4_0 hS) ?_)))
  intro z1 ez1 f2
  obtain rfl : z1 = 3 := by omega
  refine n_aload_n c_21_6 rfl (n_v3V c_21_7 rfl sc_44.n rfl rfl rfl rfl (begin_3 (n := 2) (c := 3) hS (by omega) (by omega)) ?_)
  intro  M3 hP4
  obtain ⟨hS3, f4p0⟩ := hP4
  refine n_aload_n c_21_10 rfl (n_iconst c_21_11 (n_putZV (bi := 3) hS3 c_21_12 sc_44.n rfl rfl rfl (by omega) rfl (w_44_3 (by omega)) ?_))
  intro M5 eM5 hS5
  have g5_0 : M5 44 2 = M3 44 2 := by rw [eM5]; exact nu_i (by omega)
  have g5_1 : M5 44 0 = M3 44 0 := by rw [eM5]; exact nu_i (by omega)
  have g5_2 : M5 44 5 = M3 44 5 := by rw [eM5]; exact nu_i (by omega)
  have g5_3 : M5 44 3 = 1 := by rw [eM5]; exact nu_s _ _ _ _
  refine n_aload_n c_21_15 rfl (n_getV (bi := 5) c_21_16 sc_44.n rfl rfl rfl (t_44_5 hS5) ?_)
  intro z6 ez6 f7
  obtain rfl : z6 = 3 := by omega
  refine n_iconst c_21_19 (n_isub c_21_20 rfl (n_istore_n (L2 := [some (2, 44), some (2, 4), some (0, (3 - 1)), none]) c_21_21 rfl rfl (n_iload_n c_21_22 rfl ?_)))
  refine n_if0_lt c_21_23 (by omega) ?_ ?_
  · intro h8
    exfalso; omega
  · intro h9
    refine n_aload_n c_21_26 rfl (n_getR c_21_27 sc_44.n rfl rfl rfl r_44_4 (n_iload_n c_21_30 rfl (n_aload_n c_21_31 rfl (n_getV (bi := 5) c_21_32 sc_44.n rfl rfl rfl (t_44_5 hS5) ?_))))
    intro z10 ez10 f11
    obtain rfl : z10 = 3 := by omega
    refine n_imul c_21_35 rfl (n_iload_n c_21_36 rfl (n_iadd c_21_37 rfl (n_iload_n c_21_38 rfl (n_iastoreV hS5 c_21_39 sc_45.n rfl (by omega) (w_45 (by omega) (by omega)) ?_))))
    intro M12 eM12 hS12
    have g12_0 : M12 44 2 = M5 44 2 := by rw [eM12]; exact nu_a (by omega)
    have g12_1 : M12 44 0 = M5 44 0 := by rw [eM12]; exact nu_a (by omega)
    have g12_2 : M12 44 5 = M5 44 5 := by rw [eM12]; exact nu_a (by omega)
    have g12_3 : M12 44 3 = M5 44 3 := by rw [eM12]; exact nu_a (by omega)
    refine n_iload_n c_21_40 rfl (n_iconst c_21_41 (n_isub c_21_42 rfl (n_istore_n (L2 := [some (2, 44), some (2, 4), some (0, (3 - 1)), some (0, ((3 - 1) - 1))]) c_21_43 rfl rfl (n_iload_n c_21_44 rfl ?_))))
    refine n_if0_lt c_21_45 (by omega) ?_ ?_
    · intro h13
      exfalso; omega
    · intro h14
      refine n_aload_n c_21_48 rfl (n_getR c_21_49 sc_44.n rfl rfl rfl r_44_4 (n_iload_n c_21_52 rfl (n_aload_n c_21_53 rfl (n_getV (bi := 5) c_21_54 sc_44.n rfl rfl rfl (t_44_5 hS12) ?_))))
      intro z15 ez15 f16
      obtain rfl : z15 = 3 := by omega
      refine n_imul c_21_57 rfl (n_iload_n c_21_58 rfl (n_iadd c_21_59 rfl (n_aload_n c_21_60 rfl (n_getV (bi := 2) c_21_61 sc_44.n rfl rfl rfl (t_44_2 hS12) ?_))))
      intro z17 ez17 f18
      obtain rfl : z17 = 3 := by omega
      refine n_iastoreV hS12 c_21_64 sc_45.n rfl (by omega) (w_45 (by omega) (by omega)) ?_
      intro M19 eM19 hS19
      have g19_0 : M19 44 2 = M12 44 2 := by rw [eM19]; exact nu_a (by omega)
      have g19_1 : M19 44 0 = M12 44 0 := by rw [eM19]; exact nu_a (by omega)
      have g19_2 : M19 44 5 = M12 44 5 := by rw [eM19]; exact nu_a (by omega)
      have g19_3 : M19 44 3 = M12 44 3 := by rw [eM19]; exact nu_a (by omega)
      refine n_aload_n c_21_65 rfl (n_getR c_21_66 sc_44.n rfl rfl rfl r_44_4 (n_iload_n c_21_69 rfl (n_aload_n c_21_70 rfl (n_getV (bi := 5) c_21_71 sc_44.n rfl rfl rfl (t_44_5 hS19) ?_))))
      intro z20 ez20 f21
      obtain rfl : z20 = 3 := by omega
      refine n_imul c_21_74 rfl (n_iload_n c_21_75 rfl (n_iadd c_21_76 rfl (n_aload_n c_21_77 rfl (n_getV (bi := 2) c_21_78 sc_44.n rfl rfl rfl (t_44_2 hS19) ?_))))
      intro z22 ez22 f23
      obtain rfl : z22 = 3 := by omega
      refine n_iastoreV hS19 c_21_81 sc_45.n rfl (by omega) (w_45 (by omega) (by omega)) ?_
      intro M24 eM24 hS24
      have g24_0 : M24 44 2 = M19 44 2 := by rw [eM24]; exact nu_a (by omega)
      have g24_1 : M24 44 0 = M19 44 0 := by rw [eM24]; exact nu_a (by omega)
      have g24_2 : M24 44 5 = M19 44 5 := by rw [eM24]; exact nu_a (by omega)
      have g24_3 : M24 44 3 = M19 44 3 := by rw [eM24]; exact nu_a (by omega)
      refine n_aload_n c_21_82 rfl (n_dup2 c_21_83 (n_getV (bi := 2) c_21_84 sc_44.n rfl rfl rfl (t_44_2 hS24) ?_))
      intro z25 ez25 f26
      obtain rfl : z25 = 3 := by omega
      refine n_iconst c_21_87 (n_iadd c_21_88 rfl (n_putV (bi := 2) hS24 c_21_89 sc_44.n rfl rfl rfl rfl (w_44_2 (by omega)) ?_))
      intro M27 eM27 hS27
      have g27_0 : M27 44 0 = M24 44 0 := by rw [eM27]; exact nu_i (by omega)
      have g27_1 : M27 44 5 = M24 44 5 := by rw [eM27]; exact nu_i (by omega)
      have g27_2 : M27 44 3 = M24 44 3 := by rw [eM27]; exact nu_i (by omega)
      have g27_3 : M27 44 2 = (3 + 1) := by rw [eM27]; exact nu_s _ _ _ _
      refine n_iinc (L2 := [some (2, 44), some (2, 4), some (0, (3 - 1)), some (0, (((3 - 1) - 1) + (-1)))]) c_21_92 rfl rfl rfl (n_goto c_21_95 (n_iload_n c_21_44 rfl ?_))
      refine n_if0_lt c_21_45 (by omega) ?_ ?_
      · intro h28
        exfalso; omega
      · intro h29
        refine n_aload_n c_21_48 rfl (n_getR c_21_49 sc_44.n rfl rfl rfl r_44_4 (n_iload_n c_21_52 rfl (n_aload_n c_21_53 rfl (n_getV (bi := 5) c_21_54 sc_44.n rfl rfl rfl (t_44_5 hS27) ?_))))
        intro z30 ez30 f31
        obtain rfl : z30 = 3 := by omega
        refine n_imul c_21_57 rfl (n_iload_n c_21_58 rfl (n_iadd c_21_59 rfl (n_aload_n c_21_60 rfl (n_getV (bi := 2) c_21_61 sc_44.n rfl rfl rfl (t_44_2 hS27) ?_))))
        intro z32 ez32 f33
        obtain rfl : z32 = 4 := by omega
        refine n_iastoreV hS27 c_21_64 sc_45.n rfl (by omega) (w_45 (by omega) (by omega)) ?_
        intro M34 eM34 hS34
        have g34_0 : M34 44 0 = M27 44 0 := by rw [eM34]; exact nu_a (by omega)
        have g34_1 : M34 44 5 = M27 44 5 := by rw [eM34]; exact nu_a (by omega)
        have g34_2 : M34 44 3 = M27 44 3 := by rw [eM34]; exact nu_a (by omega)
        have g34_3 : M34 44 2 = M27 44 2 := by rw [eM34]; exact nu_a (by omega)
        refine n_aload_n c_21_65 rfl (n_getR c_21_66 sc_44.n rfl rfl rfl r_44_4 (n_iload_n c_21_69 rfl (n_aload_n c_21_70 rfl (n_getV (bi := 5) c_21_71 sc_44.n rfl rfl rfl (t_44_5 hS34) ?_))))
        intro z35 ez35 f36
        obtain rfl : z35 = 3 := by omega
        refine n_imul c_21_74 rfl (n_iload_n c_21_75 rfl (n_iadd c_21_76 rfl (n_aload_n c_21_77 rfl (n_getV (bi := 2) c_21_78 sc_44.n rfl rfl rfl (t_44_2 hS34) ?_))))
        intro z37 ez37 f38
        obtain rfl : z37 = 4 := by omega
        refine n_iastoreV hS34 c_21_81 sc_45.n rfl (by omega) (w_45 (by omega) (by omega)) ?_
        intro M39 eM39 hS39
        have g39_0 : M39 44 0 = M34 44 0 := by rw [eM39]; exact nu_a (by omega)
        have g39_1 : M39 44 5 = M34 44 5 := by rw [eM39]; exact nu_a (by omega)
        have g39_2 : M39 44 3 = M34 44 3 := by rw [eM39]; exact nu_a (by omega)
        have g39_3 : M39 44 2 = M34 44 2 := by rw [eM39]; exact nu_a (by omega)
        refine n_aload_n c_21_82 rfl (n_dup2 c_21_83 (n_getV (bi := 2) c_21_84 sc_44.n rfl rfl rfl (t_44_2 hS39) ?_))
        intro z40 ez40 f41
        obtain rfl : z40 = 4 := by omega
        refine n_iconst c_21_87 (n_iadd c_21_88 rfl (n_putV (bi := 2) hS39 c_21_89 sc_44.n rfl rfl rfl rfl (w_44_2 (by omega)) ?_))
        intro M42 eM42 hS42
        have g42_0 : M42 44 0 = M39 44 0 := by rw [eM42]; exact nu_i (by omega)
        have g42_1 : M42 44 5 = M39 44 5 := by rw [eM42]; exact nu_i (by omega)
        have g42_2 : M42 44 3 = M39 44 3 := by rw [eM42]; exact nu_i (by omega)
        have g42_3 : M42 44 2 = (4 + 1) := by rw [eM42]; exact nu_s _ _ _ _
        refine n_iinc (L2 := [some (2, 44), some (2, 4), some (0, (3 - 1)), some (0, ((((3 - 1) - 1) + (-1)) + (-1)))]) c_21_92 rfl rfl rfl (n_goto c_21_95 (n_iload_n c_21_44 rfl ?_))
        refine n_if0_lt c_21_45 (by omega) ?_ ?_
        · intro h43
          refine n_iinc (L2 := [some (2, 44), some (2, 4), some (0, ((3 - 1) + (-1))), some (0, ((((3 - 1) - 1) + (-1)) + (-1)))]) c_21_98 rfl rfl rfl (n_goto c_21_101 (n_iload_n c_21_22 rfl ?_))
          refine n_if0_lt c_21_23 (by omega) ?_ ?_
          · intro h44
            exfalso; omega
          · intro h45
            refine n_aload_n c_21_26 rfl (n_getR c_21_27 sc_44.n rfl rfl rfl r_44_4 (n_iload_n c_21_30 rfl (n_aload_n c_21_31 rfl (n_getV (bi := 5) c_21_32 sc_44.n rfl rfl rfl (t_44_5 hS42) ?_))))
            intro z46 ez46 f47
            obtain rfl : z46 = 3 := by omega
            refine n_imul c_21_35 rfl (n_iload_n c_21_36 rfl (n_iadd c_21_37 rfl (n_iload_n c_21_38 rfl (n_iastoreV hS42 c_21_39 sc_45.n rfl (by omega) (w_45 (by omega) (by omega)) ?_))))
            intro M48 eM48 hS48
            have g48_0 : M48 44 0 = M42 44 0 := by rw [eM48]; exact nu_a (by omega)
            have g48_1 : M48 44 5 = M42 44 5 := by rw [eM48]; exact nu_a (by omega)
            have g48_2 : M48 44 3 = M42 44 3 := by rw [eM48]; exact nu_a (by omega)
            have g48_3 : M48 44 2 = M42 44 2 := by rw [eM48]; exact nu_a (by omega)
            refine n_iload_n c_21_40 rfl (n_iconst c_21_41 (n_isub c_21_42 rfl (n_istore_n (L2 := [some (2, 44), some (2, 4), some (0, ((3 - 1) + (-1))), some (0, (((3 - 1) + (-1)) - 1))]) c_21_43 rfl rfl (n_iload_n c_21_44 rfl ?_))))
            refine n_if0_lt c_21_45 (by omega) ?_ ?_
            · intro h49
              exfalso; omega
            · intro h50
              refine n_aload_n c_21_48 rfl (n_getR c_21_49 sc_44.n rfl rfl rfl r_44_4 (n_iload_n c_21_52 rfl (n_aload_n c_21_53 rfl (n_getV (bi := 5) c_21_54 sc_44.n rfl rfl rfl (t_44_5 hS48) ?_))))
              intro z51 ez51 f52
              obtain rfl : z51 = 3 := by omega
              refine n_imul c_21_57 rfl (n_iload_n c_21_58 rfl (n_iadd c_21_59 rfl (n_aload_n c_21_60 rfl (n_getV (bi := 2) c_21_61 sc_44.n rfl rfl rfl (t_44_2 hS48) ?_))))
              intro z53 ez53 f54
              obtain rfl : z53 = 5 := by omega
              refine n_iastoreV hS48 c_21_64 sc_45.n rfl (by omega) (w_45 (by omega) (by omega)) ?_
              intro M55 eM55 hS55
              have g55_0 : M55 44 0 = M48 44 0 := by rw [eM55]; exact nu_a (by omega)
              have g55_1 : M55 44 5 = M48 44 5 := by rw [eM55]; exact nu_a (by omega)
              have g55_2 : M55 44 3 = M48 44 3 := by rw [eM55]; exact nu_a (by omega)
              have g55_3 : M55 44 2 = M48 44 2 := by rw [eM55]; exact nu_a (by omega)
              refine n_aload_n c_21_65 rfl (n_getR c_21_66 sc_44.n rfl rfl rfl r_44_4 (n_iload_n c_21_69 rfl (n_aload_n c_21_70 rfl (n_getV (bi := 5) c_21_71 sc_44.n rfl rfl rfl (t_44_5 hS55) ?_))))
              intro z56 ez56 f57
              obtain rfl : z56 = 3 := by omega
              refine n_imul c_21_74 rfl (n_iload_n c_21_75 rfl (n_iadd c_21_76 rfl (n_aload_n c_21_77 rfl (n_getV (bi := 2) c_21_78 sc_44.n rfl rfl rfl (t_44_2 hS55) ?_))))
              intro z58 ez58 f59
              obtain rfl : z58 = 5 := by omega
              refine n_iastoreV hS55 c_21_81 sc_45.n rfl (by omega) (w_45 (by omega) (by omega)) ?_
              intro M60 eM60 hS60
              have g60_0 : M60 44 0 = M55 44 0 := by rw [eM60]; exact nu_a (by omega)
              have g60_1 : M60 44 5 = M55 44 5 := by rw [eM60]; exact nu_a (by omega)
              have g60_2 : M60 44 3 = M55 44 3 := by rw [eM60]; exact nu_a (by omega)
              have g60_3 : M60 44 2 = M55 44 2 := by rw [eM60]; exact nu_a (by omega)
              refine n_aload_n c_21_82 rfl (n_dup2 c_21_83 (n_getV (bi := 2) c_21_84 sc_44.n rfl rfl rfl (t_44_2 hS60) ?_))
              intro z61 ez61 f62
              obtain rfl : z61 = 5 := by omega
              refine n_iconst c_21_87 (n_iadd c_21_88 rfl (n_putV (bi := 2) hS60 c_21_89 sc_44.n rfl rfl rfl rfl (w_44_2 (by omega)) ?_))
              intro M63 eM63 hS63
              have g63_0 : M63 44 0 = M60 44 0 := by rw [eM63]; exact nu_i (by omega)
              have g63_1 : M63 44 5 = M60 44 5 := by rw [eM63]; exact nu_i (by omega)
              have g63_2 : M63 44 3 = M60 44 3 := by rw [eM63]; exact nu_i (by omega)
              have g63_3 : M63 44 2 = (5 + 1) := by rw [eM63]; exact nu_s _ _ _ _
              refine n_iinc (L2 := [some (2, 44), some (2, 4), some (0, ((3 - 1) + (-1))), some (0, ((((3 - 1) + (-1)) - 1) + (-1)))]) c_21_92 rfl rfl rfl (n_goto c_21_95 (n_iload_n c_21_44 rfl ?_))
              refine n_if0_lt c_21_45 (by omega) ?_ ?_
              · intro h64
                refine n_iinc (L2 := [some (2, 44), some (2, 4), some (0, (((3 - 1) + (-1)) + (-1))), some (0, ((((3 - 1) + (-1)) - 1) + (-1)))]) c_21_98 rfl rfl rfl (n_goto c_21_101 (n_iload_n c_21_22 rfl ?_))
                refine n_if0_lt c_21_23 (by omega) ?_ ?_
                · intro h65
                  exfalso; omega
                · intro h66
                  refine n_aload_n c_21_26 rfl (n_getR c_21_27 sc_44.n rfl rfl rfl r_44_4 (n_iload_n c_21_30 rfl (n_aload_n c_21_31 rfl (n_getV (bi := 5) c_21_32 sc_44.n rfl rfl rfl (t_44_5 hS63) ?_))))
                  intro z67 ez67 f68
                  obtain rfl : z67 = 3 := by omega
                  refine n_imul c_21_35 rfl (n_iload_n c_21_36 rfl (n_iadd c_21_37 rfl (n_iload_n c_21_38 rfl (n_iastoreV hS63 c_21_39 sc_45.n rfl (by omega) (w_45 (by omega) (by omega)) ?_))))
                  intro M69 eM69 hS69
                  have g69_0 : M69 44 0 = M63 44 0 := by rw [eM69]; exact nu_a (by omega)
                  have g69_1 : M69 44 5 = M63 44 5 := by rw [eM69]; exact nu_a (by omega)
                  have g69_2 : M69 44 3 = M63 44 3 := by rw [eM69]; exact nu_a (by omega)
                  have g69_3 : M69 44 2 = M63 44 2 := by rw [eM69]; exact nu_a (by omega)
                  refine n_iload_n c_21_40 rfl (n_iconst c_21_41 (n_isub c_21_42 rfl (n_istore_n (L2 := [some (2, 44), some (2, 4), some (0, (((3 - 1) + (-1)) + (-1))), some (0, ((((3 - 1) + (-1)) + (-1)) - 1))]) c_21_43 rfl rfl (n_iload_n c_21_44 rfl ?_))))
                  refine n_if0_lt c_21_45 (by omega) ?_ ?_
                  · intro h70
                    refine n_iinc (L2 := [some (2, 44), some (2, 4), some (0, ((((3 - 1) + (-1)) + (-1)) + (-1))), some (0, ((((3 - 1) + (-1)) + (-1)) - 1))]) c_21_98 rfl rfl rfl (n_goto c_21_101 (n_iload_n c_21_22 rfl ?_))
                    refine n_if0_lt c_21_23 (by omega) ?_ ?_
                    · intro h71
                      refine n_aload_n c_21_104 rfl (n_aload_n c_21_105 rfl (n_v1V c_21_106 rfl sc_44.n rfl rfl rfl rfl (repeat_3  hS69 ) ?_))
                      intro  M72 hP73
                      have hS72 := hP73
                      exact n_rV c_21_109 rfl hS72
                    · intro h74
                      exfalso; omega
                  · intro h75
                    exfalso; omega
              · intro h76
                exfalso; omega
        · intro h77
          exfalso; omega

set_option maxHeartbeats 4000000 in
theorem beMost_3_c {xs : List Int32} {e : Nat} {ac : Int} {M0 M : nM} (hS : Sf 3 ac M0 M)  : ∀ nn : Nat, (∀ (x2 : Int) (M : nM), Sf 3 ac M0 M → (-1 ≤ x2 ∧ x2 ≤ 26) → (M 44 2 ≤ 9) → (21 ≤ x2 → M 44 2 ≤ 3) → (19 ≤ x2 → M 44 2 ≤ 4) → (15 ≤ x2 → M 44 2 ≤ 5) → (11 ≤ x2 → M 44 2 ≤ 6) → (7 ≤ x2 → M 44 2 ≤ 7) → (5 ≤ x2 → M 44 2 ≤ 8) → (x2 - (-1)) * 1 + 1 < (nn : Int) → nW xs (e + 1) 22 17 [some (2, 44), some (2, 4), some (0, x2), none, none, none] [] M (nPV fun M1 => Sf 3 ac M0 M1)) := by
  have hd : (3 : Int) = 2 ∨ (3 : Int) = 3 := by decide
  have hac := hS.2.2.2.2
  intro nn
  induction nn with
  | zero => intros; omega
  | succ nn ih =>
    intro x2 M hS k2 v0 v1 v2 v3 v4 v5 v6 hnn
    rcases (show x2 = (-1) ∨ x2 = 0 ∨ x2 = 1 ∨ x2 = 2 ∨ x2 = 3 ∨ x2 = 4 ∨ x2 = 5 ∨ x2 = 6 ∨ x2 = 7 ∨ x2 = 8 ∨ x2 = 9 ∨ x2 = 10 ∨ x2 = 11 ∨ x2 = 12 ∨ x2 = 13 ∨ x2 = 14 ∨ x2 = 15 ∨ x2 = 16 ∨ x2 = 17 ∨ x2 = 18 ∨ x2 = 19 ∨ x2 = 20 ∨ x2 = 21 ∨ x2 = 22 ∨ x2 = 23 ∨ x2 = 24 ∨ x2 = 25 ∨ x2 = 26 by omega) with rfl | rfl | rfl | rfl | rfl | rfl | rfl | rfl | rfl | rfl | rfl | rfl | rfl | rfl | rfl | rfl | rfl | rfl | rfl | rfl | rfl | rfl | rfl | rfl | rfl | rfl | rfl | rfl
    · skip
      refine n_iload_n c_22_17 rfl ?_
      refine n_if0_lt c_22_18 (by omega) ?_ ?_
      · intro h1
        exact n_rV c_22_107 rfl hS
      · intro h2
        exfalso; omega
    · skip
      refine n_iload_n c_22_17 rfl ?_
      refine n_if0_lt c_22_18 (by omega) ?_ ?_
      · intro h3
        exfalso; omega
      · intro h4
        refine n_aload_n c_22_21 rfl (n_getR c_22_22 sc_4.n rfl rfl rfl r_4_2 (n_iload_n c_22_25 rfl (n_ialoadV c_22_26 sc_5.n rfl rfl rfl (by omega) (t_5k (z := 0) hS (by omega) (by omega) (by omega)) ?_)))
        intro z5 ez5 f6
        refine n_istore_n (L2 := [some (2, 44), some (2, 4), some (0, 0), some (0, z5), none, none]) c_22_27 rfl rfl (n_aload_n c_22_28 rfl (n_getR c_22_29 sc_4.n rfl rfl rfl r_4_3 (n_iload_n c_22_32 rfl (n_ialoadV c_22_33 sc_6.n rfl rfl rfl (by omega) (t_6k (z := 0) hS (by omega) (by omega) (by omega)) ?_))))
        intro z7 ez7 f8
        refine n_istore (L2 := [some (2, 44), some (2, 4), some (0, 0), some (0, z5), some (0, z7), none]) c_22_34 rfl rfl (n_aload_n c_22_36 rfl (n_getR c_22_37 sc_4.n rfl rfl rfl r_4_4 (n_iload_n c_22_40 rfl (n_ialoadV c_22_41 sc_7.n rfl rfl rfl (by omega) (t_7k (z := 0) hS (by omega) (by omega) (by omega)) ?_))))
        intro z9 ez9 f10
        refine n_istore (L2 := [some (2, 44), some (2, 4), some (0, 0), some (0, z5), some (0, z7), some (0, z9)]) c_22_42 rfl rfl (n_iload_n c_22_44 rfl (n_iload c_22_45 rfl ?_))
        refine n_if2_eq c_22_47 (by omega) (by omega) ?_ ?_
        · intro h11
          refine n_aload_n c_22_56 rfl (n_getR c_22_57 sc_44.n rfl rfl rfl r_44_4 (n_iload_n c_22_60 rfl (n_iload_n c_22_61 rfl (n_iastoreV hS c_22_62 sc_45.n rfl (by omega) (w_45 (by omega) (by omega)) ?_))))
          intro M12 eM12 hS12
          have g12_0 : M12 44 2 = M 44 2 := by rw [eM12]; exact nu_a (by omega)
          refine n_goto c_22_63 (n_iinc (L2 := [some (2, 44), some (2, 4), some (0, (0 + (-1))), some (0, z5), some (0, z7), some (0, z9)]) c_22_101 rfl rfl rfl (n_goto c_22_104 (n_fg (le_s (le_s (le_s (le_n (le_n (le_n le_0)))))) ?_)))
          exact ih _ M12 hS12 (by omega) (by omega) (by omega) (by omega) (by omega) (by omega) (by omega) (by omega) (by omega)
        · intro h13
          exfalso; omega
    · skip
      refine n_iload_n c_22_17 rfl ?_
      refine n_if0_lt c_22_18 (by omega) ?_ ?_
      · intro h14
        exfalso; omega
      · intro h15
        refine n_aload_n c_22_21 rfl (n_getR c_22_22 sc_4.n rfl rfl rfl r_4_2 (n_iload_n c_22_25 rfl (n_ialoadV c_22_26 sc_5.n rfl rfl rfl (by omega) (t_5k (z := 0) hS (by omega) (by omega) (by omega)) ?_)))
        intro z16 ez16 f17
        refine n_istore_n (L2 := [some (2, 44), some (2, 4), some (0, 1), some (0, z16), none, none]) c_22_27 rfl rfl (n_aload_n c_22_28 rfl (n_getR c_22_29 sc_4.n rfl rfl rfl r_4_3 (n_iload_n c_22_32 rfl (n_ialoadV c_22_33 sc_6.n rfl rfl rfl (by omega) (t_6k (z := 0) hS (by omega) (by omega) (by omega)) ?_))))
        intro z18 ez18 f19
        refine n_istore (L2 := [some (2, 44), some (2, 4), some (0, 1), some (0, z16), some (0, z18), none]) c_22_34 rfl rfl (n_aload_n c_22_36 rfl (n_getR c_22_37 sc_4.n rfl rfl rfl r_4_4 (n_iload_n c_22_40 rfl (n_ialoadV c_22_41 sc_7.n rfl rfl rfl (by omega) (t_7k (z := 1) hS (by omega) (by omega) (by omega)) ?_))))
        intro z20 ez20 f21
        refine n_istore (L2 := [some (2, 44), some (2, 4), some (0, 1), some (0, z16), some (0, z18), some (0, z20)]) c_22_42 rfl rfl (n_iload_n c_22_44 rfl (n_iload c_22_45 rfl ?_))
        refine n_if2_eq c_22_47 (by omega) (by omega) ?_ ?_
        · intro h22
          refine n_aload_n c_22_56 rfl (n_getR c_22_57 sc_44.n rfl rfl rfl r_44_4 (n_iload_n c_22_60 rfl (n_iload_n c_22_61 rfl (n_iastoreV hS c_22_62 sc_45.n rfl (by omega) (w_45 (by omega) (by omega)) ?_))))
          intro M23 eM23 hS23
          have g23_0 : M23 44 2 = M 44 2 := by rw [eM23]; exact nu_a (by omega)
          refine n_goto c_22_63 (n_iinc (L2 := [some (2, 44), some (2, 4), some (0, (1 + (-1))), some (0, z16), some (0, z18), some (0, z20)]) c_22_101 rfl rfl rfl (n_goto c_22_104 (n_fg (le_s (le_s (le_s (le_n (le_n (le_n le_0)))))) ?_)))
          exact ih _ M23 hS23 (by omega) (by omega) (by omega) (by omega) (by omega) (by omega) (by omega) (by omega) (by omega)
        · intro h24
          exfalso; omega
    · skip
      refine n_iload_n c_22_17 rfl ?_
      refine n_if0_lt c_22_18 (by omega) ?_ ?_
      · intro h25
        exfalso; omega
      · intro h26
        refine n_aload_n c_22_21 rfl (n_getR c_22_22 sc_4.n rfl rfl rfl r_4_2 (n_iload_n c_22_25 rfl (n_ialoadV c_22_26 sc_5.n rfl rfl rfl (by omega) (t_5k (z := 0) hS (by omega) (by omega) (by omega)) ?_)))
        intro z27 ez27 f28
        refine n_istore_n (L2 := [some (2, 44), some (2, 4), some (0, 2), some (0, z27), none, none]) c_22_27 rfl rfl (n_aload_n c_22_28 rfl (n_getR c_22_29 sc_4.n rfl rfl rfl r_4_3 (n_iload_n c_22_32 rfl (n_ialoadV c_22_33 sc_6.n rfl rfl rfl (by omega) (t_6k (z := 0) hS (by omega) (by omega) (by omega)) ?_))))
        intro z29 ez29 f30
        refine n_istore (L2 := [some (2, 44), some (2, 4), some (0, 2), some (0, z27), some (0, z29), none]) c_22_34 rfl rfl (n_aload_n c_22_36 rfl (n_getR c_22_37 sc_4.n rfl rfl rfl r_4_4 (n_iload_n c_22_40 rfl (n_ialoadV c_22_41 sc_7.n rfl rfl rfl (by omega) (t_7k (z := 2) hS (by omega) (by omega) (by omega)) ?_))))
        intro z31 ez31 f32
        refine n_istore (L2 := [some (2, 44), some (2, 4), some (0, 2), some (0, z27), some (0, z29), some (0, z31)]) c_22_42 rfl rfl (n_iload_n c_22_44 rfl (n_iload c_22_45 rfl ?_))
        refine n_if2_eq c_22_47 (by omega) (by omega) ?_ ?_
        · intro h33
          refine n_aload_n c_22_56 rfl (n_getR c_22_57 sc_44.n rfl rfl rfl r_44_4 (n_iload_n c_22_60 rfl (n_iload_n c_22_61 rfl (n_iastoreV hS c_22_62 sc_45.n rfl (by omega) (w_45 (by omega) (by omega)) ?_))))
          intro M34 eM34 hS34
          have g34_0 : M34 44 2 = M 44 2 := by rw [eM34]; exact nu_a (by omega)
          refine n_goto c_22_63 (n_iinc (L2 := [some (2, 44), some (2, 4), some (0, (2 + (-1))), some (0, z27), some (0, z29), some (0, z31)]) c_22_101 rfl rfl rfl (n_goto c_22_104 (n_fg (le_s (le_s (le_s (le_n (le_n (le_n le_0)))))) ?_)))
          exact ih _ M34 hS34 (by omega) (by omega) (by omega) (by omega) (by omega) (by omega) (by omega) (by omega) (by omega)
        · intro h35
          exfalso; omega
    · skip
      refine n_iload_n c_22_17 rfl ?_
      refine n_if0_lt c_22_18 (by omega) ?_ ?_
      · intro h36
        exfalso; omega
      · intro h37
        refine n_aload_n c_22_21 rfl (n_getR c_22_22 sc_4.n rfl rfl rfl r_4_2 (n_iload_n c_22_25 rfl (n_ialoadV c_22_26 sc_5.n rfl rfl rfl (by omega) (t_5k (z := 0) hS (by omega) (by omega) (by omega)) ?_)))
        intro z38 ez38 f39
        refine n_istore_n (L2 := [some (2, 44), some (2, 4), some (0, 3), some (0, z38), none, none]) c_22_27 rfl rfl (n_aload_n c_22_28 rfl (n_getR c_22_29 sc_4.n rfl rfl rfl r_4_3 (n_iload_n c_22_32 rfl (n_ialoadV c_22_33 sc_6.n rfl rfl rfl (by omega) (t_6k (z := 1) hS (by omega) (by omega) (by omega)) ?_))))
        intro z40 ez40 f41
        refine n_istore (L2 := [some (2, 44), some (2, 4), some (0, 3), some (0, z38), some (0, z40), none]) c_22_34 rfl rfl (n_aload_n c_22_36 rfl (n_getR c_22_37 sc_4.n rfl rfl rfl r_4_4 (n_iload_n c_22_40 rfl (n_ialoadV c_22_41 sc_7.n rfl rfl rfl (by omega) (t_7k (z := 0) hS (by omega) (by omega) (by omega)) ?_))))
        intro z42 ez42 f43
        refine n_istore (L2 := [some (2, 44), some (2, 4), some (0, 3), some (0, z38), some (0, z40), some (0, z42)]) c_22_42 rfl rfl (n_iload_n c_22_44 rfl (n_iload c_22_45 rfl ?_))
        refine n_if2_eq c_22_47 (by omega) (by omega) ?_ ?_
        · intro h44
          exfalso; omega
        · intro h45
          refine n_iload_n c_22_50 rfl (n_iload c_22_51 rfl ?_)
          refine n_if2_ne c_22_53 (by omega) (by omega) ?_ ?_
          · intro h46
            exfalso; omega
          · intro h47
            refine n_aload_n c_22_56 rfl (n_getR c_22_57 sc_44.n rfl rfl rfl r_44_4 (n_iload_n c_22_60 rfl (n_iload_n c_22_61 rfl (n_iastoreV hS c_22_62 sc_45.n rfl (by omega) (w_45 (by omega) (by omega)) ?_))))
            intro M48 eM48 hS48
            have g48_0 : M48 44 2 = M 44 2 := by rw [eM48]; exact nu_a (by omega)
            refine n_goto c_22_63 (n_iinc (L2 := [some (2, 44), some (2, 4), some (0, (3 + (-1))), some (0, z38), some (0, z40), some (0, z42)]) c_22_101 rfl rfl rfl (n_goto c_22_104 (n_fg (le_s (le_s (le_s (le_n (le_n (le_n le_0)))))) ?_)))
            exact ih _ M48 hS48 (by omega) (by omega) (by omega) (by omega) (by omega) (by omega) (by omega) (by omega) (by omega)
    · skip
      refine n_iload_n c_22_17 rfl ?_
      refine n_if0_lt c_22_18 (by omega) ?_ ?_
      · intro h49
        exfalso; omega
      · intro h50
        refine n_aload_n c_22_21 rfl (n_getR c_22_22 sc_4.n rfl rfl rfl r_4_2 (n_iload_n c_22_25 rfl (n_ialoadV c_22_26 sc_5.n rfl rfl rfl (by omega) (t_5k (z := 0) hS (by omega) (by omega) (by omega)) ?_)))
        intro z51 ez51 f52
        refine n_istore_n (L2 := [some (2, 44), some (2, 4), some (0, 4), some (0, z51), none, none]) c_22_27 rfl rfl (n_aload_n c_22_28 rfl (n_getR c_22_29 sc_4.n rfl rfl rfl r_4_3 (n_iload_n c_22_32 rfl (n_ialoadV c_22_33 sc_6.n rfl rfl rfl (by omega) (t_6k (z := 1) hS (by omega) (by omega) (by omega)) ?_))))
        intro z53 ez53 f54
        refine n_istore (L2 := [some (2, 44), some (2, 4), some (0, 4), some (0, z51), some (0, z53), none]) c_22_34 rfl rfl (n_aload_n c_22_36 rfl (n_getR c_22_37 sc_4.n rfl rfl rfl r_4_4 (n_iload_n c_22_40 rfl (n_ialoadV c_22_41 sc_7.n rfl rfl rfl (by omega) (t_7k (z := 1) hS (by omega) (by omega) (by omega)) ?_))))
        intro z55 ez55 f56
        refine n_istore (L2 := [some (2, 44), some (2, 4), some (0, 4), some (0, z51), some (0, z53), some (0, z55)]) c_22_42 rfl rfl (n_iload_n c_22_44 rfl (n_iload c_22_45 rfl ?_))
        refine n_if2_eq c_22_47 (by omega) (by omega) ?_ ?_
        · intro h57
          exfalso; omega
        · intro h58
          refine n_iload_n c_22_50 rfl (n_iload c_22_51 rfl ?_)
          refine n_if2_ne c_22_53 (by omega) (by omega) ?_ ?_
          · intro h59
            refine n_iload c_22_66 rfl (n_iload c_22_68 rfl ?_)
            refine n_if2_ne c_22_70 (by omega) (by omega) ?_ ?_
            · intro h60
              exfalso; omega
            · intro h61
              refine n_aload_n c_22_73 rfl (n_getR c_22_74 sc_44.n rfl rfl rfl r_44_4 (n_iload_n c_22_77 rfl (n_iload c_22_78 rfl (n_iastoreV hS c_22_80 sc_45.n rfl (by omega) (w_45 (by omega) (by omega)) ?_))))
              intro M62 eM62 hS62
              have g62_0 : M62 44 2 = M 44 2 := by rw [eM62]; exact nu_a (by omega)
              refine n_goto c_22_81 (n_iinc (L2 := [some (2, 44), some (2, 4), some (0, (4 + (-1))), some (0, z51), some (0, z53), some (0, z55)]) c_22_101 rfl rfl rfl (n_goto c_22_104 (n_fg (le_s (le_s (le_s (le_n (le_n (le_n le_0)))))) ?_)))
              exact ih _ M62 hS62 (by omega) (by omega) (by omega) (by omega) (by omega) (by omega) (by omega) (by omega) (by omega)
          · intro h63
            exfalso; omega
    · skip
      refine n_iload_n c_22_17 rfl ?_
      refine n_if0_lt c_22_18 (by omega) ?_ ?_
      · intro h64
        exfalso; omega
      · intro h65
        refine n_aload_n c_22_21 rfl (n_getR c_22_22 sc_4.n rfl rfl rfl r_4_2 (n_iload_n c_22_25 rfl (n_ialoadV c_22_26 sc_5.n rfl rfl rfl (by omega) (t_5k (z := 0) hS (by omega) (by omega) (by omega)) ?_)))
        intro z66 ez66 f67
        refine n_istore_n (L2 := [some (2, 44), some (2, 4), some (0, 5), some (0, z66), none, none]) c_22_27 rfl rfl (n_aload_n c_22_28 rfl (n_getR c_22_29 sc_4.n rfl rfl rfl r_4_3 (n_iload_n c_22_32 rfl (n_ialoadV c_22_33 sc_6.n rfl rfl rfl (by omega) (t_6k (z := 1) hS (by omega) (by omega) (by omega)) ?_))))
        intro z68 ez68 f69
        refine n_istore (L2 := [some (2, 44), some (2, 4), some (0, 5), some (0, z66), some (0, z68), none]) c_22_34 rfl rfl (n_aload_n c_22_36 rfl (n_getR c_22_37 sc_4.n rfl rfl rfl r_4_4 (n_iload_n c_22_40 rfl (n_ialoadV c_22_41 sc_7.n rfl rfl rfl (by omega) (t_7k (z := 2) hS (by omega) (by omega) (by omega)) ?_))))
        intro z70 ez70 f71
        refine n_istore (L2 := [some (2, 44), some (2, 4), some (0, 5), some (0, z66), some (0, z68), some (0, z70)]) c_22_42 rfl rfl (n_iload_n c_22_44 rfl (n_iload c_22_45 rfl ?_))
        refine n_if2_eq c_22_47 (by omega) (by omega) ?_ ?_
        · intro h72
          exfalso; omega
        · intro h73
          refine n_iload_n c_22_50 rfl (n_iload c_22_51 rfl ?_)
          refine n_if2_ne c_22_53 (by omega) (by omega) ?_ ?_
          · intro h74
            refine n_iload c_22_66 rfl (n_iload c_22_68 rfl ?_)
            refine n_if2_ne c_22_70 (by omega) (by omega) ?_ ?_
            · intro h75
              refine n_aload_n c_22_84 rfl (n_getR c_22_85 sc_44.n rfl rfl rfl r_44_4 (n_iload_n c_22_88 rfl (n_aload_n c_22_89 rfl (n_dup2 c_22_90 (n_getV (bi := 2) c_22_91 sc_44.n rfl rfl rfl (t_44_2 hS) ?_)))))
              intro z76 ez76 f77
              refine n_dup_x102 c_22_94 (n_iconst c_22_95 (n_iadd c_22_96 rfl (n_putV (bi := 2) hS c_22_97 sc_44.n rfl rfl rfl rfl (w_44_2 (by omega)) ?_)))
              intro M78 eM78 hS78
              have g78_0 : M78 44 2 = (z76 + 1) := by rw [eM78]; exact nu_s _ _ _ _
              refine n_iastoreV hS78 c_22_100 sc_45.n rfl (by omega) (w_45 (by omega) (by omega)) ?_
              intro M79 eM79 hS79
              have g79_0 : M79 44 2 = M78 44 2 := by rw [eM79]; exact nu_a (by omega)
              refine n_iinc (L2 := [some (2, 44), some (2, 4), some (0, (5 + (-1))), some (0, z66), some (0, z68), some (0, z70)]) c_22_101 rfl rfl rfl (n_goto c_22_104 (n_fg (le_s (le_s (le_s (le_n (le_n (le_n le_0)))))) ?_))
              exact ih _ M79 hS79 (by omega) (by omega) (by omega) (by omega) (by omega) (by omega) (by omega) (by omega) (by omega)
            · intro h80
              exfalso; omega
          · intro h81
            exfalso; omega
    · skip
      refine n_iload_n c_22_17 rfl ?_
      refine n_if0_lt c_22_18 (by omega) ?_ ?_
      · intro h82
        exfalso; omega
      · intro h83
        refine n_aload_n c_22_21 rfl (n_getR c_22_22 sc_4.n rfl rfl rfl r_4_2 (n_iload_n c_22_25 rfl (n_ialoadV c_22_26 sc_5.n rfl rfl rfl (by omega) (t_5k (z := 0) hS (by omega) (by omega) (by omega)) ?_)))
        intro z84 ez84 f85
        refine n_istore_n (L2 := [some (2, 44), some (2, 4), some (0, 6), some (0, z84), none, none]) c_22_27 rfl rfl (n_aload_n c_22_28 rfl (n_getR c_22_29 sc_4.n rfl rfl rfl r_4_3 (n_iload_n c_22_32 rfl (n_ialoadV c_22_33 sc_6.n rfl rfl rfl (by omega) (t_6k (z := 2) hS (by omega) (by omega) (by omega)) ?_))))
        intro z86 ez86 f87
        refine n_istore (L2 := [some (2, 44), some (2, 4), some (0, 6), some (0, z84), some (0, z86), none]) c_22_34 rfl rfl (n_aload_n c_22_36 rfl (n_getR c_22_37 sc_4.n rfl rfl rfl r_4_4 (n_iload_n c_22_40 rfl (n_ialoadV c_22_41 sc_7.n rfl rfl rfl (by omega) (t_7k (z := 0) hS (by omega) (by omega) (by omega)) ?_))))
        intro z88 ez88 f89
        refine n_istore (L2 := [some (2, 44), some (2, 4), some (0, 6), some (0, z84), some (0, z86), some (0, z88)]) c_22_42 rfl rfl (n_iload_n c_22_44 rfl (n_iload c_22_45 rfl ?_))
        refine n_if2_eq c_22_47 (by omega) (by omega) ?_ ?_
        · intro h90
          exfalso; omega
        · intro h91
          refine n_iload_n c_22_50 rfl (n_iload c_22_51 rfl ?_)
          refine n_if2_ne c_22_53 (by omega) (by omega) ?_ ?_
          · intro h92
            exfalso; omega
          · intro h93
            refine n_aload_n c_22_56 rfl (n_getR c_22_57 sc_44.n rfl rfl rfl r_44_4 (n_iload_n c_22_60 rfl (n_iload_n c_22_61 rfl (n_iastoreV hS c_22_62 sc_45.n rfl (by omega) (w_45 (by omega) (by omega)) ?_))))
            intro M94 eM94 hS94
            have g94_0 : M94 44 2 = M 44 2 := by rw [eM94]; exact nu_a (by omega)
            refine n_goto c_22_63 (n_iinc (L2 := [some (2, 44), some (2, 4), some (0, (6 + (-1))), some (0, z84), some (0, z86), some (0, z88)]) c_22_101 rfl rfl rfl (n_goto c_22_104 (n_fg (le_s (le_s (le_s (le_n (le_n (le_n le_0)))))) ?_)))
            exact ih _ M94 hS94 (by omega) (by omega) (by omega) (by omega) (by omega) (by omega) (by omega) (by omega) (by omega)
    · skip
      refine n_iload_n c_22_17 rfl ?_
      refine n_if0_lt c_22_18 (by omega) ?_ ?_
      · intro h95
        exfalso; omega
      · intro h96
        refine n_aload_n c_22_21 rfl (n_getR c_22_22 sc_4.n rfl rfl rfl r_4_2 (n_iload_n c_22_25 rfl (n_ialoadV c_22_26 sc_5.n rfl rfl rfl (by omega) (t_5k (z := 0) hS (by omega) (by omega) (by omega)) ?_)))
        intro z97 ez97 f98
        refine n_istore_n (L2 := [some (2, 44), some (2, 4), some (0, 7), some (0, z97), none, none]) c_22_27 rfl rfl (n_aload_n c_22_28 rfl (n_getR c_22_29 sc_4.n rfl rfl rfl r_4_3 (n_iload_n c_22_32 rfl (n_ialoadV c_22_33 sc_6.n rfl rfl rfl (by omega) (t_6k (z := 2) hS (by omega) (by omega) (by omega)) ?_))))
        intro z99 ez99 f100
        refine n_istore (L2 := [some (2, 44), some (2, 4), some (0, 7), some (0, z97), some (0, z99), none]) c_22_34 rfl rfl (n_aload_n c_22_36 rfl (n_getR c_22_37 sc_4.n rfl rfl rfl r_4_4 (n_iload_n c_22_40 rfl (n_ialoadV c_22_41 sc_7.n rfl rfl rfl (by omega) (t_7k (z := 1) hS (by omega) (by omega) (by omega)) ?_))))
        intro z101 ez101 f102
        refine n_istore (L2 := [some (2, 44), some (2, 4), some (0, 7), some (0, z97), some (0, z99), some (0, z101)]) c_22_42 rfl rfl (n_iload_n c_22_44 rfl (n_iload c_22_45 rfl ?_))
        refine n_if2_eq c_22_47 (by omega) (by omega) ?_ ?_
        · intro h103
          exfalso; omega
        · intro h104
          refine n_iload_n c_22_50 rfl (n_iload c_22_51 rfl ?_)
          refine n_if2_ne c_22_53 (by omega) (by omega) ?_ ?_
          · intro h105
            refine n_iload c_22_66 rfl (n_iload c_22_68 rfl ?_)
            refine n_if2_ne c_22_70 (by omega) (by omega) ?_ ?_
            · intro h106
              refine n_aload_n c_22_84 rfl (n_getR c_22_85 sc_44.n rfl rfl rfl r_44_4 (n_iload_n c_22_88 rfl (n_aload_n c_22_89 rfl (n_dup2 c_22_90 (n_getV (bi := 2) c_22_91 sc_44.n rfl rfl rfl (t_44_2 hS) ?_)))))
              intro z107 ez107 f108
              refine n_dup_x102 c_22_94 (n_iconst c_22_95 (n_iadd c_22_96 rfl (n_putV (bi := 2) hS c_22_97 sc_44.n rfl rfl rfl rfl (w_44_2 (by omega)) ?_)))
              intro M109 eM109 hS109
              have g109_0 : M109 44 2 = (z107 + 1) := by rw [eM109]; exact nu_s _ _ _ _
              refine n_iastoreV hS109 c_22_100 sc_45.n rfl (by omega) (w_45 (by omega) (by omega)) ?_
              intro M110 eM110 hS110
              have g110_0 : M110 44 2 = M109 44 2 := by rw [eM110]; exact nu_a (by omega)
              refine n_iinc (L2 := [some (2, 44), some (2, 4), some (0, (7 + (-1))), some (0, z97), some (0, z99), some (0, z101)]) c_22_101 rfl rfl rfl (n_goto c_22_104 (n_fg (le_s (le_s (le_s (le_n (le_n (le_n le_0)))))) ?_))
              exact ih _ M110 hS110 (by omega) (by omega) (by omega) (by omega) (by omega) (by omega) (by omega) (by omega) (by omega)
            · intro h111
              exfalso; omega
          · intro h112
            exfalso; omega
    · skip
      refine n_iload_n c_22_17 rfl ?_
      refine n_if0_lt c_22_18 (by omega) ?_ ?_
      · intro h113
        exfalso; omega
      · intro h114
        refine n_aload_n c_22_21 rfl (n_getR c_22_22 sc_4.n rfl rfl rfl r_4_2 (n_iload_n c_22_25 rfl (n_ialoadV c_22_26 sc_5.n rfl rfl rfl (by omega) (t_5k (z := 0) hS (by omega) (by omega) (by omega)) ?_)))
        intro z115 ez115 f116
        refine n_istore_n (L2 := [some (2, 44), some (2, 4), some (0, 8), some (0, z115), none, none]) c_22_27 rfl rfl (n_aload_n c_22_28 rfl (n_getR c_22_29 sc_4.n rfl rfl rfl r_4_3 (n_iload_n c_22_32 rfl (n_ialoadV c_22_33 sc_6.n rfl rfl rfl (by omega) (t_6k (z := 2) hS (by omega) (by omega) (by omega)) ?_))))
        intro z117 ez117 f118
        refine n_istore (L2 := [some (2, 44), some (2, 4), some (0, 8), some (0, z115), some (0, z117), none]) c_22_34 rfl rfl (n_aload_n c_22_36 rfl (n_getR c_22_37 sc_4.n rfl rfl rfl r_4_4 (n_iload_n c_22_40 rfl (n_ialoadV c_22_41 sc_7.n rfl rfl rfl (by omega) (t_7k (z := 2) hS (by omega) (by omega) (by omega)) ?_))))
        intro z119 ez119 f120
        refine n_istore (L2 := [some (2, 44), some (2, 4), some (0, 8), some (0, z115), some (0, z117), some (0, z119)]) c_22_42 rfl rfl (n_iload_n c_22_44 rfl (n_iload c_22_45 rfl ?_))
        refine n_if2_eq c_22_47 (by omega) (by omega) ?_ ?_
        · intro h121
          exfalso; omega
        · intro h122
          refine n_iload_n c_22_50 rfl (n_iload c_22_51 rfl ?_)
          refine n_if2_ne c_22_53 (by omega) (by omega) ?_ ?_
          · intro h123
            refine n_iload c_22_66 rfl (n_iload c_22_68 rfl ?_)
            refine n_if2_ne c_22_70 (by omega) (by omega) ?_ ?_
            · intro h124
              exfalso; omega
            · intro h125
              refine n_aload_n c_22_73 rfl (n_getR c_22_74 sc_44.n rfl rfl rfl r_44_4 (n_iload_n c_22_77 rfl (n_iload c_22_78 rfl (n_iastoreV hS c_22_80 sc_45.n rfl (by omega) (w_45 (by omega) (by omega)) ?_))))
              intro M126 eM126 hS126
              have g126_0 : M126 44 2 = M 44 2 := by rw [eM126]; exact nu_a (by omega)
              refine n_goto c_22_81 (n_iinc (L2 := [some (2, 44), some (2, 4), some (0, (8 + (-1))), some (0, z115), some (0, z117), some (0, z119)]) c_22_101 rfl rfl rfl (n_goto c_22_104 (n_fg (le_s (le_s (le_s (le_n (le_n (le_n le_0)))))) ?_)))
              exact ih _ M126 hS126 (by omega) (by omega) (by omega) (by omega) (by omega) (by omega) (by omega) (by omega) (by omega)
          · intro h127
            exfalso; omega
    · skip
      refine n_iload_n c_22_17 rfl ?_
      refine n_if0_lt c_22_18 (by omega) ?_ ?_
      · intro h128
        exfalso; omega
      · intro h129
        refine n_aload_n c_22_21 rfl (n_getR c_22_22 sc_4.n rfl rfl rfl r_4_2 (n_iload_n c_22_25 rfl (n_ialoadV c_22_26 sc_5.n rfl rfl rfl (by omega) (t_5k (z := 1) hS (by omega) (by omega) (by omega)) ?_)))
        intro z130 ez130 f131
        refine n_istore_n (L2 := [some (2, 44), some (2, 4), some (0, 9), some (0, z130), none, none]) c_22_27 rfl rfl (n_aload_n c_22_28 rfl (n_getR c_22_29 sc_4.n rfl rfl rfl r_4_3 (n_iload_n c_22_32 rfl (n_ialoadV c_22_33 sc_6.n rfl rfl rfl (by omega) (t_6k (z := 0) hS (by omega) (by omega) (by omega)) ?_))))
        intro z132 ez132 f133
        refine n_istore (L2 := [some (2, 44), some (2, 4), some (0, 9), some (0, z130), some (0, z132), none]) c_22_34 rfl rfl (n_aload_n c_22_36 rfl (n_getR c_22_37 sc_4.n rfl rfl rfl r_4_4 (n_iload_n c_22_40 rfl (n_ialoadV c_22_41 sc_7.n rfl rfl rfl (by omega) (t_7k (z := 0) hS (by omega) (by omega) (by omega)) ?_))))
        intro z134 ez134 f135
        refine n_istore (L2 := [some (2, 44), some (2, 4), some (0, 9), some (0, z130), some (0, z132), some (0, z134)]) c_22_42 rfl rfl (n_iload_n c_22_44 rfl (n_iload c_22_45 rfl ?_))
        refine n_if2_eq c_22_47 (by omega) (by omega) ?_ ?_
        · intro h136
          exfalso; omega
        · intro h137
          refine n_iload_n c_22_50 rfl (n_iload c_22_51 rfl ?_)
          refine n_if2_ne c_22_53 (by omega) (by omega) ?_ ?_
          · intro h138
            refine n_iload c_22_66 rfl (n_iload c_22_68 rfl ?_)
            refine n_if2_ne c_22_70 (by omega) (by omega) ?_ ?_
            · intro h139
              exfalso; omega
            · intro h140
              refine n_aload_n c_22_73 rfl (n_getR c_22_74 sc_44.n rfl rfl rfl r_44_4 (n_iload_n c_22_77 rfl (n_iload c_22_78 rfl (n_iastoreV hS c_22_80 sc_45.n rfl (by omega) (w_45 (by omega) (by omega)) ?_))))
              intro M141 eM141 hS141
              have g141_0 : M141 44 2 = M 44 2 := by rw [eM141]; exact nu_a (by omega)
              refine n_goto c_22_81 (n_iinc (L2 := [some (2, 44), some (2, 4), some (0, (9 + (-1))), some (0, z130), some (0, z132), some (0, z134)]) c_22_101 rfl rfl rfl (n_goto c_22_104 (n_fg (le_s (le_s (le_s (le_n (le_n (le_n le_0)))))) ?_)))
              exact ih _ M141 hS141 (by omega) (by omega) (by omega) (by omega) (by omega) (by omega) (by omega) (by omega) (by omega)
          · intro h142
            exfalso; omega
    · skip
      refine n_iload_n c_22_17 rfl ?_
      refine n_if0_lt c_22_18 (by omega) ?_ ?_
      · intro h143
        exfalso; omega
      · intro h144
        refine n_aload_n c_22_21 rfl (n_getR c_22_22 sc_4.n rfl rfl rfl r_4_2 (n_iload_n c_22_25 rfl (n_ialoadV c_22_26 sc_5.n rfl rfl rfl (by omega) (t_5k (z := 1) hS (by omega) (by omega) (by omega)) ?_)))
        intro z145 ez145 f146
        refine n_istore_n (L2 := [some (2, 44), some (2, 4), some (0, 10), some (0, z145), none, none]) c_22_27 rfl rfl (n_aload_n c_22_28 rfl (n_getR c_22_29 sc_4.n rfl rfl rfl r_4_3 (n_iload_n c_22_32 rfl (n_ialoadV c_22_33 sc_6.n rfl rfl rfl (by omega) (t_6k (z := 0) hS (by omega) (by omega) (by omega)) ?_))))
        intro z147 ez147 f148
        refine n_istore (L2 := [some (2, 44), some (2, 4), some (0, 10), some (0, z145), some (0, z147), none]) c_22_34 rfl rfl (n_aload_n c_22_36 rfl (n_getR c_22_37 sc_4.n rfl rfl rfl r_4_4 (n_iload_n c_22_40 rfl (n_ialoadV c_22_41 sc_7.n rfl rfl rfl (by omega) (t_7k (z := 1) hS (by omega) (by omega) (by omega)) ?_))))
        intro z149 ez149 f150
        refine n_istore (L2 := [some (2, 44), some (2, 4), some (0, 10), some (0, z145), some (0, z147), some (0, z149)]) c_22_42 rfl rfl (n_iload_n c_22_44 rfl (n_iload c_22_45 rfl ?_))
        refine n_if2_eq c_22_47 (by omega) (by omega) ?_ ?_
        · intro h151
          exfalso; omega
        · intro h152
          refine n_iload_n c_22_50 rfl (n_iload c_22_51 rfl ?_)
          refine n_if2_ne c_22_53 (by omega) (by omega) ?_ ?_
          · intro h153
            exfalso; omega
          · intro h154
            refine n_aload_n c_22_56 rfl (n_getR c_22_57 sc_44.n rfl rfl rfl r_44_4 (n_iload_n c_22_60 rfl (n_iload_n c_22_61 rfl (n_iastoreV hS c_22_62 sc_45.n rfl (by omega) (w_45 (by omega) (by omega)) ?_))))
            intro M155 eM155 hS155
            have g155_0 : M155 44 2 = M 44 2 := by rw [eM155]; exact nu_a (by omega)
            refine n_goto c_22_63 (n_iinc (L2 := [some (2, 44), some (2, 4), some (0, (10 + (-1))), some (0, z145), some (0, z147), some (0, z149)]) c_22_101 rfl rfl rfl (n_goto c_22_104 (n_fg (le_s (le_s (le_s (le_n (le_n (le_n le_0)))))) ?_)))
            exact ih _ M155 hS155 (by omega) (by omega) (by omega) (by omega) (by omega) (by omega) (by omega) (by omega) (by omega)
    · skip
      refine n_iload_n c_22_17 rfl ?_
      refine n_if0_lt c_22_18 (by omega) ?_ ?_
      · intro h156
        exfalso; omega
      · intro h157
        refine n_aload_n c_22_21 rfl (n_getR c_22_22 sc_4.n rfl rfl rfl r_4_2 (n_iload_n c_22_25 rfl (n_ialoadV c_22_26 sc_5.n rfl rfl rfl (by omega) (t_5k (z := 1) hS (by omega) (by omega) (by omega)) ?_)))
        intro z158 ez158 f159
        refine n_istore_n (L2 := [some (2, 44), some (2, 4), some (0, 11), some (0, z158), none, none]) c_22_27 rfl rfl (n_aload_n c_22_28 rfl (n_getR c_22_29 sc_4.n rfl rfl rfl r_4_3 (n_iload_n c_22_32 rfl (n_ialoadV c_22_33 sc_6.n rfl rfl rfl (by omega) (t_6k (z := 0) hS (by omega) (by omega) (by omega)) ?_))))
        intro z160 ez160 f161
        refine n_istore (L2 := [some (2, 44), some (2, 4), some (0, 11), some (0, z158), some (0, z160), none]) c_22_34 rfl rfl (n_aload_n c_22_36 rfl (n_getR c_22_37 sc_4.n rfl rfl rfl r_4_4 (n_iload_n c_22_40 rfl (n_ialoadV c_22_41 sc_7.n rfl rfl rfl (by omega) (t_7k (z := 2) hS (by omega) (by omega) (by omega)) ?_))))
        intro z162 ez162 f163
        refine n_istore (L2 := [some (2, 44), some (2, 4), some (0, 11), some (0, z158), some (0, z160), some (0, z162)]) c_22_42 rfl rfl (n_iload_n c_22_44 rfl (n_iload c_22_45 rfl ?_))
        refine n_if2_eq c_22_47 (by omega) (by omega) ?_ ?_
        · intro h164
          exfalso; omega
        · intro h165
          refine n_iload_n c_22_50 rfl (n_iload c_22_51 rfl ?_)
          refine n_if2_ne c_22_53 (by omega) (by omega) ?_ ?_
          · intro h166
            refine n_iload c_22_66 rfl (n_iload c_22_68 rfl ?_)
            refine n_if2_ne c_22_70 (by omega) (by omega) ?_ ?_
            · intro h167
              refine n_aload_n c_22_84 rfl (n_getR c_22_85 sc_44.n rfl rfl rfl r_44_4 (n_iload_n c_22_88 rfl (n_aload_n c_22_89 rfl (n_dup2 c_22_90 (n_getV (bi := 2) c_22_91 sc_44.n rfl rfl rfl (t_44_2 hS) ?_)))))
              intro z168 ez168 f169
              refine n_dup_x102 c_22_94 (n_iconst c_22_95 (n_iadd c_22_96 rfl (n_putV (bi := 2) hS c_22_97 sc_44.n rfl rfl rfl rfl (w_44_2 (by omega)) ?_)))
              intro M170 eM170 hS170
              have g170_0 : M170 44 2 = (z168 + 1) := by rw [eM170]; exact nu_s _ _ _ _
              refine n_iastoreV hS170 c_22_100 sc_45.n rfl (by omega) (w_45 (by omega) (by omega)) ?_
              intro M171 eM171 hS171
              have g171_0 : M171 44 2 = M170 44 2 := by rw [eM171]; exact nu_a (by omega)
              refine n_iinc (L2 := [some (2, 44), some (2, 4), some (0, (11 + (-1))), some (0, z158), some (0, z160), some (0, z162)]) c_22_101 rfl rfl rfl (n_goto c_22_104 (n_fg (le_s (le_s (le_s (le_n (le_n (le_n le_0)))))) ?_))
              exact ih _ M171 hS171 (by omega) (by omega) (by omega) (by omega) (by omega) (by omega) (by omega) (by omega) (by omega)
            · intro h172
              exfalso; omega
          · intro h173
            exfalso; omega
    · skip
      refine n_iload_n c_22_17 rfl ?_
      refine n_if0_lt c_22_18 (by omega) ?_ ?_
      · intro h174
        exfalso; omega
      · intro h175
        refine n_aload_n c_22_21 rfl (n_getR c_22_22 sc_4.n rfl rfl rfl r_4_2 (n_iload_n c_22_25 rfl (n_ialoadV c_22_26 sc_5.n rfl rfl rfl (by omega) (t_5k (z := 1) hS (by omega) (by omega) (by omega)) ?_)))
        intro z176 ez176 f177
        refine n_istore_n (L2 := [some (2, 44), some (2, 4), some (0, 12), some (0, z176), none, none]) c_22_27 rfl rfl (n_aload_n c_22_28 rfl (n_getR c_22_29 sc_4.n rfl rfl rfl r_4_3 (n_iload_n c_22_32 rfl (n_ialoadV c_22_33 sc_6.n rfl rfl rfl (by omega) (t_6k (z := 1) hS (by omega) (by omega) (by omega)) ?_))))
        intro z178 ez178 f179
        refine n_istore (L2 := [some (2, 44), some (2, 4), some (0, 12), some (0, z176), some (0, z178), none]) c_22_34 rfl rfl (n_aload_n c_22_36 rfl (n_getR c_22_37 sc_4.n rfl rfl rfl r_4_4 (n_iload_n c_22_40 rfl (n_ialoadV c_22_41 sc_7.n rfl rfl rfl (by omega) (t_7k (z := 0) hS (by omega) (by omega) (by omega)) ?_))))
        intro z180 ez180 f181
        refine n_istore (L2 := [some (2, 44), some (2, 4), some (0, 12), some (0, z176), some (0, z178), some (0, z180)]) c_22_42 rfl rfl (n_iload_n c_22_44 rfl (n_iload c_22_45 rfl ?_))
        refine n_if2_eq c_22_47 (by omega) (by omega) ?_ ?_
        · intro h182
          refine n_aload_n c_22_56 rfl (n_getR c_22_57 sc_44.n rfl rfl rfl r_44_4 (n_iload_n c_22_60 rfl (n_iload_n c_22_61 rfl (n_iastoreV hS c_22_62 sc_45.n rfl (by omega) (w_45 (by omega) (by omega)) ?_))))
          intro M183 eM183 hS183
          have g183_0 : M183 44 2 = M 44 2 := by rw [eM183]; exact nu_a (by omega)
          refine n_goto c_22_63 (n_iinc (L2 := [some (2, 44), some (2, 4), some (0, (12 + (-1))), some (0, z176), some (0, z178), some (0, z180)]) c_22_101 rfl rfl rfl (n_goto c_22_104 (n_fg (le_s (le_s (le_s (le_n (le_n (le_n le_0)))))) ?_)))
          exact ih _ M183 hS183 (by omega) (by omega) (by omega) (by omega) (by omega) (by omega) (by omega) (by omega) (by omega)
        · intro h184
          exfalso; omega
    · skip
      refine n_iload_n c_22_17 rfl ?_
      refine n_if0_lt c_22_18 (by omega) ?_ ?_
      · intro h185
        exfalso; omega
      · intro h186
        refine n_aload_n c_22_21 rfl (n_getR c_22_22 sc_4.n rfl rfl rfl r_4_2 (n_iload_n c_22_25 rfl (n_ialoadV c_22_26 sc_5.n rfl rfl rfl (by omega) (t_5k (z := 1) hS (by omega) (by omega) (by omega)) ?_)))
        intro z187 ez187 f188
        refine n_istore_n (L2 := [some (2, 44), some (2, 4), some (0, 13), some (0, z187), none, none]) c_22_27 rfl rfl (n_aload_n c_22_28 rfl (n_getR c_22_29 sc_4.n rfl rfl rfl r_4_3 (n_iload_n c_22_32 rfl (n_ialoadV c_22_33 sc_6.n rfl rfl rfl (by omega) (t_6k (z := 1) hS (by omega) (by omega) (by omega)) ?_))))
        intro z189 ez189 f190
        refine n_istore (L2 := [some (2, 44), some (2, 4), some (0, 13), some (0, z187), some (0, z189), none]) c_22_34 rfl rfl (n_aload_n c_22_36 rfl (n_getR c_22_37 sc_4.n rfl rfl rfl r_4_4 (n_iload_n c_22_40 rfl (n_ialoadV c_22_41 sc_7.n rfl rfl rfl (by omega) (t_7k (z := 1) hS (by omega) (by omega) (by omega)) ?_))))
        intro z191 ez191 f192
        refine n_istore (L2 := [some (2, 44), some (2, 4), some (0, 13), some (0, z187), some (0, z189), some (0, z191)]) c_22_42 rfl rfl (n_iload_n c_22_44 rfl (n_iload c_22_45 rfl ?_))
        refine n_if2_eq c_22_47 (by omega) (by omega) ?_ ?_
        · intro h193
          refine n_aload_n c_22_56 rfl (n_getR c_22_57 sc_44.n rfl rfl rfl r_44_4 (n_iload_n c_22_60 rfl (n_iload_n c_22_61 rfl (n_iastoreV hS c_22_62 sc_45.n rfl (by omega) (w_45 (by omega) (by omega)) ?_))))
          intro M194 eM194 hS194
          have g194_0 : M194 44 2 = M 44 2 := by rw [eM194]; exact nu_a (by omega)
          refine n_goto c_22_63 (n_iinc (L2 := [some (2, 44), some (2, 4), some (0, (13 + (-1))), some (0, z187), some (0, z189), some (0, z191)]) c_22_101 rfl rfl rfl (n_goto c_22_104 (n_fg (le_s (le_s (le_s (le_n (le_n (le_n le_0)))))) ?_)))
          exact ih _ M194 hS194 (by omega) (by omega) (by omega) (by omega) (by omega) (by omega) (by omega) (by omega) (by omega)
        · intro h195
          exfalso; omega
    · skip
      refine n_iload_n c_22_17 rfl ?_
      refine n_if0_lt c_22_18 (by omega) ?_ ?_
      · intro h196
        exfalso; omega
      · intro h197
        refine n_aload_n c_22_21 rfl (n_getR c_22_22 sc_4.n rfl rfl rfl r_4_2 (n_iload_n c_22_25 rfl (n_ialoadV c_22_26 sc_5.n rfl rfl rfl (by omega) (t_5k (z := 1) hS (by omega) (by omega) (by omega)) ?_)))
        intro z198 ez198 f199
        refine n_istore_n (L2 := [some (2, 44), some (2, 4), some (0, 14), some (0, z198), none, none]) c_22_27 rfl rfl (n_aload_n c_22_28 rfl (n_getR c_22_29 sc_4.n rfl rfl rfl r_4_3 (n_iload_n c_22_32 rfl (n_ialoadV c_22_33 sc_6.n rfl rfl rfl (by omega) (t_6k (z := 1) hS (by omega) (by omega) (by omega)) ?_))))
        intro z200 ez200 f201
        refine n_istore (L2 := [some (2, 44), some (2, 4), some (0, 14), some (0, z198), some (0, z200), none]) c_22_34 rfl rfl (n_aload_n c_22_36 rfl (n_getR c_22_37 sc_4.n rfl rfl rfl r_4_4 (n_iload_n c_22_40 rfl (n_ialoadV c_22_41 sc_7.n rfl rfl rfl (by omega) (t_7k (z := 2) hS (by omega) (by omega) (by omega)) ?_))))
        intro z202 ez202 f203
        refine n_istore (L2 := [some (2, 44), some (2, 4), some (0, 14), some (0, z198), some (0, z200), some (0, z202)]) c_22_42 rfl rfl (n_iload_n c_22_44 rfl (n_iload c_22_45 rfl ?_))
        refine n_if2_eq c_22_47 (by omega) (by omega) ?_ ?_
        · intro h204
          refine n_aload_n c_22_56 rfl (n_getR c_22_57 sc_44.n rfl rfl rfl r_44_4 (n_iload_n c_22_60 rfl (n_iload_n c_22_61 rfl (n_iastoreV hS c_22_62 sc_45.n rfl (by omega) (w_45 (by omega) (by omega)) ?_))))
          intro M205 eM205 hS205
          have g205_0 : M205 44 2 = M 44 2 := by rw [eM205]; exact nu_a (by omega)
          refine n_goto c_22_63 (n_iinc (L2 := [some (2, 44), some (2, 4), some (0, (14 + (-1))), some (0, z198), some (0, z200), some (0, z202)]) c_22_101 rfl rfl rfl (n_goto c_22_104 (n_fg (le_s (le_s (le_s (le_n (le_n (le_n le_0)))))) ?_)))
          exact ih _ M205 hS205 (by omega) (by omega) (by omega) (by omega) (by omega) (by omega) (by omega) (by omega) (by omega)
        · intro h206
          exfalso; omega
    · skip
      refine n_iload_n c_22_17 rfl ?_
      refine n_if0_lt c_22_18 (by omega) ?_ ?_
      · intro h207
        exfalso; omega
      · intro h208
        refine n_aload_n c_22_21 rfl (n_getR c_22_22 sc_4.n rfl rfl rfl r_4_2 (n_iload_n c_22_25 rfl (n_ialoadV c_22_26 sc_5.n rfl rfl rfl (by omega) (t_5k (z := 1) hS (by omega) (by omega) (by omega)) ?_)))
        intro z209 ez209 f210
        refine n_istore_n (L2 := [some (2, 44), some (2, 4), some (0, 15), some (0, z209), none, none]) c_22_27 rfl rfl (n_aload_n c_22_28 rfl (n_getR c_22_29 sc_4.n rfl rfl rfl r_4_3 (n_iload_n c_22_32 rfl (n_ialoadV c_22_33 sc_6.n rfl rfl rfl (by omega) (t_6k (z := 2) hS (by omega) (by omega) (by omega)) ?_))))
        intro z211 ez211 f212
        refine n_istore (L2 := [some (2, 44), some (2, 4), some (0, 15), some (0, z209), some (0, z211), none]) c_22_34 rfl rfl (n_aload_n c_22_36 rfl (n_getR c_22_37 sc_4.n rfl rfl rfl r_4_4 (n_iload_n c_22_40 rfl (n_ialoadV c_22_41 sc_7.n rfl rfl rfl (by omega) (t_7k (z := 0) hS (by omega) (by omega) (by omega)) ?_))))
        intro z213 ez213 f214
        refine n_istore (L2 := [some (2, 44), some (2, 4), some (0, 15), some (0, z209), some (0, z211), some (0, z213)]) c_22_42 rfl rfl (n_iload_n c_22_44 rfl (n_iload c_22_45 rfl ?_))
        refine n_if2_eq c_22_47 (by omega) (by omega) ?_ ?_
        · intro h215
          exfalso; omega
        · intro h216
          refine n_iload_n c_22_50 rfl (n_iload c_22_51 rfl ?_)
          refine n_if2_ne c_22_53 (by omega) (by omega) ?_ ?_
          · intro h217
            refine n_iload c_22_66 rfl (n_iload c_22_68 rfl ?_)
            refine n_if2_ne c_22_70 (by omega) (by omega) ?_ ?_
            · intro h218
              refine n_aload_n c_22_84 rfl (n_getR c_22_85 sc_44.n rfl rfl rfl r_44_4 (n_iload_n c_22_88 rfl (n_aload_n c_22_89 rfl (n_dup2 c_22_90 (n_getV (bi := 2) c_22_91 sc_44.n rfl rfl rfl (t_44_2 hS) ?_)))))
              intro z219 ez219 f220
              refine n_dup_x102 c_22_94 (n_iconst c_22_95 (n_iadd c_22_96 rfl (n_putV (bi := 2) hS c_22_97 sc_44.n rfl rfl rfl rfl (w_44_2 (by omega)) ?_)))
              intro M221 eM221 hS221
              have g221_0 : M221 44 2 = (z219 + 1) := by rw [eM221]; exact nu_s _ _ _ _
              refine n_iastoreV hS221 c_22_100 sc_45.n rfl (by omega) (w_45 (by omega) (by omega)) ?_
              intro M222 eM222 hS222
              have g222_0 : M222 44 2 = M221 44 2 := by rw [eM222]; exact nu_a (by omega)
              refine n_iinc (L2 := [some (2, 44), some (2, 4), some (0, (15 + (-1))), some (0, z209), some (0, z211), some (0, z213)]) c_22_101 rfl rfl rfl (n_goto c_22_104 (n_fg (le_s (le_s (le_s (le_n (le_n (le_n le_0)))))) ?_))
              exact ih _ M222 hS222 (by omega) (by omega) (by omega) (by omega) (by omega) (by omega) (by omega) (by omega) (by omega)
            · intro h223
              exfalso; omega
          · intro h224
            exfalso; omega
    · skip
      refine n_iload_n c_22_17 rfl ?_
      refine n_if0_lt c_22_18 (by omega) ?_ ?_
      · intro h225
        exfalso; omega
      · intro h226
        refine n_aload_n c_22_21 rfl (n_getR c_22_22 sc_4.n rfl rfl rfl r_4_2 (n_iload_n c_22_25 rfl (n_ialoadV c_22_26 sc_5.n rfl rfl rfl (by omega) (t_5k (z := 1) hS (by omega) (by omega) (by omega)) ?_)))
        intro z227 ez227 f228
        refine n_istore_n (L2 := [some (2, 44), some (2, 4), some (0, 16), some (0, z227), none, none]) c_22_27 rfl rfl (n_aload_n c_22_28 rfl (n_getR c_22_29 sc_4.n rfl rfl rfl r_4_3 (n_iload_n c_22_32 rfl (n_ialoadV c_22_33 sc_6.n rfl rfl rfl (by omega) (t_6k (z := 2) hS (by omega) (by omega) (by omega)) ?_))))
        intro z229 ez229 f230
        refine n_istore (L2 := [some (2, 44), some (2, 4), some (0, 16), some (0, z227), some (0, z229), none]) c_22_34 rfl rfl (n_aload_n c_22_36 rfl (n_getR c_22_37 sc_4.n rfl rfl rfl r_4_4 (n_iload_n c_22_40 rfl (n_ialoadV c_22_41 sc_7.n rfl rfl rfl (by omega) (t_7k (z := 1) hS (by omega) (by omega) (by omega)) ?_))))
        intro z231 ez231 f232
        refine n_istore (L2 := [some (2, 44), some (2, 4), some (0, 16), some (0, z227), some (0, z229), some (0, z231)]) c_22_42 rfl rfl (n_iload_n c_22_44 rfl (n_iload c_22_45 rfl ?_))
        refine n_if2_eq c_22_47 (by omega) (by omega) ?_ ?_
        · intro h233
          exfalso; omega
        · intro h234
          refine n_iload_n c_22_50 rfl (n_iload c_22_51 rfl ?_)
          refine n_if2_ne c_22_53 (by omega) (by omega) ?_ ?_
          · intro h235
            exfalso; omega
          · intro h236
            refine n_aload_n c_22_56 rfl (n_getR c_22_57 sc_44.n rfl rfl rfl r_44_4 (n_iload_n c_22_60 rfl (n_iload_n c_22_61 rfl (n_iastoreV hS c_22_62 sc_45.n rfl (by omega) (w_45 (by omega) (by omega)) ?_))))
            intro M237 eM237 hS237
            have g237_0 : M237 44 2 = M 44 2 := by rw [eM237]; exact nu_a (by omega)
            refine n_goto c_22_63 (n_iinc (L2 := [some (2, 44), some (2, 4), some (0, (16 + (-1))), some (0, z227), some (0, z229), some (0, z231)]) c_22_101 rfl rfl rfl (n_goto c_22_104 (n_fg (le_s (le_s (le_s (le_n (le_n (le_n le_0)))))) ?_)))
            exact ih _ M237 hS237 (by omega) (by omega) (by omega) (by omega) (by omega) (by omega) (by omega) (by omega) (by omega)
    · skip
      refine n_iload_n c_22_17 rfl ?_
      refine n_if0_lt c_22_18 (by omega) ?_ ?_
      · intro h238
        exfalso; omega
      · intro h239
        refine n_aload_n c_22_21 rfl (n_getR c_22_22 sc_4.n rfl rfl rfl r_4_2 (n_iload_n c_22_25 rfl (n_ialoadV c_22_26 sc_5.n rfl rfl rfl (by omega) (t_5k (z := 1) hS (by omega) (by omega) (by omega)) ?_)))
        intro z240 ez240 f241
        refine n_istore_n (L2 := [some (2, 44), some (2, 4), some (0, 17), some (0, z240), none, none]) c_22_27 rfl rfl (n_aload_n c_22_28 rfl (n_getR c_22_29 sc_4.n rfl rfl rfl r_4_3 (n_iload_n c_22_32 rfl (n_ialoadV c_22_33 sc_6.n rfl rfl rfl (by omega) (t_6k (z := 2) hS (by omega) (by omega) (by omega)) ?_))))
        intro z242 ez242 f243
        refine n_istore (L2 := [some (2, 44), some (2, 4), some (0, 17), some (0, z240), some (0, z242), none]) c_22_34 rfl rfl (n_aload_n c_22_36 rfl (n_getR c_22_37 sc_4.n rfl rfl rfl r_4_4 (n_iload_n c_22_40 rfl (n_ialoadV c_22_41 sc_7.n rfl rfl rfl (by omega) (t_7k (z := 2) hS (by omega) (by omega) (by omega)) ?_))))
        intro z244 ez244 f245
        refine n_istore (L2 := [some (2, 44), some (2, 4), some (0, 17), some (0, z240), some (0, z242), some (0, z244)]) c_22_42 rfl rfl (n_iload_n c_22_44 rfl (n_iload c_22_45 rfl ?_))
        refine n_if2_eq c_22_47 (by omega) (by omega) ?_ ?_
        · intro h246
          exfalso; omega
        · intro h247
          refine n_iload_n c_22_50 rfl (n_iload c_22_51 rfl ?_)
          refine n_if2_ne c_22_53 (by omega) (by omega) ?_ ?_
          · intro h248
            refine n_iload c_22_66 rfl (n_iload c_22_68 rfl ?_)
            refine n_if2_ne c_22_70 (by omega) (by omega) ?_ ?_
            · intro h249
              exfalso; omega
            · intro h250
              refine n_aload_n c_22_73 rfl (n_getR c_22_74 sc_44.n rfl rfl rfl r_44_4 (n_iload_n c_22_77 rfl (n_iload c_22_78 rfl (n_iastoreV hS c_22_80 sc_45.n rfl (by omega) (w_45 (by omega) (by omega)) ?_))))
              intro M251 eM251 hS251
              have g251_0 : M251 44 2 = M 44 2 := by rw [eM251]; exact nu_a (by omega)
              refine n_goto c_22_81 (n_iinc (L2 := [some (2, 44), some (2, 4), some (0, (17 + (-1))), some (0, z240), some (0, z242), some (0, z244)]) c_22_101 rfl rfl rfl (n_goto c_22_104 (n_fg (le_s (le_s (le_s (le_n (le_n (le_n le_0)))))) ?_)))
              exact ih _ M251 hS251 (by omega) (by omega) (by omega) (by omega) (by omega) (by omega) (by omega) (by omega) (by omega)
          · intro h252
            exfalso; omega
    · skip
      refine n_iload_n c_22_17 rfl ?_
      refine n_if0_lt c_22_18 (by omega) ?_ ?_
      · intro h253
        exfalso; omega
      · intro h254
        refine n_aload_n c_22_21 rfl (n_getR c_22_22 sc_4.n rfl rfl rfl r_4_2 (n_iload_n c_22_25 rfl (n_ialoadV c_22_26 sc_5.n rfl rfl rfl (by omega) (t_5k (z := 2) hS (by omega) (by omega) (by omega)) ?_)))
        intro z255 ez255 f256
        refine n_istore_n (L2 := [some (2, 44), some (2, 4), some (0, 18), some (0, z255), none, none]) c_22_27 rfl rfl (n_aload_n c_22_28 rfl (n_getR c_22_29 sc_4.n rfl rfl rfl r_4_3 (n_iload_n c_22_32 rfl (n_ialoadV c_22_33 sc_6.n rfl rfl rfl (by omega) (t_6k (z := 0) hS (by omega) (by omega) (by omega)) ?_))))
        intro z257 ez257 f258
        refine n_istore (L2 := [some (2, 44), some (2, 4), some (0, 18), some (0, z255), some (0, z257), none]) c_22_34 rfl rfl (n_aload_n c_22_36 rfl (n_getR c_22_37 sc_4.n rfl rfl rfl r_4_4 (n_iload_n c_22_40 rfl (n_ialoadV c_22_41 sc_7.n rfl rfl rfl (by omega) (t_7k (z := 0) hS (by omega) (by omega) (by omega)) ?_))))
        intro z259 ez259 f260
        refine n_istore (L2 := [some (2, 44), some (2, 4), some (0, 18), some (0, z255), some (0, z257), some (0, z259)]) c_22_42 rfl rfl (n_iload_n c_22_44 rfl (n_iload c_22_45 rfl ?_))
        refine n_if2_eq c_22_47 (by omega) (by omega) ?_ ?_
        · intro h261
          exfalso; omega
        · intro h262
          refine n_iload_n c_22_50 rfl (n_iload c_22_51 rfl ?_)
          refine n_if2_ne c_22_53 (by omega) (by omega) ?_ ?_
          · intro h263
            refine n_iload c_22_66 rfl (n_iload c_22_68 rfl ?_)
            refine n_if2_ne c_22_70 (by omega) (by omega) ?_ ?_
            · intro h264
              exfalso; omega
            · intro h265
              refine n_aload_n c_22_73 rfl (n_getR c_22_74 sc_44.n rfl rfl rfl r_44_4 (n_iload_n c_22_77 rfl (n_iload c_22_78 rfl (n_iastoreV hS c_22_80 sc_45.n rfl (by omega) (w_45 (by omega) (by omega)) ?_))))
              intro M266 eM266 hS266
              have g266_0 : M266 44 2 = M 44 2 := by rw [eM266]; exact nu_a (by omega)
              refine n_goto c_22_81 (n_iinc (L2 := [some (2, 44), some (2, 4), some (0, (18 + (-1))), some (0, z255), some (0, z257), some (0, z259)]) c_22_101 rfl rfl rfl (n_goto c_22_104 (n_fg (le_s (le_s (le_s (le_n (le_n (le_n le_0)))))) ?_)))
              exact ih _ M266 hS266 (by omega) (by omega) (by omega) (by omega) (by omega) (by omega) (by omega) (by omega) (by omega)
          · intro h267
            exfalso; omega
    · skip
      refine n_iload_n c_22_17 rfl ?_
      refine n_if0_lt c_22_18 (by omega) ?_ ?_
      · intro h268
        exfalso; omega
      · intro h269
        refine n_aload_n c_22_21 rfl (n_getR c_22_22 sc_4.n rfl rfl rfl r_4_2 (n_iload_n c_22_25 rfl (n_ialoadV c_22_26 sc_5.n rfl rfl rfl (by omega) (t_5k (z := 2) hS (by omega) (by omega) (by omega)) ?_)))
        intro z270 ez270 f271
        refine n_istore_n (L2 := [some (2, 44), some (2, 4), some (0, 19), some (0, z270), none, none]) c_22_27 rfl rfl (n_aload_n c_22_28 rfl (n_getR c_22_29 sc_4.n rfl rfl rfl r_4_3 (n_iload_n c_22_32 rfl (n_ialoadV c_22_33 sc_6.n rfl rfl rfl (by omega) (t_6k (z := 0) hS (by omega) (by omega) (by omega)) ?_))))
        intro z272 ez272 f273
        refine n_istore (L2 := [some (2, 44), some (2, 4), some (0, 19), some (0, z270), some (0, z272), none]) c_22_34 rfl rfl (n_aload_n c_22_36 rfl (n_getR c_22_37 sc_4.n rfl rfl rfl r_4_4 (n_iload_n c_22_40 rfl (n_ialoadV c_22_41 sc_7.n rfl rfl rfl (by omega) (t_7k (z := 1) hS (by omega) (by omega) (by omega)) ?_))))
        intro z274 ez274 f275
        refine n_istore (L2 := [some (2, 44), some (2, 4), some (0, 19), some (0, z270), some (0, z272), some (0, z274)]) c_22_42 rfl rfl (n_iload_n c_22_44 rfl (n_iload c_22_45 rfl ?_))
        refine n_if2_eq c_22_47 (by omega) (by omega) ?_ ?_
        · intro h276
          exfalso; omega
        · intro h277
          refine n_iload_n c_22_50 rfl (n_iload c_22_51 rfl ?_)
          refine n_if2_ne c_22_53 (by omega) (by omega) ?_ ?_
          · intro h278
            refine n_iload c_22_66 rfl (n_iload c_22_68 rfl ?_)
            refine n_if2_ne c_22_70 (by omega) (by omega) ?_ ?_
            · intro h279
              refine n_aload_n c_22_84 rfl (n_getR c_22_85 sc_44.n rfl rfl rfl r_44_4 (n_iload_n c_22_88 rfl (n_aload_n c_22_89 rfl (n_dup2 c_22_90 (n_getV (bi := 2) c_22_91 sc_44.n rfl rfl rfl (t_44_2 hS) ?_)))))
              intro z280 ez280 f281
              refine n_dup_x102 c_22_94 (n_iconst c_22_95 (n_iadd c_22_96 rfl (n_putV (bi := 2) hS c_22_97 sc_44.n rfl rfl rfl rfl (w_44_2 (by omega)) ?_)))
              intro M282 eM282 hS282
              have g282_0 : M282 44 2 = (z280 + 1) := by rw [eM282]; exact nu_s _ _ _ _
              refine n_iastoreV hS282 c_22_100 sc_45.n rfl (by omega) (w_45 (by omega) (by omega)) ?_
              intro M283 eM283 hS283
              have g283_0 : M283 44 2 = M282 44 2 := by rw [eM283]; exact nu_a (by omega)
              refine n_iinc (L2 := [some (2, 44), some (2, 4), some (0, (19 + (-1))), some (0, z270), some (0, z272), some (0, z274)]) c_22_101 rfl rfl rfl (n_goto c_22_104 (n_fg (le_s (le_s (le_s (le_n (le_n (le_n le_0)))))) ?_))
              exact ih _ M283 hS283 (by omega) (by omega) (by omega) (by omega) (by omega) (by omega) (by omega) (by omega) (by omega)
            · intro h284
              exfalso; omega
          · intro h285
            exfalso; omega
    · skip
      refine n_iload_n c_22_17 rfl ?_
      refine n_if0_lt c_22_18 (by omega) ?_ ?_
      · intro h286
        exfalso; omega
      · intro h287
        refine n_aload_n c_22_21 rfl (n_getR c_22_22 sc_4.n rfl rfl rfl r_4_2 (n_iload_n c_22_25 rfl (n_ialoadV c_22_26 sc_5.n rfl rfl rfl (by omega) (t_5k (z := 2) hS (by omega) (by omega) (by omega)) ?_)))
        intro z288 ez288 f289
        refine n_istore_n (L2 := [some (2, 44), some (2, 4), some (0, 20), some (0, z288), none, none]) c_22_27 rfl rfl (n_aload_n c_22_28 rfl (n_getR c_22_29 sc_4.n rfl rfl rfl r_4_3 (n_iload_n c_22_32 rfl (n_ialoadV c_22_33 sc_6.n rfl rfl rfl (by omega) (t_6k (z := 0) hS (by omega) (by omega) (by omega)) ?_))))
        intro z290 ez290 f291
        refine n_istore (L2 := [some (2, 44), some (2, 4), some (0, 20), some (0, z288), some (0, z290), none]) c_22_34 rfl rfl (n_aload_n c_22_36 rfl (n_getR c_22_37 sc_4.n rfl rfl rfl r_4_4 (n_iload_n c_22_40 rfl (n_ialoadV c_22_41 sc_7.n rfl rfl rfl (by omega) (t_7k (z := 2) hS (by omega) (by omega) (by omega)) ?_))))
        intro z292 ez292 f293
        refine n_istore (L2 := [some (2, 44), some (2, 4), some (0, 20), some (0, z288), some (0, z290), some (0, z292)]) c_22_42 rfl rfl (n_iload_n c_22_44 rfl (n_iload c_22_45 rfl ?_))
        refine n_if2_eq c_22_47 (by omega) (by omega) ?_ ?_
        · intro h294
          exfalso; omega
        · intro h295
          refine n_iload_n c_22_50 rfl (n_iload c_22_51 rfl ?_)
          refine n_if2_ne c_22_53 (by omega) (by omega) ?_ ?_
          · intro h296
            exfalso; omega
          · intro h297
            refine n_aload_n c_22_56 rfl (n_getR c_22_57 sc_44.n rfl rfl rfl r_44_4 (n_iload_n c_22_60 rfl (n_iload_n c_22_61 rfl (n_iastoreV hS c_22_62 sc_45.n rfl (by omega) (w_45 (by omega) (by omega)) ?_))))
            intro M298 eM298 hS298
            have g298_0 : M298 44 2 = M 44 2 := by rw [eM298]; exact nu_a (by omega)
            refine n_goto c_22_63 (n_iinc (L2 := [some (2, 44), some (2, 4), some (0, (20 + (-1))), some (0, z288), some (0, z290), some (0, z292)]) c_22_101 rfl rfl rfl (n_goto c_22_104 (n_fg (le_s (le_s (le_s (le_n (le_n (le_n le_0)))))) ?_)))
            exact ih _ M298 hS298 (by omega) (by omega) (by omega) (by omega) (by omega) (by omega) (by omega) (by omega) (by omega)
    · skip
      refine n_iload_n c_22_17 rfl ?_
      refine n_if0_lt c_22_18 (by omega) ?_ ?_
      · intro h299
        exfalso; omega
      · intro h300
        refine n_aload_n c_22_21 rfl (n_getR c_22_22 sc_4.n rfl rfl rfl r_4_2 (n_iload_n c_22_25 rfl (n_ialoadV c_22_26 sc_5.n rfl rfl rfl (by omega) (t_5k (z := 2) hS (by omega) (by omega) (by omega)) ?_)))
        intro z301 ez301 f302
        refine n_istore_n (L2 := [some (2, 44), some (2, 4), some (0, 21), some (0, z301), none, none]) c_22_27 rfl rfl (n_aload_n c_22_28 rfl (n_getR c_22_29 sc_4.n rfl rfl rfl r_4_3 (n_iload_n c_22_32 rfl (n_ialoadV c_22_33 sc_6.n rfl rfl rfl (by omega) (t_6k (z := 1) hS (by omega) (by omega) (by omega)) ?_))))
        intro z303 ez303 f304
        refine n_istore (L2 := [some (2, 44), some (2, 4), some (0, 21), some (0, z301), some (0, z303), none]) c_22_34 rfl rfl (n_aload_n c_22_36 rfl (n_getR c_22_37 sc_4.n rfl rfl rfl r_4_4 (n_iload_n c_22_40 rfl (n_ialoadV c_22_41 sc_7.n rfl rfl rfl (by omega) (t_7k (z := 0) hS (by omega) (by omega) (by omega)) ?_))))
        intro z305 ez305 f306
        refine n_istore (L2 := [some (2, 44), some (2, 4), some (0, 21), some (0, z301), some (0, z303), some (0, z305)]) c_22_42 rfl rfl (n_iload_n c_22_44 rfl (n_iload c_22_45 rfl ?_))
        refine n_if2_eq c_22_47 (by omega) (by omega) ?_ ?_
        · intro h307
          exfalso; omega
        · intro h308
          refine n_iload_n c_22_50 rfl (n_iload c_22_51 rfl ?_)
          refine n_if2_ne c_22_53 (by omega) (by omega) ?_ ?_
          · intro h309
            refine n_iload c_22_66 rfl (n_iload c_22_68 rfl ?_)
            refine n_if2_ne c_22_70 (by omega) (by omega) ?_ ?_
            · intro h310
              refine n_aload_n c_22_84 rfl (n_getR c_22_85 sc_44.n rfl rfl rfl r_44_4 (n_iload_n c_22_88 rfl (n_aload_n c_22_89 rfl (n_dup2 c_22_90 (n_getV (bi := 2) c_22_91 sc_44.n rfl rfl rfl (t_44_2 hS) ?_)))))
              intro z311 ez311 f312
              refine n_dup_x102 c_22_94 (n_iconst c_22_95 (n_iadd c_22_96 rfl (n_putV (bi := 2) hS c_22_97 sc_44.n rfl rfl rfl rfl (w_44_2 (by omega)) ?_)))
              intro M313 eM313 hS313
              have g313_0 : M313 44 2 = (z311 + 1) := by rw [eM313]; exact nu_s _ _ _ _
              refine n_iastoreV hS313 c_22_100 sc_45.n rfl (by omega) (w_45 (by omega) (by omega)) ?_
              intro M314 eM314 hS314
              have g314_0 : M314 44 2 = M313 44 2 := by rw [eM314]; exact nu_a (by omega)
              refine n_iinc (L2 := [some (2, 44), some (2, 4), some (0, (21 + (-1))), some (0, z301), some (0, z303), some (0, z305)]) c_22_101 rfl rfl rfl (n_goto c_22_104 (n_fg (le_s (le_s (le_s (le_n (le_n (le_n le_0)))))) ?_))
              exact ih _ M314 hS314 (by omega) (by omega) (by omega) (by omega) (by omega) (by omega) (by omega) (by omega) (by omega)
            · intro h315
              exfalso; omega
          · intro h316
            exfalso; omega
    · skip
      refine n_iload_n c_22_17 rfl ?_
      refine n_if0_lt c_22_18 (by omega) ?_ ?_
      · intro h317
        exfalso; omega
      · intro h318
        refine n_aload_n c_22_21 rfl (n_getR c_22_22 sc_4.n rfl rfl rfl r_4_2 (n_iload_n c_22_25 rfl (n_ialoadV c_22_26 sc_5.n rfl rfl rfl (by omega) (t_5k (z := 2) hS (by omega) (by omega) (by omega)) ?_)))
        intro z319 ez319 f320
        refine n_istore_n (L2 := [some (2, 44), some (2, 4), some (0, 22), some (0, z319), none, none]) c_22_27 rfl rfl (n_aload_n c_22_28 rfl (n_getR c_22_29 sc_4.n rfl rfl rfl r_4_3 (n_iload_n c_22_32 rfl (n_ialoadV c_22_33 sc_6.n rfl rfl rfl (by omega) (t_6k (z := 1) hS (by omega) (by omega) (by omega)) ?_))))
        intro z321 ez321 f322
        refine n_istore (L2 := [some (2, 44), some (2, 4), some (0, 22), some (0, z319), some (0, z321), none]) c_22_34 rfl rfl (n_aload_n c_22_36 rfl (n_getR c_22_37 sc_4.n rfl rfl rfl r_4_4 (n_iload_n c_22_40 rfl (n_ialoadV c_22_41 sc_7.n rfl rfl rfl (by omega) (t_7k (z := 1) hS (by omega) (by omega) (by omega)) ?_))))
        intro z323 ez323 f324
        refine n_istore (L2 := [some (2, 44), some (2, 4), some (0, 22), some (0, z319), some (0, z321), some (0, z323)]) c_22_42 rfl rfl (n_iload_n c_22_44 rfl (n_iload c_22_45 rfl ?_))
        refine n_if2_eq c_22_47 (by omega) (by omega) ?_ ?_
        · intro h325
          exfalso; omega
        · intro h326
          refine n_iload_n c_22_50 rfl (n_iload c_22_51 rfl ?_)
          refine n_if2_ne c_22_53 (by omega) (by omega) ?_ ?_
          · intro h327
            refine n_iload c_22_66 rfl (n_iload c_22_68 rfl ?_)
            refine n_if2_ne c_22_70 (by omega) (by omega) ?_ ?_
            · intro h328
              exfalso; omega
            · intro h329
              refine n_aload_n c_22_73 rfl (n_getR c_22_74 sc_44.n rfl rfl rfl r_44_4 (n_iload_n c_22_77 rfl (n_iload c_22_78 rfl (n_iastoreV hS c_22_80 sc_45.n rfl (by omega) (w_45 (by omega) (by omega)) ?_))))
              intro M330 eM330 hS330
              have g330_0 : M330 44 2 = M 44 2 := by rw [eM330]; exact nu_a (by omega)
              refine n_goto c_22_81 (n_iinc (L2 := [some (2, 44), some (2, 4), some (0, (22 + (-1))), some (0, z319), some (0, z321), some (0, z323)]) c_22_101 rfl rfl rfl (n_goto c_22_104 (n_fg (le_s (le_s (le_s (le_n (le_n (le_n le_0)))))) ?_)))
              exact ih _ M330 hS330 (by omega) (by omega) (by omega) (by omega) (by omega) (by omega) (by omega) (by omega) (by omega)
          · intro h331
            exfalso; omega
    · skip
      refine n_iload_n c_22_17 rfl ?_
      refine n_if0_lt c_22_18 (by omega) ?_ ?_
      · intro h332
        exfalso; omega
      · intro h333
        refine n_aload_n c_22_21 rfl (n_getR c_22_22 sc_4.n rfl rfl rfl r_4_2 (n_iload_n c_22_25 rfl (n_ialoadV c_22_26 sc_5.n rfl rfl rfl (by omega) (t_5k (z := 2) hS (by omega) (by omega) (by omega)) ?_)))
        intro z334 ez334 f335
        refine n_istore_n (L2 := [some (2, 44), some (2, 4), some (0, 23), some (0, z334), none, none]) c_22_27 rfl rfl (n_aload_n c_22_28 rfl (n_getR c_22_29 sc_4.n rfl rfl rfl r_4_3 (n_iload_n c_22_32 rfl (n_ialoadV c_22_33 sc_6.n rfl rfl rfl (by omega) (t_6k (z := 1) hS (by omega) (by omega) (by omega)) ?_))))
        intro z336 ez336 f337
        refine n_istore (L2 := [some (2, 44), some (2, 4), some (0, 23), some (0, z334), some (0, z336), none]) c_22_34 rfl rfl (n_aload_n c_22_36 rfl (n_getR c_22_37 sc_4.n rfl rfl rfl r_4_4 (n_iload_n c_22_40 rfl (n_ialoadV c_22_41 sc_7.n rfl rfl rfl (by omega) (t_7k (z := 2) hS (by omega) (by omega) (by omega)) ?_))))
        intro z338 ez338 f339
        refine n_istore (L2 := [some (2, 44), some (2, 4), some (0, 23), some (0, z334), some (0, z336), some (0, z338)]) c_22_42 rfl rfl (n_iload_n c_22_44 rfl (n_iload c_22_45 rfl ?_))
        refine n_if2_eq c_22_47 (by omega) (by omega) ?_ ?_
        · intro h340
          exfalso; omega
        · intro h341
          refine n_iload_n c_22_50 rfl (n_iload c_22_51 rfl ?_)
          refine n_if2_ne c_22_53 (by omega) (by omega) ?_ ?_
          · intro h342
            exfalso; omega
          · intro h343
            refine n_aload_n c_22_56 rfl (n_getR c_22_57 sc_44.n rfl rfl rfl r_44_4 (n_iload_n c_22_60 rfl (n_iload_n c_22_61 rfl (n_iastoreV hS c_22_62 sc_45.n rfl (by omega) (w_45 (by omega) (by omega)) ?_))))
            intro M344 eM344 hS344
            have g344_0 : M344 44 2 = M 44 2 := by rw [eM344]; exact nu_a (by omega)
            refine n_goto c_22_63 (n_iinc (L2 := [some (2, 44), some (2, 4), some (0, (23 + (-1))), some (0, z334), some (0, z336), some (0, z338)]) c_22_101 rfl rfl rfl (n_goto c_22_104 (n_fg (le_s (le_s (le_s (le_n (le_n (le_n le_0)))))) ?_)))
            exact ih _ M344 hS344 (by omega) (by omega) (by omega) (by omega) (by omega) (by omega) (by omega) (by omega) (by omega)
    · skip
      refine n_iload_n c_22_17 rfl ?_
      refine n_if0_lt c_22_18 (by omega) ?_ ?_
      · intro h345
        exfalso; omega
      · intro h346
        refine n_aload_n c_22_21 rfl (n_getR c_22_22 sc_4.n rfl rfl rfl r_4_2 (n_iload_n c_22_25 rfl (n_ialoadV c_22_26 sc_5.n rfl rfl rfl (by omega) (t_5k (z := 2) hS (by omega) (by omega) (by omega)) ?_)))
        intro z347 ez347 f348
        refine n_istore_n (L2 := [some (2, 44), some (2, 4), some (0, 24), some (0, z347), none, none]) c_22_27 rfl rfl (n_aload_n c_22_28 rfl (n_getR c_22_29 sc_4.n rfl rfl rfl r_4_3 (n_iload_n c_22_32 rfl (n_ialoadV c_22_33 sc_6.n rfl rfl rfl (by omega) (t_6k (z := 2) hS (by omega) (by omega) (by omega)) ?_))))
        intro z349 ez349 f350
        refine n_istore (L2 := [some (2, 44), some (2, 4), some (0, 24), some (0, z347), some (0, z349), none]) c_22_34 rfl rfl (n_aload_n c_22_36 rfl (n_getR c_22_37 sc_4.n rfl rfl rfl r_4_4 (n_iload_n c_22_40 rfl (n_ialoadV c_22_41 sc_7.n rfl rfl rfl (by omega) (t_7k (z := 0) hS (by omega) (by omega) (by omega)) ?_))))
        intro z351 ez351 f352
        refine n_istore (L2 := [some (2, 44), some (2, 4), some (0, 24), some (0, z347), some (0, z349), some (0, z351)]) c_22_42 rfl rfl (n_iload_n c_22_44 rfl (n_iload c_22_45 rfl ?_))
        refine n_if2_eq c_22_47 (by omega) (by omega) ?_ ?_
        · intro h353
          refine n_aload_n c_22_56 rfl (n_getR c_22_57 sc_44.n rfl rfl rfl r_44_4 (n_iload_n c_22_60 rfl (n_iload_n c_22_61 rfl (n_iastoreV hS c_22_62 sc_45.n rfl (by omega) (w_45 (by omega) (by omega)) ?_))))
          intro M354 eM354 hS354
          have g354_0 : M354 44 2 = M 44 2 := by rw [eM354]; exact nu_a (by omega)
          refine n_goto c_22_63 (n_iinc (L2 := [some (2, 44), some (2, 4), some (0, (24 + (-1))), some (0, z347), some (0, z349), some (0, z351)]) c_22_101 rfl rfl rfl (n_goto c_22_104 (n_fg (le_s (le_s (le_s (le_n (le_n (le_n le_0)))))) ?_)))
          exact ih _ M354 hS354 (by omega) (by omega) (by omega) (by omega) (by omega) (by omega) (by omega) (by omega) (by omega)
        · intro h355
          exfalso; omega
    · skip
      refine n_iload_n c_22_17 rfl ?_
      refine n_if0_lt c_22_18 (by omega) ?_ ?_
      · intro h356
        exfalso; omega
      · intro h357
        refine n_aload_n c_22_21 rfl (n_getR c_22_22 sc_4.n rfl rfl rfl r_4_2 (n_iload_n c_22_25 rfl (n_ialoadV c_22_26 sc_5.n rfl rfl rfl (by omega) (t_5k (z := 2) hS (by omega) (by omega) (by omega)) ?_)))
        intro z358 ez358 f359
        refine n_istore_n (L2 := [some (2, 44), some (2, 4), some (0, 25), some (0, z358), none, none]) c_22_27 rfl rfl (n_aload_n c_22_28 rfl (n_getR c_22_29 sc_4.n rfl rfl rfl r_4_3 (n_iload_n c_22_32 rfl (n_ialoadV c_22_33 sc_6.n rfl rfl rfl (by omega) (t_6k (z := 2) hS (by omega) (by omega) (by omega)) ?_))))
        intro z360 ez360 f361
        refine n_istore (L2 := [some (2, 44), some (2, 4), some (0, 25), some (0, z358), some (0, z360), none]) c_22_34 rfl rfl (n_aload_n c_22_36 rfl (n_getR c_22_37 sc_4.n rfl rfl rfl r_4_4 (n_iload_n c_22_40 rfl (n_ialoadV c_22_41 sc_7.n rfl rfl rfl (by omega) (t_7k (z := 1) hS (by omega) (by omega) (by omega)) ?_))))
        intro z362 ez362 f363
        refine n_istore (L2 := [some (2, 44), some (2, 4), some (0, 25), some (0, z358), some (0, z360), some (0, z362)]) c_22_42 rfl rfl (n_iload_n c_22_44 rfl (n_iload c_22_45 rfl ?_))
        refine n_if2_eq c_22_47 (by omega) (by omega) ?_ ?_
        · intro h364
          refine n_aload_n c_22_56 rfl (n_getR c_22_57 sc_44.n rfl rfl rfl r_44_4 (n_iload_n c_22_60 rfl (n_iload_n c_22_61 rfl (n_iastoreV hS c_22_62 sc_45.n rfl (by omega) (w_45 (by omega) (by omega)) ?_))))
          intro M365 eM365 hS365
          have g365_0 : M365 44 2 = M 44 2 := by rw [eM365]; exact nu_a (by omega)
          refine n_goto c_22_63 (n_iinc (L2 := [some (2, 44), some (2, 4), some (0, (25 + (-1))), some (0, z358), some (0, z360), some (0, z362)]) c_22_101 rfl rfl rfl (n_goto c_22_104 (n_fg (le_s (le_s (le_s (le_n (le_n (le_n le_0)))))) ?_)))
          exact ih _ M365 hS365 (by omega) (by omega) (by omega) (by omega) (by omega) (by omega) (by omega) (by omega) (by omega)
        · intro h366
          exfalso; omega
    · skip
      refine n_iload_n c_22_17 rfl ?_
      refine n_if0_lt c_22_18 (by omega) ?_ ?_
      · intro h367
        exfalso; omega
      · intro h368
        refine n_aload_n c_22_21 rfl (n_getR c_22_22 sc_4.n rfl rfl rfl r_4_2 (n_iload_n c_22_25 rfl (n_ialoadV c_22_26 sc_5.n rfl rfl rfl (by omega) (t_5k (z := 2) hS (by omega) (by omega) (by omega)) ?_)))
        intro z369 ez369 f370
        refine n_istore_n (L2 := [some (2, 44), some (2, 4), some (0, 26), some (0, z369), none, none]) c_22_27 rfl rfl (n_aload_n c_22_28 rfl (n_getR c_22_29 sc_4.n rfl rfl rfl r_4_3 (n_iload_n c_22_32 rfl (n_ialoadV c_22_33 sc_6.n rfl rfl rfl (by omega) (t_6k (z := 2) hS (by omega) (by omega) (by omega)) ?_))))
        intro z371 ez371 f372
        refine n_istore (L2 := [some (2, 44), some (2, 4), some (0, 26), some (0, z369), some (0, z371), none]) c_22_34 rfl rfl (n_aload_n c_22_36 rfl (n_getR c_22_37 sc_4.n rfl rfl rfl r_4_4 (n_iload_n c_22_40 rfl (n_ialoadV c_22_41 sc_7.n rfl rfl rfl (by omega) (t_7k (z := 2) hS (by omega) (by omega) (by omega)) ?_))))
        intro z373 ez373 f374
        refine n_istore (L2 := [some (2, 44), some (2, 4), some (0, 26), some (0, z369), some (0, z371), some (0, z373)]) c_22_42 rfl rfl (n_iload_n c_22_44 rfl (n_iload c_22_45 rfl ?_))
        refine n_if2_eq c_22_47 (by omega) (by omega) ?_ ?_
        · intro h375
          refine n_aload_n c_22_56 rfl (n_getR c_22_57 sc_44.n rfl rfl rfl r_44_4 (n_iload_n c_22_60 rfl (n_iload_n c_22_61 rfl (n_iastoreV hS c_22_62 sc_45.n rfl (by omega) (w_45 (by omega) (by omega)) ?_))))
          intro M376 eM376 hS376
          have g376_0 : M376 44 2 = M 44 2 := by rw [eM376]; exact nu_a (by omega)
          refine n_goto c_22_63 (n_iinc (L2 := [some (2, 44), some (2, 4), some (0, (26 + (-1))), some (0, z369), some (0, z371), some (0, z373)]) c_22_101 rfl rfl rfl (n_goto c_22_104 (n_fg (le_s (le_s (le_s (le_n (le_n (le_n le_0)))))) ?_)))
          exact ih _ M376 hS376 (by omega) (by omega) (by omega) (by omega) (by omega) (by omega) (by omega) (by omega) (by omega)
        · intro h377
          exfalso; omega
set_option maxHeartbeats 4000000 in
theorem beMost_3 {xs : List Int32} {e : Nat} {ac : Int} {M0 M : nM} (hS : Sf 3 ac M0 M)  : nW xs (e + 1) 22 0 [some (2, 44), some (2, 4), none, none, none, none] [] M (nPV fun M1 => Sf 3 ac M0 M1) := by
  have hd : (3 : Int) = 2 ∨ (3 : Int) = 3 := by decide
  have hac := hS.2.2.2.2
  refine n_aload_n c_22_0 rfl (n_iconst c_22_1 (n_aload_n c_22_2 rfl (n_getV (bi := 0) c_22_3 sc_4.n rfl rfl rfl (t_4_0 hS) ?_)))
  intro z1 ez1 f2
  obtain rfl : z1 = 3 := by omega
  refine n_aload_n c_22_6 rfl (n_v3V c_22_7 rfl sc_44.n rfl rfl rfl rfl (begin_3 (n := 3) (c := 3) hS (by omega) (by omega)) ?_)
  intro  M3 hP4
  obtain ⟨hS3, f4p0⟩ := hP4
  refine n_aload_n c_22_10 rfl (n_getV (bi := 1) c_22_11 sc_4.n rfl rfl rfl (t_4_1 hS3) ?_)
  intro z5 ez5 f6
  obtain rfl : z5 = 27 := by omega
  refine n_iconst c_22_14 (n_isub c_22_15 rfl (n_istore_n (L2 := [some (2, 44), some (2, 4), some (0, (27 - 1)), none, none, none]) c_22_16 rfl rfl (n_fg (le_s (le_s (le_s (le_n (le_n (le_n le_0)))))) ?_)))
  exact (beMost_3_c hS  68) _ M3 hS3 (by omega) (by omega) (by omega) (by omega) (by omega) (by omega) (by omega) (by omega) (by omega)
