/-! The methods, by program. -/
set_option maxHeartbeats 4000000 in
theorem ibits_2 {xs : List Int32} {e : Nat} {ac : Int} {M0 M : nM} {x : Int} (hS : Sf 2 ac M0 M) (hx : -2147483648 ≤ x ∧ x ≤ 2147483647) : nW xs e 202 0 [some (0, x)] [] M (nPI fun z M1 => M = M1 ∧ (0 ≤ z ∧ z ≤ 63)) := by
  have hd : (2 : Int) = 2 ∨ (2 : Int) = 3 := by decide
  have hac := hS.2.2.2.2
  refine n_iload_n c_202_0 rfl (n_iload_n c_202_1 rfl (n_iconst c_202_2 (n_i_iushr c_202_3 rfl ?_)))
  have f1 := n_ushr_r x 1
  generalize (n_ushr x 1) = z2 at f1 ⊢
  refine n_ldc_w (n := 1431655765) c_202_4 rfl (n_i_iand c_202_7 rfl ?_)
  have f3 := n_and_y (x := z2) (y := 1431655765) (by omega)
  generalize (n_and z2 1431655765) = z4 at f3 ⊢
  refine n_isub c_202_8 rfl (n_wrap ?_)
  have f5 := n_wr_r (x - z4)
  generalize n_wr (x - z4) = z6 at f5 ⊢
  refine n_istore_n (L2 := [some (0, z6)]) c_202_9 rfl rfl (n_iload_n c_202_10 rfl (n_ldc_w (n := 858993459) c_202_11 rfl (n_i_iand c_202_14 rfl ?_)))
  have f7 := n_and_y (x := z6) (y := 858993459) (by omega)
  generalize (n_and z6 858993459) = z8 at f7 ⊢
  refine n_iload_n c_202_15 rfl (n_iconst c_202_16 (n_i_iushr c_202_17 rfl ?_))
  have f9 := n_ushr_r z6 2
  generalize (n_ushr z6 2) = z10 at f9 ⊢
  refine n_ldc_w (n := 858993459) c_202_18 rfl (n_i_iand c_202_21 rfl ?_)
  have f11 := n_and_y (x := z10) (y := 858993459) (by omega)
  generalize (n_and z10 858993459) = z12 at f11 ⊢
  refine n_iadd c_202_22 rfl (n_istore_n (L2 := [some (0, (z8 + z12))]) c_202_23 rfl rfl (n_iload_n c_202_24 rfl (n_iload_n c_202_25 rfl (n_iconst c_202_26 (n_i_iushr c_202_27 rfl ?_)))))
  have f13 := n_ushr_r (z8 + z12) 4
  generalize (n_ushr (z8 + z12) 4) = z14 at f13 ⊢
  refine n_iadd c_202_28 rfl (n_wrap ?_)
  have f15 := n_wr_r ((z8 + z12) + z14)
  generalize n_wr ((z8 + z12) + z14) = z16 at f15 ⊢
  refine n_ldc_w (n := 252645135) c_202_29 rfl (n_i_iand c_202_32 rfl ?_)
  have f17 := n_and_y (x := z16) (y := 252645135) (by omega)
  generalize (n_and z16 252645135) = z18 at f17 ⊢
  refine n_istore_n (L2 := [some (0, z18)]) c_202_33 rfl rfl (n_iload_n c_202_34 rfl (n_iload_n c_202_35 rfl (n_bipush c_202_36 rfl (n_i_iushr c_202_38 rfl ?_))))
  have f19 := n_ushr_r z18 8
  generalize (n_ushr z18 8) = z20 at f19 ⊢
  refine n_iadd c_202_39 rfl (n_wrap ?_)
  have f21 := n_wr_r (z18 + z20)
  generalize n_wr (z18 + z20) = z22 at f21 ⊢
  refine n_istore_n (L2 := [some (0, z22)]) c_202_40 rfl rfl (n_iload_n c_202_41 rfl (n_iload_n c_202_42 rfl (n_bipush c_202_43 rfl (n_i_iushr c_202_45 rfl ?_))))
  have f23 := n_ushr_r z22 16
  generalize (n_ushr z22 16) = z24 at f23 ⊢
  refine n_iadd c_202_46 rfl (n_wrap ?_)
  have f25 := n_wr_r (z22 + z24)
  generalize n_wr (z22 + z24) = z26 at f25 ⊢
  refine n_istore_n (L2 := [some (0, z26)]) c_202_47 rfl rfl (n_iload_n c_202_48 rfl (n_bipush c_202_49 rfl (n_i_iand c_202_51 rfl ?_)))
  have f27 := n_and_y (x := z26) (y := 63) (by omega)
  generalize (n_and z26 63) = z28 at f27 ⊢
  exact n_rI c_202_52 rfl ⟨rfl, by omega⟩

set_option maxHeartbeats 4000000 in
theorem lbits_2 {xs : List Int32} {e : Nat} {ac : Int} {M0 M : nM} {x : Int} (hS : Sf 2 ac M0 M) (hx : -9223372036854775808 ≤ x ∧ x ≤ 9223372036854775807) : nW xs e 203 0 [some (1, x), none] [] M (nPI fun z M1 => M = M1 ∧ (0 ≤ z ∧ z ≤ 127)) := by
  have hd : (2 : Int) = 2 ∨ (2 : Int) = 3 := by decide
  have hac := hS.2.2.2.2
  refine n_lload_n c_203_0 rfl (n_lload_n c_203_1 rfl (n_iconst c_203_2 (n_i_lushr c_203_3 rfl ?_)))
  have f1 := n_lushr_r x 1
  generalize (n_lushr x 1) = z2 at f1 ⊢
  refine n_ldc2 (n := 6148914691236517205) c_203_4 rfl (n_i_land c_203_7 rfl ?_)
  have f3 := n_land_r z2 6148914691236517205
  generalize (n_land z2 6148914691236517205) = z4 at f3 ⊢
  refine n_lsub c_203_8 rfl (n_wrapl ?_)
  have f5 := n_wl_r (x - z4)
  generalize n_wl (x - z4) = z6 at f5 ⊢
  refine n_lstore_n (L2 := [some (1, z6), none]) c_203_9 rfl rfl (n_lload_n c_203_10 rfl (n_ldc2 (n := 3689348814741910323) c_203_11 rfl (n_i_land c_203_14 rfl ?_)))
  have f7 := n_land_r z6 3689348814741910323
  generalize (n_land z6 3689348814741910323) = z8 at f7 ⊢
  refine n_lload_n c_203_15 rfl (n_iconst c_203_16 (n_i_lushr c_203_17 rfl ?_))
  have f9 := n_lushr_r z6 2
  generalize (n_lushr z6 2) = z10 at f9 ⊢
  refine n_ldc2 (n := 3689348814741910323) c_203_18 rfl (n_i_land c_203_21 rfl ?_)
  have f11 := n_land_r z10 3689348814741910323
  generalize (n_land z10 3689348814741910323) = z12 at f11 ⊢
  refine n_ladd c_203_22 rfl (n_wrapl ?_)
  have f13 := n_wl_r (z8 + z12)
  generalize n_wl (z8 + z12) = z14 at f13 ⊢
  refine n_lstore_n (L2 := [some (1, z14), none]) c_203_23 rfl rfl (n_lload_n c_203_24 rfl (n_lload_n c_203_25 rfl (n_iconst c_203_26 (n_i_lushr c_203_27 rfl ?_))))
  have f15 := n_lushr_r z14 4
  generalize (n_lushr z14 4) = z16 at f15 ⊢
  refine n_ladd c_203_28 rfl (n_wrapl ?_)
  have f17 := n_wl_r (z14 + z16)
  generalize n_wl (z14 + z16) = z18 at f17 ⊢
  refine n_ldc2 (n := 1085102592571150095) c_203_29 rfl (n_i_land c_203_32 rfl ?_)
  have f19 := n_land_r z18 1085102592571150095
  generalize (n_land z18 1085102592571150095) = z20 at f19 ⊢
  refine n_lstore_n (L2 := [some (1, z20), none]) c_203_33 rfl rfl (n_lload_n c_203_34 rfl (n_lload_n c_203_35 rfl (n_bipush c_203_36 rfl (n_i_lushr c_203_38 rfl ?_))))
  have f21 := n_lushr_r z20 8
  generalize (n_lushr z20 8) = z22 at f21 ⊢
  refine n_ladd c_203_39 rfl (n_wrapl ?_)
  have f23 := n_wl_r (z20 + z22)
  generalize n_wl (z20 + z22) = z24 at f23 ⊢
  refine n_lstore_n (L2 := [some (1, z24), none]) c_203_40 rfl rfl (n_lload_n c_203_41 rfl (n_lload_n c_203_42 rfl (n_bipush c_203_43 rfl (n_i_lushr c_203_45 rfl ?_))))
  have f25 := n_lushr_r z24 16
  generalize (n_lushr z24 16) = z26 at f25 ⊢
  refine n_ladd c_203_46 rfl (n_wrapl ?_)
  have f27 := n_wl_r (z24 + z26)
  generalize n_wl (z24 + z26) = z28 at f27 ⊢
  refine n_lstore_n (L2 := [some (1, z28), none]) c_203_47 rfl rfl (n_lload_n c_203_48 rfl (n_lload_n c_203_49 rfl (n_bipush c_203_50 rfl (n_i_lushr c_203_52 rfl ?_))))
  have f29 := n_lushr_r z28 32
  generalize (n_lushr z28 32) = z30 at f29 ⊢
  refine n_ladd c_203_53 rfl (n_wrapl ?_)
  have f31 := n_wl_r (z28 + z30)
  generalize n_wl (z28 + z30) = z32 at f31 ⊢
  refine n_lstore_n (L2 := [some (1, z32), none]) c_203_54 rfl rfl (n_lload_n c_203_55 rfl (n_l2i c_203_56 (n_wrap ?_)))
  have f33 := n_wr_r z32
  generalize n_wr z32 = z34 at f33 ⊢
  refine n_bipush c_203_57 rfl (n_i_iand c_203_59 rfl ?_)
  have f35 := n_and_y (x := z34) (y := 127) (by omega)
  generalize (n_and z34 127) = z36 at f35 ⊢
  exact n_rI c_203_60 rfl ⟨rfl, by omega⟩

set_option maxHeartbeats 4000000 in
theorem imax_2 {xs : List Int32} {e : Nat} {ac : Int} {M0 M : nM} {x y : Int} (hS : Sf 2 ac M0 M) (hx : -2147483648 ≤ x ∧ x ≤ 2147483647) (hy : -2147483648 ≤ y ∧ y ≤ 2147483647) : nW xs e 205 0 [some (0, x), some (0, y)] [] M (nPI fun z M1 => M = M1 ∧ (-2147483648 ≤ z ∧ z ≤ 2147483647) ∧ (x ≤ z ∧ y ≤ z ∧ (z = x ∨ z = y))) := by
  have hd : (2 : Int) = 2 ∨ (2 : Int) = 3 := by decide
  have hac := hS.2.2.2.2
  refine n_iload_n c_205_0 rfl (n_iload_n c_205_1 rfl ?_)
  refine n_if2_lt c_205_2 (by omega) (by omega) ?_ ?_
  · intro h1
    refine n_iload_n c_205_9 rfl ?_
    exact n_rI c_205_10 rfl ⟨rfl, by omega, by omega⟩
  · intro h2
    refine n_iload_n c_205_5 rfl (n_goto c_205_6 ?_)
    exact n_rI c_205_10 rfl ⟨rfl, by omega, by omega⟩

set_option maxHeartbeats 4000000 in
theorem imin_2 {xs : List Int32} {e : Nat} {ac : Int} {M0 M : nM} {x y : Int} (hS : Sf 2 ac M0 M) (hx : -2147483648 ≤ x ∧ x ≤ 2147483647) (hy : -2147483648 ≤ y ∧ y ≤ 2147483647) : nW xs e 206 0 [some (0, x), some (0, y)] [] M (nPI fun z M1 => M = M1 ∧ (-2147483648 ≤ z ∧ z ≤ 2147483647) ∧ (z ≤ x ∧ z ≤ y ∧ (z = x ∨ z = y))) := by
  have hd : (2 : Int) = 2 ∨ (2 : Int) = 3 := by decide
  have hac := hS.2.2.2.2
  refine n_iload_n c_206_0 rfl (n_iload_n c_206_1 rfl ?_)
  refine n_if2_gt c_206_2 (by omega) (by omega) ?_ ?_
  · intro h1
    refine n_iload_n c_206_9 rfl ?_
    exact n_rI c_206_10 rfl ⟨rfl, by omega, by omega⟩
  · intro h2
    refine n_iload_n c_206_5 rfl (n_goto c_206_6 ?_)
    exact n_rI c_206_10 rfl ⟨rfl, by omega, by omega⟩

set_option maxHeartbeats 4000000 in
theorem fill40_2_c {xs : List Int32} {e : Nat} {ac : Int} {M0 M : nM} {v : Int} (hS : Sf 2 ac M0 M) (hv : -2147483648 ≤ v ∧ v ≤ 2147483647) : ∀ nn : Nat, (∀ (x2 x3 : Int) (M : nM), Sf 2 ac M0 M → (0 ≤ x2 ∧ x2 ≤ 729) → (729 ≤ x3 ∧ x3 ≤ 729) → (729 - x2) * 1 + 1 < (nn : Int) → nW xs e 208 5 [some (2, 40), some (0, v), some (0, x2), some (0, x3)] [] M (nPV fun M1 => Sf 2 ac M0 M1)) := by
  have hd : (2 : Int) = 2 ∨ (2 : Int) = 3 := by decide
  have hac := hS.2.2.2.2
  intro nn
  induction nn with
  | zero => intros; omega
  | succ nn ih =>
    intro x2 x3 M hS k2 k3 hnn
    refine n_iload_n c_208_5 rfl (n_iload_n c_208_6 rfl ?_)
    refine n_if2_ge c_208_7 (by omega) (by omega) ?_ ?_
    · intro h1
      exact n_rV c_208_20 rfl hS
    · intro h2
      refine n_aload_n c_208_10 rfl (n_iload_n c_208_11 rfl (n_iload_n c_208_12 rfl (n_iastoreV hS c_208_13 sc_40.n rfl (by omega) (w_40 (by omega) (by omega)) ?_)))
      intro M3 eM3 hS3
      refine n_iinc (L2 := [some (2, 40), some (0, v), some (0, (x2 + 1)), some (0, x3)]) c_208_14 rfl rfl rfl (n_goto c_208_17 (n_fg (le_s (le_s (le_s (le_s le_0)))) ?_))
      exact ih _ _ M3 hS3 (by omega) (by omega) (by omega)
set_option maxHeartbeats 4000000 in
theorem fill40_2 {xs : List Int32} {e : Nat} {ac : Int} {M0 M : nM} {v : Int} (hS : Sf 2 ac M0 M) (hv : -2147483648 ≤ v ∧ v ≤ 2147483647) : nW xs e 208 0 [some (2, 40), some (0, v), none, none] [] M (nPV fun M1 => Sf 2 ac M0 M1) := by
  have hd : (2 : Int) = 2 ∨ (2 : Int) = 3 := by decide
  have hac := hS.2.2.2.2
  refine n_iconst c_208_0 (n_istore_n (L2 := [some (2, 40), some (0, v), some (0, 0), none]) c_208_1 rfl rfl (n_aload_n c_208_2 rfl (n_alen c_208_3 sc_40.n rfl (n_istore_n (L2 := [some (2, 40), some (0, v), some (0, 0), some (0, ((729 : Nat) : Int))]) c_208_4 rfl rfl (n_fg (le_s (le_s (le_s (le_s le_0)))) ?_)))))
  exact (fill40_2_c hS hv 1472) _ _ M hS (by omega) (by omega) (by omega)

set_option maxHeartbeats 4000000 in
theorem fill37_2_c {xs : List Int32} {e : Nat} {ac : Int} {M0 M : nM} {v : Int} (hS : Sf 2 ac M0 M) (hv : -2147483648 ≤ v ∧ v ≤ 2147483647) : ∀ nn : Nat, (∀ (x2 x3 : Int) (M : nM), Sf 2 ac M0 M → (0 ≤ x2 ∧ x2 ≤ 8) → (8 ≤ x3 ∧ x3 ≤ 8) → (8 - x2) * 1 + 1 < (nn : Int) → nW xs e 208 5 [some (2, 37), some (0, v), some (0, x2), some (0, x3)] [] M (nPV fun M1 => Sf 2 ac M0 M1)) := by
  have hd : (2 : Int) = 2 ∨ (2 : Int) = 3 := by decide
  have hac := hS.2.2.2.2
  intro nn
  induction nn with
  | zero => intros; omega
  | succ nn ih =>
    intro x2 x3 M hS k2 k3 hnn
    refine n_iload_n c_208_5 rfl (n_iload_n c_208_6 rfl ?_)
    refine n_if2_ge c_208_7 (by omega) (by omega) ?_ ?_
    · intro h1
      exact n_rV c_208_20 rfl hS
    · intro h2
      refine n_aload_n c_208_10 rfl (n_iload_n c_208_11 rfl (n_iload_n c_208_12 rfl (n_iastoreV hS c_208_13 sc_37.n rfl (by omega) (w_37 (by omega) (by omega)) ?_)))
      intro M3 eM3 hS3
      refine n_iinc (L2 := [some (2, 37), some (0, v), some (0, (x2 + 1)), some (0, x3)]) c_208_14 rfl rfl rfl (n_goto c_208_17 (n_fg (le_s (le_s (le_s (le_s le_0)))) ?_))
      exact ih _ _ M3 hS3 (by omega) (by omega) (by omega)
set_option maxHeartbeats 4000000 in
theorem fill37_2 {xs : List Int32} {e : Nat} {ac : Int} {M0 M : nM} {v : Int} (hS : Sf 2 ac M0 M) (hv : -2147483648 ≤ v ∧ v ≤ 2147483647) : nW xs e 208 0 [some (2, 37), some (0, v), none, none] [] M (nPV fun M1 => Sf 2 ac M0 M1) := by
  have hd : (2 : Int) = 2 ∨ (2 : Int) = 3 := by decide
  have hac := hS.2.2.2.2
  refine n_iconst c_208_0 (n_istore_n (L2 := [some (2, 37), some (0, v), some (0, 0), none]) c_208_1 rfl rfl (n_aload_n c_208_2 rfl (n_alen c_208_3 sc_37.n rfl (n_istore_n (L2 := [some (2, 37), some (0, v), some (0, 0), some (0, ((8 : Nat) : Int))]) c_208_4 rfl rfl (n_fg (le_s (le_s (le_s (le_s le_0)))) ?_)))))
  exact (fill37_2_c hS hv 30) _ _ M hS (by omega) (by omega) (by omega)

set_option maxHeartbeats 4000000 in
theorem fill49_2_c {xs : List Int32} {e : Nat} {ac : Int} {M0 M : nM} {v : Int} (hS : Sf 2 ac M0 M) (hv : -9223372036854775808 ≤ v ∧ v ≤ 9223372036854775807) : ∀ nn : Nat, (∀ (x3 x4 : Int) (M : nM), Sf 2 ac M0 M → (0 ≤ x3 ∧ x3 ≤ 103) → (103 ≤ x4 ∧ x4 ≤ 103) → (103 - x3) * 1 + 1 < (nn : Int) → nW xs e 207 6 [some (2, 49), some (1, v), none, some (0, x3), some (0, x4)] [] M (nPV fun M1 => Sf 2 ac M0 M1)) := by
  have hd : (2 : Int) = 2 ∨ (2 : Int) = 3 := by decide
  have hac := hS.2.2.2.2
  intro nn
  induction nn with
  | zero => intros; omega
  | succ nn ih =>
    intro x3 x4 M hS k3 k4 hnn
    refine n_iload_n c_207_6 rfl (n_iload c_207_7 rfl ?_)
    refine n_if2_ge c_207_9 (by omega) (by omega) ?_ ?_
    · intro h1
      exact n_rV c_207_22 rfl hS
    · intro h2
      refine n_aload_n c_207_12 rfl (n_iload_n c_207_13 rfl (n_lload_n c_207_14 rfl (n_lastoreV hS c_207_15 sc_49.n rfl (by omega) (w_49 (by omega) (by omega)) ?_)))
      intro M3 eM3 hS3
      refine n_iinc (L2 := [some (2, 49), some (1, v), none, some (0, (x3 + 1)), some (0, x4)]) c_207_16 rfl rfl rfl (n_goto c_207_19 (n_fg (le_s (le_s (le_n (le_s (le_s le_0))))) ?_))
      exact ih _ _ M3 hS3 (by omega) (by omega) (by omega)
set_option maxHeartbeats 4000000 in
theorem fill49_2 {xs : List Int32} {e : Nat} {ac : Int} {M0 M : nM} {v : Int} (hS : Sf 2 ac M0 M) (hv : -9223372036854775808 ≤ v ∧ v ≤ 9223372036854775807) : nW xs e 207 0 [some (2, 49), some (1, v), none, none, none] [] M (nPV fun M1 => Sf 2 ac M0 M1) := by
  have hd : (2 : Int) = 2 ∨ (2 : Int) = 3 := by decide
  have hac := hS.2.2.2.2
  refine n_iconst c_207_0 (n_istore_n (L2 := [some (2, 49), some (1, v), none, some (0, 0), none]) c_207_1 rfl rfl (n_aload_n c_207_2 rfl (n_alen c_207_3 sc_49.n rfl (n_istore (L2 := [some (2, 49), some (1, v), none, some (0, 0), some (0, ((103 : Nat) : Int))]) c_207_4 rfl rfl (n_fg (le_s (le_s (le_n (le_s (le_s le_0))))) ?_)))))
  exact (fill49_2_c hS hv 220) _ _ M hS (by omega) (by omega) (by omega)

set_option maxHeartbeats 4000000 in
theorem power0_2 {xs : List Int32} {e : Nat} {ac : Int} {M0 M : nM} (hS : Sf 2 ac M0 M)  : nW xs e 12 0 [some (2, 4), some (0, 0), none, none] [] M (nPI fun z M1 => M = M1 ∧ (1 ≤ z ∧ z ≤ 1)) := by
  have hd : (2 : Int) = 2 ∨ (2 : Int) = 3 := by decide
  have hac := hS.2.2.2.2
  refine n_iconst c_12_0 (n_istore_n (L2 := [some (2, 4), some (0, 0), some (0, 1), none]) c_12_1 rfl rfl (n_iconst c_12_2 (n_istore_n (L2 := [some (2, 4), some (0, 0), some (0, 1), some (0, 0)]) c_12_3 rfl rfl (n_iload_n c_12_4 rfl (n_iload_n c_12_5 rfl ?_)))))
  refine n_if2_ge c_12_6 (by omega) (by omega) ?_ ?_
  · intro h1
    refine n_iload_n c_12_22 rfl ?_
    exact n_rI c_12_23 rfl ⟨rfl, by omega⟩
  · intro h2
    exfalso; omega

set_option maxHeartbeats 4000000 in
theorem power1_2 {xs : List Int32} {e : Nat} {ac : Int} {M0 M : nM} (hS : Sf 2 ac M0 M)  : nW xs e 12 0 [some (2, 4), some (0, 1), none, none] [] M (nPI fun z M1 => M = M1 ∧ (2 ≤ z ∧ z ≤ 2)) := by
  have hd : (2 : Int) = 2 ∨ (2 : Int) = 3 := by decide
  have hac := hS.2.2.2.2
  refine n_iconst c_12_0 (n_istore_n (L2 := [some (2, 4), some (0, 1), some (0, 1), none]) c_12_1 rfl rfl (n_iconst c_12_2 (n_istore_n (L2 := [some (2, 4), some (0, 1), some (0, 1), some (0, 0)]) c_12_3 rfl rfl (n_iload_n c_12_4 rfl (n_iload_n c_12_5 rfl ?_)))))
  refine n_if2_ge c_12_6 (by omega) (by omega) ?_ ?_
  · intro h1
    exfalso; omega
  · intro h2
    refine n_iload_n c_12_9 rfl (n_aload_n c_12_10 rfl (n_getV (bi := 0) c_12_11 sc_4.n rfl rfl rfl (t_4_0 hS) ?_))
    intro z3 ez3 f4
    obtain rfl : z3 = 2 := by omega
    refine n_imul c_12_14 rfl (n_istore_n (L2 := [some (2, 4), some (0, 1), some (0, (1 * 2)), some (0, 0)]) c_12_15 rfl rfl (n_iinc (L2 := [some (2, 4), some (0, 1), some (0, (1 * 2)), some (0, (0 + 1))]) c_12_16 rfl rfl rfl (n_goto c_12_19 (n_iload_n c_12_4 rfl (n_iload_n c_12_5 rfl ?_)))))
    refine n_if2_ge c_12_6 (by omega) (by omega) ?_ ?_
    · intro h5
      refine n_iload_n c_12_22 rfl ?_
      exact n_rI c_12_23 rfl ⟨rfl, by omega⟩
    · intro h6
      exfalso; omega

set_option maxHeartbeats 4000000 in
theorem power2_2 {xs : List Int32} {e : Nat} {ac : Int} {M0 M : nM} (hS : Sf 2 ac M0 M)  : nW xs e 12 0 [some (2, 4), some (0, 2), none, none] [] M (nPI fun z M1 => M = M1 ∧ (4 ≤ z ∧ z ≤ 4)) := by
  have hd : (2 : Int) = 2 ∨ (2 : Int) = 3 := by decide
  have hac := hS.2.2.2.2
  refine n_iconst c_12_0 (n_istore_n (L2 := [some (2, 4), some (0, 2), some (0, 1), none]) c_12_1 rfl rfl (n_iconst c_12_2 (n_istore_n (L2 := [some (2, 4), some (0, 2), some (0, 1), some (0, 0)]) c_12_3 rfl rfl (n_iload_n c_12_4 rfl (n_iload_n c_12_5 rfl ?_)))))
  refine n_if2_ge c_12_6 (by omega) (by omega) ?_ ?_
  · intro h1
    exfalso; omega
  · intro h2
    refine n_iload_n c_12_9 rfl (n_aload_n c_12_10 rfl (n_getV (bi := 0) c_12_11 sc_4.n rfl rfl rfl (t_4_0 hS) ?_))
    intro z3 ez3 f4
    obtain rfl : z3 = 2 := by omega
    refine n_imul c_12_14 rfl (n_istore_n (L2 := [some (2, 4), some (0, 2), some (0, (1 * 2)), some (0, 0)]) c_12_15 rfl rfl (n_iinc (L2 := [some (2, 4), some (0, 2), some (0, (1 * 2)), some (0, (0 + 1))]) c_12_16 rfl rfl rfl (n_goto c_12_19 (n_iload_n c_12_4 rfl (n_iload_n c_12_5 rfl ?_)))))
    refine n_if2_ge c_12_6 (by omega) (by omega) ?_ ?_
    · intro h5
      exfalso; omega
    · intro h6
      refine n_iload_n c_12_9 rfl (n_aload_n c_12_10 rfl (n_getV (bi := 0) c_12_11 sc_4.n rfl rfl rfl (t_4_0 hS) ?_))
      intro z7 ez7 f8
      obtain rfl : z7 = 2 := by omega
      refine n_imul c_12_14 rfl (n_istore_n (L2 := [some (2, 4), some (0, 2), some (0, ((1 * 2) * 2)), some (0, (0 + 1))]) c_12_15 rfl rfl (n_iinc (L2 := [some (2, 4), some (0, 2), some (0, ((1 * 2) * 2)), some (0, ((0 + 1) + 1))]) c_12_16 rfl rfl rfl (n_goto c_12_19 (n_iload_n c_12_4 rfl (n_iload_n c_12_5 rfl ?_)))))
      refine n_if2_ge c_12_6 (by omega) (by omega) ?_ ?_
      · intro h9
        refine n_iload_n c_12_22 rfl ?_
        exact n_rI c_12_23 rfl ⟨rfl, by omega⟩
      · intro h10
        exfalso; omega

set_option maxHeartbeats 4000000 in
theorem power3_2 {xs : List Int32} {e : Nat} {ac : Int} {M0 M : nM} (hS : Sf 2 ac M0 M)  : nW xs e 12 0 [some (2, 4), some (0, 3), none, none] [] M (nPI fun z M1 => M = M1 ∧ (8 ≤ z ∧ z ≤ 8)) := by
  have hd : (2 : Int) = 2 ∨ (2 : Int) = 3 := by decide
  have hac := hS.2.2.2.2
  refine n_iconst c_12_0 (n_istore_n (L2 := [some (2, 4), some (0, 3), some (0, 1), none]) c_12_1 rfl rfl (n_iconst c_12_2 (n_istore_n (L2 := [some (2, 4), some (0, 3), some (0, 1), some (0, 0)]) c_12_3 rfl rfl (n_iload_n c_12_4 rfl (n_iload_n c_12_5 rfl ?_)))))
  refine n_if2_ge c_12_6 (by omega) (by omega) ?_ ?_
  · intro h1
    exfalso; omega
  · intro h2
    refine n_iload_n c_12_9 rfl (n_aload_n c_12_10 rfl (n_getV (bi := 0) c_12_11 sc_4.n rfl rfl rfl (t_4_0 hS) ?_))
    intro z3 ez3 f4
    obtain rfl : z3 = 2 := by omega
    refine n_imul c_12_14 rfl (n_istore_n (L2 := [some (2, 4), some (0, 3), some (0, (1 * 2)), some (0, 0)]) c_12_15 rfl rfl (n_iinc (L2 := [some (2, 4), some (0, 3), some (0, (1 * 2)), some (0, (0 + 1))]) c_12_16 rfl rfl rfl (n_goto c_12_19 (n_iload_n c_12_4 rfl (n_iload_n c_12_5 rfl ?_)))))
    refine n_if2_ge c_12_6 (by omega) (by omega) ?_ ?_
    · intro h5
      exfalso; omega
    · intro h6
      refine n_iload_n c_12_9 rfl (n_aload_n c_12_10 rfl (n_getV (bi := 0) c_12_11 sc_4.n rfl rfl rfl (t_4_0 hS) ?_))
      intro z7 ez7 f8
      obtain rfl : z7 = 2 := by omega
      refine n_imul c_12_14 rfl (n_istore_n (L2 := [some (2, 4), some (0, 3), some (0, ((1 * 2) * 2)), some (0, (0 + 1))]) c_12_15 rfl rfl (n_iinc (L2 := [some (2, 4), some (0, 3), some (0, ((1 * 2) * 2)), some (0, ((0 + 1) + 1))]) c_12_16 rfl rfl rfl (n_goto c_12_19 (n_iload_n c_12_4 rfl (n_iload_n c_12_5 rfl ?_)))))
      refine n_if2_ge c_12_6 (by omega) (by omega) ?_ ?_
      · intro h9
        exfalso; omega
      · intro h10
        refine n_iload_n c_12_9 rfl (n_aload_n c_12_10 rfl (n_getV (bi := 0) c_12_11 sc_4.n rfl rfl rfl (t_4_0 hS) ?_))
        intro z11 ez11 f12
        obtain rfl : z11 = 2 := by omega
        refine n_imul c_12_14 rfl (n_istore_n (L2 := [some (2, 4), some (0, 3), some (0, (((1 * 2) * 2) * 2)), some (0, ((0 + 1) + 1))]) c_12_15 rfl rfl (n_iinc (L2 := [some (2, 4), some (0, 3), some (0, (((1 * 2) * 2) * 2)), some (0, (((0 + 1) + 1) + 1))]) c_12_16 rfl rfl rfl (n_goto c_12_19 (n_iload_n c_12_4 rfl (n_iload_n c_12_5 rfl ?_)))))
        refine n_if2_ge c_12_6 (by omega) (by omega) ?_ ?_
        · intro h13
          refine n_iload_n c_12_22 rfl ?_
          exact n_rI c_12_23 rfl ⟨rfl, by omega⟩
        · intro h14
          exfalso; omega

set_option maxHeartbeats 4000000 in
theorem power4_2 {xs : List Int32} {e : Nat} {ac : Int} {M0 M : nM} (hS : Sf 2 ac M0 M)  : nW xs e 12 0 [some (2, 4), some (0, 4), none, none] [] M (nPI fun z M1 => M = M1 ∧ (16 ≤ z ∧ z ≤ 16)) := by
  have hd : (2 : Int) = 2 ∨ (2 : Int) = 3 := by decide
  have hac := hS.2.2.2.2
  refine n_iconst c_12_0 (n_istore_n (L2 := [some (2, 4), some (0, 4), some (0, 1), none]) c_12_1 rfl rfl (n_iconst c_12_2 (n_istore_n (L2 := [some (2, 4), some (0, 4), some (0, 1), some (0, 0)]) c_12_3 rfl rfl (n_iload_n c_12_4 rfl (n_iload_n c_12_5 rfl ?_)))))
  refine n_if2_ge c_12_6 (by omega) (by omega) ?_ ?_
  · intro h1
    exfalso; omega
  · intro h2
    refine n_iload_n c_12_9 rfl (n_aload_n c_12_10 rfl (n_getV (bi := 0) c_12_11 sc_4.n rfl rfl rfl (t_4_0 hS) ?_))
    intro z3 ez3 f4
    obtain rfl : z3 = 2 := by omega
    refine n_imul c_12_14 rfl (n_istore_n (L2 := [some (2, 4), some (0, 4), some (0, (1 * 2)), some (0, 0)]) c_12_15 rfl rfl (n_iinc (L2 := [some (2, 4), some (0, 4), some (0, (1 * 2)), some (0, (0 + 1))]) c_12_16 rfl rfl rfl (n_goto c_12_19 (n_iload_n c_12_4 rfl (n_iload_n c_12_5 rfl ?_)))))
    refine n_if2_ge c_12_6 (by omega) (by omega) ?_ ?_
    · intro h5
      exfalso; omega
    · intro h6
      refine n_iload_n c_12_9 rfl (n_aload_n c_12_10 rfl (n_getV (bi := 0) c_12_11 sc_4.n rfl rfl rfl (t_4_0 hS) ?_))
      intro z7 ez7 f8
      obtain rfl : z7 = 2 := by omega
      refine n_imul c_12_14 rfl (n_istore_n (L2 := [some (2, 4), some (0, 4), some (0, ((1 * 2) * 2)), some (0, (0 + 1))]) c_12_15 rfl rfl (n_iinc (L2 := [some (2, 4), some (0, 4), some (0, ((1 * 2) * 2)), some (0, ((0 + 1) + 1))]) c_12_16 rfl rfl rfl (n_goto c_12_19 (n_iload_n c_12_4 rfl (n_iload_n c_12_5 rfl ?_)))))
      refine n_if2_ge c_12_6 (by omega) (by omega) ?_ ?_
      · intro h9
        exfalso; omega
      · intro h10
        refine n_iload_n c_12_9 rfl (n_aload_n c_12_10 rfl (n_getV (bi := 0) c_12_11 sc_4.n rfl rfl rfl (t_4_0 hS) ?_))
        intro z11 ez11 f12
        obtain rfl : z11 = 2 := by omega
        refine n_imul c_12_14 rfl (n_istore_n (L2 := [some (2, 4), some (0, 4), some (0, (((1 * 2) * 2) * 2)), some (0, ((0 + 1) + 1))]) c_12_15 rfl rfl (n_iinc (L2 := [some (2, 4), some (0, 4), some (0, (((1 * 2) * 2) * 2)), some (0, (((0 + 1) + 1) + 1))]) c_12_16 rfl rfl rfl (n_goto c_12_19 (n_iload_n c_12_4 rfl (n_iload_n c_12_5 rfl ?_)))))
        refine n_if2_ge c_12_6 (by omega) (by omega) ?_ ?_
        · intro h13
          exfalso; omega
        · intro h14
          refine n_iload_n c_12_9 rfl (n_aload_n c_12_10 rfl (n_getV (bi := 0) c_12_11 sc_4.n rfl rfl rfl (t_4_0 hS) ?_))
          intro z15 ez15 f16
          obtain rfl : z15 = 2 := by omega
          refine n_imul c_12_14 rfl (n_istore_n (L2 := [some (2, 4), some (0, 4), some (0, ((((1 * 2) * 2) * 2) * 2)), some (0, (((0 + 1) + 1) + 1))]) c_12_15 rfl rfl (n_iinc (L2 := [some (2, 4), some (0, 4), some (0, ((((1 * 2) * 2) * 2) * 2)), some (0, ((((0 + 1) + 1) + 1) + 1))]) c_12_16 rfl rfl rfl (n_goto c_12_19 (n_iload_n c_12_4 rfl (n_iload_n c_12_5 rfl ?_)))))
          refine n_if2_ge c_12_6 (by omega) (by omega) ?_ ?_
          · intro h17
            refine n_iload_n c_12_22 rfl ?_
            exact n_rI c_12_23 rfl ⟨rfl, by omega⟩
          · intro h18
            exfalso; omega

set_option maxHeartbeats 4000000 in
theorem power5_2 {xs : List Int32} {e : Nat} {ac : Int} {M0 M : nM} (hS : Sf 2 ac M0 M)  : nW xs e 12 0 [some (2, 4), some (0, 5), none, none] [] M (nPI fun z M1 => M = M1 ∧ (32 ≤ z ∧ z ≤ 32)) := by
  have hd : (2 : Int) = 2 ∨ (2 : Int) = 3 := by decide
  have hac := hS.2.2.2.2
  refine n_iconst c_12_0 (n_istore_n (L2 := [some (2, 4), some (0, 5), some (0, 1), none]) c_12_1 rfl rfl (n_iconst c_12_2 (n_istore_n (L2 := [some (2, 4), some (0, 5), some (0, 1), some (0, 0)]) c_12_3 rfl rfl (n_iload_n c_12_4 rfl (n_iload_n c_12_5 rfl ?_)))))
  refine n_if2_ge c_12_6 (by omega) (by omega) ?_ ?_
  · intro h1
    exfalso; omega
  · intro h2
    refine n_iload_n c_12_9 rfl (n_aload_n c_12_10 rfl (n_getV (bi := 0) c_12_11 sc_4.n rfl rfl rfl (t_4_0 hS) ?_))
    intro z3 ez3 f4
    obtain rfl : z3 = 2 := by omega
    refine n_imul c_12_14 rfl (n_istore_n (L2 := [some (2, 4), some (0, 5), some (0, (1 * 2)), some (0, 0)]) c_12_15 rfl rfl (n_iinc (L2 := [some (2, 4), some (0, 5), some (0, (1 * 2)), some (0, (0 + 1))]) c_12_16 rfl rfl rfl (n_goto c_12_19 (n_iload_n c_12_4 rfl (n_iload_n c_12_5 rfl ?_)))))
    refine n_if2_ge c_12_6 (by omega) (by omega) ?_ ?_
    · intro h5
      exfalso; omega
    · intro h6
      refine n_iload_n c_12_9 rfl (n_aload_n c_12_10 rfl (n_getV (bi := 0) c_12_11 sc_4.n rfl rfl rfl (t_4_0 hS) ?_))
      intro z7 ez7 f8
      obtain rfl : z7 = 2 := by omega
      refine n_imul c_12_14 rfl (n_istore_n (L2 := [some (2, 4), some (0, 5), some (0, ((1 * 2) * 2)), some (0, (0 + 1))]) c_12_15 rfl rfl (n_iinc (L2 := [some (2, 4), some (0, 5), some (0, ((1 * 2) * 2)), some (0, ((0 + 1) + 1))]) c_12_16 rfl rfl rfl (n_goto c_12_19 (n_iload_n c_12_4 rfl (n_iload_n c_12_5 rfl ?_)))))
      refine n_if2_ge c_12_6 (by omega) (by omega) ?_ ?_
      · intro h9
        exfalso; omega
      · intro h10
        refine n_iload_n c_12_9 rfl (n_aload_n c_12_10 rfl (n_getV (bi := 0) c_12_11 sc_4.n rfl rfl rfl (t_4_0 hS) ?_))
        intro z11 ez11 f12
        obtain rfl : z11 = 2 := by omega
        refine n_imul c_12_14 rfl (n_istore_n (L2 := [some (2, 4), some (0, 5), some (0, (((1 * 2) * 2) * 2)), some (0, ((0 + 1) + 1))]) c_12_15 rfl rfl (n_iinc (L2 := [some (2, 4), some (0, 5), some (0, (((1 * 2) * 2) * 2)), some (0, (((0 + 1) + 1) + 1))]) c_12_16 rfl rfl rfl (n_goto c_12_19 (n_iload_n c_12_4 rfl (n_iload_n c_12_5 rfl ?_)))))
        refine n_if2_ge c_12_6 (by omega) (by omega) ?_ ?_
        · intro h13
          exfalso; omega
        · intro h14
          refine n_iload_n c_12_9 rfl (n_aload_n c_12_10 rfl (n_getV (bi := 0) c_12_11 sc_4.n rfl rfl rfl (t_4_0 hS) ?_))
          intro z15 ez15 f16
          obtain rfl : z15 = 2 := by omega
          refine n_imul c_12_14 rfl (n_istore_n (L2 := [some (2, 4), some (0, 5), some (0, ((((1 * 2) * 2) * 2) * 2)), some (0, (((0 + 1) + 1) + 1))]) c_12_15 rfl rfl (n_iinc (L2 := [some (2, 4), some (0, 5), some (0, ((((1 * 2) * 2) * 2) * 2)), some (0, ((((0 + 1) + 1) + 1) + 1))]) c_12_16 rfl rfl rfl (n_goto c_12_19 (n_iload_n c_12_4 rfl (n_iload_n c_12_5 rfl ?_)))))
          refine n_if2_ge c_12_6 (by omega) (by omega) ?_ ?_
          · intro h17
            exfalso; omega
          · intro h18
            refine n_iload_n c_12_9 rfl (n_aload_n c_12_10 rfl (n_getV (bi := 0) c_12_11 sc_4.n rfl rfl rfl (t_4_0 hS) ?_))
            intro z19 ez19 f20
            obtain rfl : z19 = 2 := by omega
            refine n_imul c_12_14 rfl (n_istore_n (L2 := [some (2, 4), some (0, 5), some (0, (((((1 * 2) * 2) * 2) * 2) * 2)), some (0, ((((0 + 1) + 1) + 1) + 1))]) c_12_15 rfl rfl (n_iinc (L2 := [some (2, 4), some (0, 5), some (0, (((((1 * 2) * 2) * 2) * 2) * 2)), some (0, (((((0 + 1) + 1) + 1) + 1) + 1))]) c_12_16 rfl rfl rfl (n_goto c_12_19 (n_iload_n c_12_4 rfl (n_iload_n c_12_5 rfl ?_)))))
            refine n_if2_ge c_12_6 (by omega) (by omega) ?_ ?_
            · intro h21
              refine n_iload_n c_12_22 rfl ?_
              exact n_rI c_12_23 rfl ⟨rfl, by omega⟩
            · intro h22
              exfalso; omega

set_option maxHeartbeats 4000000 in
theorem power6_2 {xs : List Int32} {e : Nat} {ac : Int} {M0 M : nM} (hS : Sf 2 ac M0 M)  : nW xs e 12 0 [some (2, 4), some (0, 6), none, none] [] M (nPI fun z M1 => M = M1 ∧ (64 ≤ z ∧ z ≤ 64)) := by
  have hd : (2 : Int) = 2 ∨ (2 : Int) = 3 := by decide
  have hac := hS.2.2.2.2
  refine n_iconst c_12_0 (n_istore_n (L2 := [some (2, 4), some (0, 6), some (0, 1), none]) c_12_1 rfl rfl (n_iconst c_12_2 (n_istore_n (L2 := [some (2, 4), some (0, 6), some (0, 1), some (0, 0)]) c_12_3 rfl rfl (n_iload_n c_12_4 rfl (n_iload_n c_12_5 rfl ?_)))))
  refine n_if2_ge c_12_6 (by omega) (by omega) ?_ ?_
  · intro h1
    exfalso; omega
  · intro h2
    refine n_iload_n c_12_9 rfl (n_aload_n c_12_10 rfl (n_getV (bi := 0) c_12_11 sc_4.n rfl rfl rfl (t_4_0 hS) ?_))
    intro z3 ez3 f4
    obtain rfl : z3 = 2 := by omega
    refine n_imul c_12_14 rfl (n_istore_n (L2 := [some (2, 4), some (0, 6), some (0, (1 * 2)), some (0, 0)]) c_12_15 rfl rfl (n_iinc (L2 := [some (2, 4), some (0, 6), some (0, (1 * 2)), some (0, (0 + 1))]) c_12_16 rfl rfl rfl (n_goto c_12_19 (n_iload_n c_12_4 rfl (n_iload_n c_12_5 rfl ?_)))))
    refine n_if2_ge c_12_6 (by omega) (by omega) ?_ ?_
    · intro h5
      exfalso; omega
    · intro h6
      refine n_iload_n c_12_9 rfl (n_aload_n c_12_10 rfl (n_getV (bi := 0) c_12_11 sc_4.n rfl rfl rfl (t_4_0 hS) ?_))
      intro z7 ez7 f8
      obtain rfl : z7 = 2 := by omega
      refine n_imul c_12_14 rfl (n_istore_n (L2 := [some (2, 4), some (0, 6), some (0, ((1 * 2) * 2)), some (0, (0 + 1))]) c_12_15 rfl rfl (n_iinc (L2 := [some (2, 4), some (0, 6), some (0, ((1 * 2) * 2)), some (0, ((0 + 1) + 1))]) c_12_16 rfl rfl rfl (n_goto c_12_19 (n_iload_n c_12_4 rfl (n_iload_n c_12_5 rfl ?_)))))
      refine n_if2_ge c_12_6 (by omega) (by omega) ?_ ?_
      · intro h9
        exfalso; omega
      · intro h10
        refine n_iload_n c_12_9 rfl (n_aload_n c_12_10 rfl (n_getV (bi := 0) c_12_11 sc_4.n rfl rfl rfl (t_4_0 hS) ?_))
        intro z11 ez11 f12
        obtain rfl : z11 = 2 := by omega
        refine n_imul c_12_14 rfl (n_istore_n (L2 := [some (2, 4), some (0, 6), some (0, (((1 * 2) * 2) * 2)), some (0, ((0 + 1) + 1))]) c_12_15 rfl rfl (n_iinc (L2 := [some (2, 4), some (0, 6), some (0, (((1 * 2) * 2) * 2)), some (0, (((0 + 1) + 1) + 1))]) c_12_16 rfl rfl rfl (n_goto c_12_19 (n_iload_n c_12_4 rfl (n_iload_n c_12_5 rfl ?_)))))
        refine n_if2_ge c_12_6 (by omega) (by omega) ?_ ?_
        · intro h13
          exfalso; omega
        · intro h14
          refine n_iload_n c_12_9 rfl (n_aload_n c_12_10 rfl (n_getV (bi := 0) c_12_11 sc_4.n rfl rfl rfl (t_4_0 hS) ?_))
          intro z15 ez15 f16
          obtain rfl : z15 = 2 := by omega
          refine n_imul c_12_14 rfl (n_istore_n (L2 := [some (2, 4), some (0, 6), some (0, ((((1 * 2) * 2) * 2) * 2)), some (0, (((0 + 1) + 1) + 1))]) c_12_15 rfl rfl (n_iinc (L2 := [some (2, 4), some (0, 6), some (0, ((((1 * 2) * 2) * 2) * 2)), some (0, ((((0 + 1) + 1) + 1) + 1))]) c_12_16 rfl rfl rfl (n_goto c_12_19 (n_iload_n c_12_4 rfl (n_iload_n c_12_5 rfl ?_)))))
          refine n_if2_ge c_12_6 (by omega) (by omega) ?_ ?_
          · intro h17
            exfalso; omega
          · intro h18
            refine n_iload_n c_12_9 rfl (n_aload_n c_12_10 rfl (n_getV (bi := 0) c_12_11 sc_4.n rfl rfl rfl (t_4_0 hS) ?_))
            intro z19 ez19 f20
            obtain rfl : z19 = 2 := by omega
            refine n_imul c_12_14 rfl (n_istore_n (L2 := [some (2, 4), some (0, 6), some (0, (((((1 * 2) * 2) * 2) * 2) * 2)), some (0, ((((0 + 1) + 1) + 1) + 1))]) c_12_15 rfl rfl (n_iinc (L2 := [some (2, 4), some (0, 6), some (0, (((((1 * 2) * 2) * 2) * 2) * 2)), some (0, (((((0 + 1) + 1) + 1) + 1) + 1))]) c_12_16 rfl rfl rfl (n_goto c_12_19 (n_iload_n c_12_4 rfl (n_iload_n c_12_5 rfl ?_)))))
            refine n_if2_ge c_12_6 (by omega) (by omega) ?_ ?_
            · intro h21
              exfalso; omega
            · intro h22
              refine n_iload_n c_12_9 rfl (n_aload_n c_12_10 rfl (n_getV (bi := 0) c_12_11 sc_4.n rfl rfl rfl (t_4_0 hS) ?_))
              intro z23 ez23 f24
              obtain rfl : z23 = 2 := by omega
              refine n_imul c_12_14 rfl (n_istore_n (L2 := [some (2, 4), some (0, 6), some (0, ((((((1 * 2) * 2) * 2) * 2) * 2) * 2)), some (0, (((((0 + 1) + 1) + 1) + 1) + 1))]) c_12_15 rfl rfl (n_iinc (L2 := [some (2, 4), some (0, 6), some (0, ((((((1 * 2) * 2) * 2) * 2) * 2) * 2)), some (0, ((((((0 + 1) + 1) + 1) + 1) + 1) + 1))]) c_12_16 rfl rfl rfl (n_goto c_12_19 (n_iload_n c_12_4 rfl (n_iload_n c_12_5 rfl ?_)))))
              refine n_if2_ge c_12_6 (by omega) (by omega) ?_ ?_
              · intro h25
                refine n_iload_n c_12_22 rfl ?_
                exact n_rI c_12_23 rfl ⟨rfl, by omega⟩
              · intro h26
                exfalso; omega

set_option maxHeartbeats 4000000 in
theorem power7_2 {xs : List Int32} {e : Nat} {ac : Int} {M0 M : nM} (hS : Sf 2 ac M0 M)  : nW xs e 12 0 [some (2, 4), some (0, 7), none, none] [] M (nPI fun z M1 => M = M1 ∧ (128 ≤ z ∧ z ≤ 128)) := by
  have hd : (2 : Int) = 2 ∨ (2 : Int) = 3 := by decide
  have hac := hS.2.2.2.2
  refine n_iconst c_12_0 (n_istore_n (L2 := [some (2, 4), some (0, 7), some (0, 1), none]) c_12_1 rfl rfl (n_iconst c_12_2 (n_istore_n (L2 := [some (2, 4), some (0, 7), some (0, 1), some (0, 0)]) c_12_3 rfl rfl (n_iload_n c_12_4 rfl (n_iload_n c_12_5 rfl ?_)))))
  refine n_if2_ge c_12_6 (by omega) (by omega) ?_ ?_
  · intro h1
    exfalso; omega
  · intro h2
    refine n_iload_n c_12_9 rfl (n_aload_n c_12_10 rfl (n_getV (bi := 0) c_12_11 sc_4.n rfl rfl rfl (t_4_0 hS) ?_))
    intro z3 ez3 f4
    obtain rfl : z3 = 2 := by omega
    refine n_imul c_12_14 rfl (n_istore_n (L2 := [some (2, 4), some (0, 7), some (0, (1 * 2)), some (0, 0)]) c_12_15 rfl rfl (n_iinc (L2 := [some (2, 4), some (0, 7), some (0, (1 * 2)), some (0, (0 + 1))]) c_12_16 rfl rfl rfl (n_goto c_12_19 (n_iload_n c_12_4 rfl (n_iload_n c_12_5 rfl ?_)))))
    refine n_if2_ge c_12_6 (by omega) (by omega) ?_ ?_
    · intro h5
      exfalso; omega
    · intro h6
      refine n_iload_n c_12_9 rfl (n_aload_n c_12_10 rfl (n_getV (bi := 0) c_12_11 sc_4.n rfl rfl rfl (t_4_0 hS) ?_))
      intro z7 ez7 f8
      obtain rfl : z7 = 2 := by omega
      refine n_imul c_12_14 rfl (n_istore_n (L2 := [some (2, 4), some (0, 7), some (0, ((1 * 2) * 2)), some (0, (0 + 1))]) c_12_15 rfl rfl (n_iinc (L2 := [some (2, 4), some (0, 7), some (0, ((1 * 2) * 2)), some (0, ((0 + 1) + 1))]) c_12_16 rfl rfl rfl (n_goto c_12_19 (n_iload_n c_12_4 rfl (n_iload_n c_12_5 rfl ?_)))))
      refine n_if2_ge c_12_6 (by omega) (by omega) ?_ ?_
      · intro h9
        exfalso; omega
      · intro h10
        refine n_iload_n c_12_9 rfl (n_aload_n c_12_10 rfl (n_getV (bi := 0) c_12_11 sc_4.n rfl rfl rfl (t_4_0 hS) ?_))
        intro z11 ez11 f12
        obtain rfl : z11 = 2 := by omega
        refine n_imul c_12_14 rfl (n_istore_n (L2 := [some (2, 4), some (0, 7), some (0, (((1 * 2) * 2) * 2)), some (0, ((0 + 1) + 1))]) c_12_15 rfl rfl (n_iinc (L2 := [some (2, 4), some (0, 7), some (0, (((1 * 2) * 2) * 2)), some (0, (((0 + 1) + 1) + 1))]) c_12_16 rfl rfl rfl (n_goto c_12_19 (n_iload_n c_12_4 rfl (n_iload_n c_12_5 rfl ?_)))))
        refine n_if2_ge c_12_6 (by omega) (by omega) ?_ ?_
        · intro h13
          exfalso; omega
        · intro h14
          refine n_iload_n c_12_9 rfl (n_aload_n c_12_10 rfl (n_getV (bi := 0) c_12_11 sc_4.n rfl rfl rfl (t_4_0 hS) ?_))
          intro z15 ez15 f16
          obtain rfl : z15 = 2 := by omega
          refine n_imul c_12_14 rfl (n_istore_n (L2 := [some (2, 4), some (0, 7), some (0, ((((1 * 2) * 2) * 2) * 2)), some (0, (((0 + 1) + 1) + 1))]) c_12_15 rfl rfl (n_iinc (L2 := [some (2, 4), some (0, 7), some (0, ((((1 * 2) * 2) * 2) * 2)), some (0, ((((0 + 1) + 1) + 1) + 1))]) c_12_16 rfl rfl rfl (n_goto c_12_19 (n_iload_n c_12_4 rfl (n_iload_n c_12_5 rfl ?_)))))
          refine n_if2_ge c_12_6 (by omega) (by omega) ?_ ?_
          · intro h17
            exfalso; omega
          · intro h18
            refine n_iload_n c_12_9 rfl (n_aload_n c_12_10 rfl (n_getV (bi := 0) c_12_11 sc_4.n rfl rfl rfl (t_4_0 hS) ?_))
            intro z19 ez19 f20
            obtain rfl : z19 = 2 := by omega
            refine n_imul c_12_14 rfl (n_istore_n (L2 := [some (2, 4), some (0, 7), some (0, (((((1 * 2) * 2) * 2) * 2) * 2)), some (0, ((((0 + 1) + 1) + 1) + 1))]) c_12_15 rfl rfl (n_iinc (L2 := [some (2, 4), some (0, 7), some (0, (((((1 * 2) * 2) * 2) * 2) * 2)), some (0, (((((0 + 1) + 1) + 1) + 1) + 1))]) c_12_16 rfl rfl rfl (n_goto c_12_19 (n_iload_n c_12_4 rfl (n_iload_n c_12_5 rfl ?_)))))
            refine n_if2_ge c_12_6 (by omega) (by omega) ?_ ?_
            · intro h21
              exfalso; omega
            · intro h22
              refine n_iload_n c_12_9 rfl (n_aload_n c_12_10 rfl (n_getV (bi := 0) c_12_11 sc_4.n rfl rfl rfl (t_4_0 hS) ?_))
              intro z23 ez23 f24
              obtain rfl : z23 = 2 := by omega
              refine n_imul c_12_14 rfl (n_istore_n (L2 := [some (2, 4), some (0, 7), some (0, ((((((1 * 2) * 2) * 2) * 2) * 2) * 2)), some (0, (((((0 + 1) + 1) + 1) + 1) + 1))]) c_12_15 rfl rfl (n_iinc (L2 := [some (2, 4), some (0, 7), some (0, ((((((1 * 2) * 2) * 2) * 2) * 2) * 2)), some (0, ((((((0 + 1) + 1) + 1) + 1) + 1) + 1))]) c_12_16 rfl rfl rfl (n_goto c_12_19 (n_iload_n c_12_4 rfl (n_iload_n c_12_5 rfl ?_)))))
              refine n_if2_ge c_12_6 (by omega) (by omega) ?_ ?_
              · intro h25
                exfalso; omega
              · intro h26
                refine n_iload_n c_12_9 rfl (n_aload_n c_12_10 rfl (n_getV (bi := 0) c_12_11 sc_4.n rfl rfl rfl (t_4_0 hS) ?_))
                intro z27 ez27 f28
                obtain rfl : z27 = 2 := by omega
                refine n_imul c_12_14 rfl (n_istore_n (L2 := [some (2, 4), some (0, 7), some (0, (((((((1 * 2) * 2) * 2) * 2) * 2) * 2) * 2)), some (0, ((((((0 + 1) + 1) + 1) + 1) + 1) + 1))]) c_12_15 rfl rfl (n_iinc (L2 := [some (2, 4), some (0, 7), some (0, (((((((1 * 2) * 2) * 2) * 2) * 2) * 2) * 2)), some (0, (((((((0 + 1) + 1) + 1) + 1) + 1) + 1) + 1))]) c_12_16 rfl rfl rfl (n_goto c_12_19 (n_iload_n c_12_4 rfl (n_iload_n c_12_5 rfl ?_)))))
                refine n_if2_ge c_12_6 (by omega) (by omega) ?_ ?_
                · intro h29
                  refine n_iload_n c_12_22 rfl ?_
                  exact n_rI c_12_23 rfl ⟨rfl, by omega⟩
                · intro h30
                  exfalso; omega

set_option maxHeartbeats 4000000 in
theorem power8_2 {xs : List Int32} {e : Nat} {ac : Int} {M0 M : nM} (hS : Sf 2 ac M0 M)  : nW xs e 12 0 [some (2, 4), some (0, 8), none, none] [] M (nPI fun z M1 => M = M1 ∧ (256 ≤ z ∧ z ≤ 256)) := by
  have hd : (2 : Int) = 2 ∨ (2 : Int) = 3 := by decide
  have hac := hS.2.2.2.2
  refine n_iconst c_12_0 (n_istore_n (L2 := [some (2, 4), some (0, 8), some (0, 1), none]) c_12_1 rfl rfl (n_iconst c_12_2 (n_istore_n (L2 := [some (2, 4), some (0, 8), some (0, 1), some (0, 0)]) c_12_3 rfl rfl (n_iload_n c_12_4 rfl (n_iload_n c_12_5 rfl ?_)))))
  refine n_if2_ge c_12_6 (by omega) (by omega) ?_ ?_
  · intro h1
    exfalso; omega
  · intro h2
    refine n_iload_n c_12_9 rfl (n_aload_n c_12_10 rfl (n_getV (bi := 0) c_12_11 sc_4.n rfl rfl rfl (t_4_0 hS) ?_))
    intro z3 ez3 f4
    obtain rfl : z3 = 2 := by omega
    refine n_imul c_12_14 rfl (n_istore_n (L2 := [some (2, 4), some (0, 8), some (0, (1 * 2)), some (0, 0)]) c_12_15 rfl rfl (n_iinc (L2 := [some (2, 4), some (0, 8), some (0, (1 * 2)), some (0, (0 + 1))]) c_12_16 rfl rfl rfl (n_goto c_12_19 (n_iload_n c_12_4 rfl (n_iload_n c_12_5 rfl ?_)))))
    refine n_if2_ge c_12_6 (by omega) (by omega) ?_ ?_
    · intro h5
      exfalso; omega
    · intro h6
      refine n_iload_n c_12_9 rfl (n_aload_n c_12_10 rfl (n_getV (bi := 0) c_12_11 sc_4.n rfl rfl rfl (t_4_0 hS) ?_))
      intro z7 ez7 f8
      obtain rfl : z7 = 2 := by omega
      refine n_imul c_12_14 rfl (n_istore_n (L2 := [some (2, 4), some (0, 8), some (0, ((1 * 2) * 2)), some (0, (0 + 1))]) c_12_15 rfl rfl (n_iinc (L2 := [some (2, 4), some (0, 8), some (0, ((1 * 2) * 2)), some (0, ((0 + 1) + 1))]) c_12_16 rfl rfl rfl (n_goto c_12_19 (n_iload_n c_12_4 rfl (n_iload_n c_12_5 rfl ?_)))))
      refine n_if2_ge c_12_6 (by omega) (by omega) ?_ ?_
      · intro h9
        exfalso; omega
      · intro h10
        refine n_iload_n c_12_9 rfl (n_aload_n c_12_10 rfl (n_getV (bi := 0) c_12_11 sc_4.n rfl rfl rfl (t_4_0 hS) ?_))
        intro z11 ez11 f12
        obtain rfl : z11 = 2 := by omega
        refine n_imul c_12_14 rfl (n_istore_n (L2 := [some (2, 4), some (0, 8), some (0, (((1 * 2) * 2) * 2)), some (0, ((0 + 1) + 1))]) c_12_15 rfl rfl (n_iinc (L2 := [some (2, 4), some (0, 8), some (0, (((1 * 2) * 2) * 2)), some (0, (((0 + 1) + 1) + 1))]) c_12_16 rfl rfl rfl (n_goto c_12_19 (n_iload_n c_12_4 rfl (n_iload_n c_12_5 rfl ?_)))))
        refine n_if2_ge c_12_6 (by omega) (by omega) ?_ ?_
        · intro h13
          exfalso; omega
        · intro h14
          refine n_iload_n c_12_9 rfl (n_aload_n c_12_10 rfl (n_getV (bi := 0) c_12_11 sc_4.n rfl rfl rfl (t_4_0 hS) ?_))
          intro z15 ez15 f16
          obtain rfl : z15 = 2 := by omega
          refine n_imul c_12_14 rfl (n_istore_n (L2 := [some (2, 4), some (0, 8), some (0, ((((1 * 2) * 2) * 2) * 2)), some (0, (((0 + 1) + 1) + 1))]) c_12_15 rfl rfl (n_iinc (L2 := [some (2, 4), some (0, 8), some (0, ((((1 * 2) * 2) * 2) * 2)), some (0, ((((0 + 1) + 1) + 1) + 1))]) c_12_16 rfl rfl rfl (n_goto c_12_19 (n_iload_n c_12_4 rfl (n_iload_n c_12_5 rfl ?_)))))
          refine n_if2_ge c_12_6 (by omega) (by omega) ?_ ?_
          · intro h17
            exfalso; omega
          · intro h18
            refine n_iload_n c_12_9 rfl (n_aload_n c_12_10 rfl (n_getV (bi := 0) c_12_11 sc_4.n rfl rfl rfl (t_4_0 hS) ?_))
            intro z19 ez19 f20
            obtain rfl : z19 = 2 := by omega
            refine n_imul c_12_14 rfl (n_istore_n (L2 := [some (2, 4), some (0, 8), some (0, (((((1 * 2) * 2) * 2) * 2) * 2)), some (0, ((((0 + 1) + 1) + 1) + 1))]) c_12_15 rfl rfl (n_iinc (L2 := [some (2, 4), some (0, 8), some (0, (((((1 * 2) * 2) * 2) * 2) * 2)), some (0, (((((0 + 1) + 1) + 1) + 1) + 1))]) c_12_16 rfl rfl rfl (n_goto c_12_19 (n_iload_n c_12_4 rfl (n_iload_n c_12_5 rfl ?_)))))
            refine n_if2_ge c_12_6 (by omega) (by omega) ?_ ?_
            · intro h21
              exfalso; omega
            · intro h22
              refine n_iload_n c_12_9 rfl (n_aload_n c_12_10 rfl (n_getV (bi := 0) c_12_11 sc_4.n rfl rfl rfl (t_4_0 hS) ?_))
              intro z23 ez23 f24
              obtain rfl : z23 = 2 := by omega
              refine n_imul c_12_14 rfl (n_istore_n (L2 := [some (2, 4), some (0, 8), some (0, ((((((1 * 2) * 2) * 2) * 2) * 2) * 2)), some (0, (((((0 + 1) + 1) + 1) + 1) + 1))]) c_12_15 rfl rfl (n_iinc (L2 := [some (2, 4), some (0, 8), some (0, ((((((1 * 2) * 2) * 2) * 2) * 2) * 2)), some (0, ((((((0 + 1) + 1) + 1) + 1) + 1) + 1))]) c_12_16 rfl rfl rfl (n_goto c_12_19 (n_iload_n c_12_4 rfl (n_iload_n c_12_5 rfl ?_)))))
              refine n_if2_ge c_12_6 (by omega) (by omega) ?_ ?_
              · intro h25
                exfalso; omega
              · intro h26
                refine n_iload_n c_12_9 rfl (n_aload_n c_12_10 rfl (n_getV (bi := 0) c_12_11 sc_4.n rfl rfl rfl (t_4_0 hS) ?_))
                intro z27 ez27 f28
                obtain rfl : z27 = 2 := by omega
                refine n_imul c_12_14 rfl (n_istore_n (L2 := [some (2, 4), some (0, 8), some (0, (((((((1 * 2) * 2) * 2) * 2) * 2) * 2) * 2)), some (0, ((((((0 + 1) + 1) + 1) + 1) + 1) + 1))]) c_12_15 rfl rfl (n_iinc (L2 := [some (2, 4), some (0, 8), some (0, (((((((1 * 2) * 2) * 2) * 2) * 2) * 2) * 2)), some (0, (((((((0 + 1) + 1) + 1) + 1) + 1) + 1) + 1))]) c_12_16 rfl rfl rfl (n_goto c_12_19 (n_iload_n c_12_4 rfl (n_iload_n c_12_5 rfl ?_)))))
                refine n_if2_ge c_12_6 (by omega) (by omega) ?_ ?_
                · intro h29
                  exfalso; omega
                · intro h30
                  refine n_iload_n c_12_9 rfl (n_aload_n c_12_10 rfl (n_getV (bi := 0) c_12_11 sc_4.n rfl rfl rfl (t_4_0 hS) ?_))
                  intro z31 ez31 f32
                  obtain rfl : z31 = 2 := by omega
                  refine n_imul c_12_14 rfl (n_istore_n (L2 := [some (2, 4), some (0, 8), some (0, ((((((((1 * 2) * 2) * 2) * 2) * 2) * 2) * 2) * 2)), some (0, (((((((0 + 1) + 1) + 1) + 1) + 1) + 1) + 1))]) c_12_15 rfl rfl (n_iinc (L2 := [some (2, 4), some (0, 8), some (0, ((((((((1 * 2) * 2) * 2) * 2) * 2) * 2) * 2) * 2)), some (0, ((((((((0 + 1) + 1) + 1) + 1) + 1) + 1) + 1) + 1))]) c_12_16 rfl rfl rfl (n_goto c_12_19 (n_iload_n c_12_4 rfl (n_iload_n c_12_5 rfl ?_)))))
                  refine n_if2_ge c_12_6 (by omega) (by omega) ?_ ?_
                  · intro h33
                    refine n_iload_n c_12_22 rfl ?_
                    exact n_rI c_12_23 rfl ⟨rfl, by omega⟩
                  · intro h34
                    exfalso; omega

set_option maxHeartbeats 4000000 in
theorem power9_2 {xs : List Int32} {e : Nat} {ac : Int} {M0 M : nM} (hS : Sf 2 ac M0 M)  : nW xs e 12 0 [some (2, 4), some (0, 9), none, none] [] M (nPI fun z M1 => M = M1 ∧ (512 ≤ z ∧ z ≤ 512)) := by
  have hd : (2 : Int) = 2 ∨ (2 : Int) = 3 := by decide
  have hac := hS.2.2.2.2
  refine n_iconst c_12_0 (n_istore_n (L2 := [some (2, 4), some (0, 9), some (0, 1), none]) c_12_1 rfl rfl (n_iconst c_12_2 (n_istore_n (L2 := [some (2, 4), some (0, 9), some (0, 1), some (0, 0)]) c_12_3 rfl rfl (n_iload_n c_12_4 rfl (n_iload_n c_12_5 rfl ?_)))))
  refine n_if2_ge c_12_6 (by omega) (by omega) ?_ ?_
  · intro h1
    exfalso; omega
  · intro h2
    refine n_iload_n c_12_9 rfl (n_aload_n c_12_10 rfl (n_getV (bi := 0) c_12_11 sc_4.n rfl rfl rfl (t_4_0 hS) ?_))
    intro z3 ez3 f4
    obtain rfl : z3 = 2 := by omega
    refine n_imul c_12_14 rfl (n_istore_n (L2 := [some (2, 4), some (0, 9), some (0, (1 * 2)), some (0, 0)]) c_12_15 rfl rfl (n_iinc (L2 := [some (2, 4), some (0, 9), some (0, (1 * 2)), some (0, (0 + 1))]) c_12_16 rfl rfl rfl (n_goto c_12_19 (n_iload_n c_12_4 rfl (n_iload_n c_12_5 rfl ?_)))))
    refine n_if2_ge c_12_6 (by omega) (by omega) ?_ ?_
    · intro h5
      exfalso; omega
    · intro h6
      refine n_iload_n c_12_9 rfl (n_aload_n c_12_10 rfl (n_getV (bi := 0) c_12_11 sc_4.n rfl rfl rfl (t_4_0 hS) ?_))
      intro z7 ez7 f8
      obtain rfl : z7 = 2 := by omega
      refine n_imul c_12_14 rfl (n_istore_n (L2 := [some (2, 4), some (0, 9), some (0, ((1 * 2) * 2)), some (0, (0 + 1))]) c_12_15 rfl rfl (n_iinc (L2 := [some (2, 4), some (0, 9), some (0, ((1 * 2) * 2)), some (0, ((0 + 1) + 1))]) c_12_16 rfl rfl rfl (n_goto c_12_19 (n_iload_n c_12_4 rfl (n_iload_n c_12_5 rfl ?_)))))
      refine n_if2_ge c_12_6 (by omega) (by omega) ?_ ?_
      · intro h9
        exfalso; omega
      · intro h10
        refine n_iload_n c_12_9 rfl (n_aload_n c_12_10 rfl (n_getV (bi := 0) c_12_11 sc_4.n rfl rfl rfl (t_4_0 hS) ?_))
        intro z11 ez11 f12
        obtain rfl : z11 = 2 := by omega
        refine n_imul c_12_14 rfl (n_istore_n (L2 := [some (2, 4), some (0, 9), some (0, (((1 * 2) * 2) * 2)), some (0, ((0 + 1) + 1))]) c_12_15 rfl rfl (n_iinc (L2 := [some (2, 4), some (0, 9), some (0, (((1 * 2) * 2) * 2)), some (0, (((0 + 1) + 1) + 1))]) c_12_16 rfl rfl rfl (n_goto c_12_19 (n_iload_n c_12_4 rfl (n_iload_n c_12_5 rfl ?_)))))
        refine n_if2_ge c_12_6 (by omega) (by omega) ?_ ?_
        · intro h13
          exfalso; omega
        · intro h14
          refine n_iload_n c_12_9 rfl (n_aload_n c_12_10 rfl (n_getV (bi := 0) c_12_11 sc_4.n rfl rfl rfl (t_4_0 hS) ?_))
          intro z15 ez15 f16
          obtain rfl : z15 = 2 := by omega
          refine n_imul c_12_14 rfl (n_istore_n (L2 := [some (2, 4), some (0, 9), some (0, ((((1 * 2) * 2) * 2) * 2)), some (0, (((0 + 1) + 1) + 1))]) c_12_15 rfl rfl (n_iinc (L2 := [some (2, 4), some (0, 9), some (0, ((((1 * 2) * 2) * 2) * 2)), some (0, ((((0 + 1) + 1) + 1) + 1))]) c_12_16 rfl rfl rfl (n_goto c_12_19 (n_iload_n c_12_4 rfl (n_iload_n c_12_5 rfl ?_)))))
          refine n_if2_ge c_12_6 (by omega) (by omega) ?_ ?_
          · intro h17
            exfalso; omega
          · intro h18
            refine n_iload_n c_12_9 rfl (n_aload_n c_12_10 rfl (n_getV (bi := 0) c_12_11 sc_4.n rfl rfl rfl (t_4_0 hS) ?_))
            intro z19 ez19 f20
            obtain rfl : z19 = 2 := by omega
            refine n_imul c_12_14 rfl (n_istore_n (L2 := [some (2, 4), some (0, 9), some (0, (((((1 * 2) * 2) * 2) * 2) * 2)), some (0, ((((0 + 1) + 1) + 1) + 1))]) c_12_15 rfl rfl (n_iinc (L2 := [some (2, 4), some (0, 9), some (0, (((((1 * 2) * 2) * 2) * 2) * 2)), some (0, (((((0 + 1) + 1) + 1) + 1) + 1))]) c_12_16 rfl rfl rfl (n_goto c_12_19 (n_iload_n c_12_4 rfl (n_iload_n c_12_5 rfl ?_)))))
            refine n_if2_ge c_12_6 (by omega) (by omega) ?_ ?_
            · intro h21
              exfalso; omega
            · intro h22
              refine n_iload_n c_12_9 rfl (n_aload_n c_12_10 rfl (n_getV (bi := 0) c_12_11 sc_4.n rfl rfl rfl (t_4_0 hS) ?_))
              intro z23 ez23 f24
              obtain rfl : z23 = 2 := by omega
              refine n_imul c_12_14 rfl (n_istore_n (L2 := [some (2, 4), some (0, 9), some (0, ((((((1 * 2) * 2) * 2) * 2) * 2) * 2)), some (0, (((((0 + 1) + 1) + 1) + 1) + 1))]) c_12_15 rfl rfl (n_iinc (L2 := [some (2, 4), some (0, 9), some (0, ((((((1 * 2) * 2) * 2) * 2) * 2) * 2)), some (0, ((((((0 + 1) + 1) + 1) + 1) + 1) + 1))]) c_12_16 rfl rfl rfl (n_goto c_12_19 (n_iload_n c_12_4 rfl (n_iload_n c_12_5 rfl ?_)))))
              refine n_if2_ge c_12_6 (by omega) (by omega) ?_ ?_
              · intro h25
                exfalso; omega
              · intro h26
                refine n_iload_n c_12_9 rfl (n_aload_n c_12_10 rfl (n_getV (bi := 0) c_12_11 sc_4.n rfl rfl rfl (t_4_0 hS) ?_))
                intro z27 ez27 f28
                obtain rfl : z27 = 2 := by omega
                refine n_imul c_12_14 rfl (n_istore_n (L2 := [some (2, 4), some (0, 9), some (0, (((((((1 * 2) * 2) * 2) * 2) * 2) * 2) * 2)), some (0, ((((((0 + 1) + 1) + 1) + 1) + 1) + 1))]) c_12_15 rfl rfl (n_iinc (L2 := [some (2, 4), some (0, 9), some (0, (((((((1 * 2) * 2) * 2) * 2) * 2) * 2) * 2)), some (0, (((((((0 + 1) + 1) + 1) + 1) + 1) + 1) + 1))]) c_12_16 rfl rfl rfl (n_goto c_12_19 (n_iload_n c_12_4 rfl (n_iload_n c_12_5 rfl ?_)))))
                refine n_if2_ge c_12_6 (by omega) (by omega) ?_ ?_
                · intro h29
                  exfalso; omega
                · intro h30
                  refine n_iload_n c_12_9 rfl (n_aload_n c_12_10 rfl (n_getV (bi := 0) c_12_11 sc_4.n rfl rfl rfl (t_4_0 hS) ?_))
                  intro z31 ez31 f32
                  obtain rfl : z31 = 2 := by omega
                  refine n_imul c_12_14 rfl (n_istore_n (L2 := [some (2, 4), some (0, 9), some (0, ((((((((1 * 2) * 2) * 2) * 2) * 2) * 2) * 2) * 2)), some (0, (((((((0 + 1) + 1) + 1) + 1) + 1) + 1) + 1))]) c_12_15 rfl rfl (n_iinc (L2 := [some (2, 4), some (0, 9), some (0, ((((((((1 * 2) * 2) * 2) * 2) * 2) * 2) * 2) * 2)), some (0, ((((((((0 + 1) + 1) + 1) + 1) + 1) + 1) + 1) + 1))]) c_12_16 rfl rfl rfl (n_goto c_12_19 (n_iload_n c_12_4 rfl (n_iload_n c_12_5 rfl ?_)))))
                  refine n_if2_ge c_12_6 (by omega) (by omega) ?_ ?_
                  · intro h33
                    exfalso; omega
                  · intro h34
                    refine n_iload_n c_12_9 rfl (n_aload_n c_12_10 rfl (n_getV (bi := 0) c_12_11 sc_4.n rfl rfl rfl (t_4_0 hS) ?_))
                    intro z35 ez35 f36
                    obtain rfl : z35 = 2 := by omega
                    refine n_imul c_12_14 rfl (n_istore_n (L2 := [some (2, 4), some (0, 9), some (0, (((((((((1 * 2) * 2) * 2) * 2) * 2) * 2) * 2) * 2) * 2)), some (0, ((((((((0 + 1) + 1) + 1) + 1) + 1) + 1) + 1) + 1))]) c_12_15 rfl rfl (n_iinc (L2 := [some (2, 4), some (0, 9), some (0, (((((((((1 * 2) * 2) * 2) * 2) * 2) * 2) * 2) * 2) * 2)), some (0, (((((((((0 + 1) + 1) + 1) + 1) + 1) + 1) + 1) + 1) + 1))]) c_12_16 rfl rfl rfl (n_goto c_12_19 (n_iload_n c_12_4 rfl (n_iload_n c_12_5 rfl ?_)))))
                    refine n_if2_ge c_12_6 (by omega) (by omega) ?_ ?_
                    · intro h37
                      refine n_iload_n c_12_22 rfl ?_
                      exact n_rI c_12_23 rfl ⟨rfl, by omega⟩
                    · intro h38
                      exfalso; omega

set_option maxHeartbeats 4000000 in
theorem powerU_2 {xs : List Int32} {e : Nat} {ac : Int} {M0 M : nM} {n : Int} (hS : Sf 2 ac M0 M) (hn : 0 ≤ n ∧ n ≤ 3) : nW xs e 12 0 [some (2, 4), some (0, n), none, none] [] M (nPI fun z M1 => M = M1 ∧ (1 ≤ z ∧ z ≤ 8)) := by
  rcases (show n = 0 ∨ n = 1 ∨ n = 2 ∨ n = 3 by omega) with rfl | rfl | rfl | rfl
  · exact n_post (power0_2 hS ) (fun w M1 h => by obtain ⟨z, rfl, h1, h2⟩ := h; exact ⟨z, rfl, h1, by omega⟩)
  · exact n_post (power1_2 hS ) (fun w M1 h => by obtain ⟨z, rfl, h1, h2⟩ := h; exact ⟨z, rfl, h1, by omega⟩)
  · exact n_post (power2_2 hS ) (fun w M1 h => by obtain ⟨z, rfl, h1, h2⟩ := h; exact ⟨z, rfl, h1, by omega⟩)
  · exact n_post (power3_2 hS ) (fun w M1 h => by obtain ⟨z, rfl, h1, h2⟩ := h; exact ⟨z, rfl, h1, by omega⟩)

set_option maxHeartbeats 4000000 in
theorem isMadeOf_2_c {xs : List Int32} {e : Nat} {ac : Int} {M0 M : nM} {n : Int} (hS : Sf 2 ac M0 M) (hn : -2147483648 ≤ n ∧ n ≤ 2147483647) : ∀ nn : Nat, (1 < (nn : Int) → nW xs e 13 26 [none, none] [] M (nPI fun z M1 => M = M1 ∧ (0 ≤ z ∧ z ≤ 1) ∧ (z = 0 ∨ (1 ≤ n ∧ n ≤ 3)))) := by
  have hd : (2 : Int) = 2 ∨ (2 : Int) = 3 := by decide
  have hac := hS.2.2.2.2
  intro nn
  induction nn with
  | zero => intros; omega
  | succ nn ih =>
    intro hnn
    refine n_iconst c_13_26 ?_
    exact n_rZ c_13_27 rfl (by omega) ⟨rfl, by omega, by omega⟩
set_option maxHeartbeats 4000000 in
theorem isMadeOf_2 {xs : List Int32} {e : Nat} {ac : Int} {M0 M : nM} {n : Int} (hS : Sf 2 ac M0 M) (hn : -2147483648 ≤ n ∧ n ≤ 2147483647) : nW xs e 13 0 [some (2, 4), some (0, n)] [] M (nPI fun z M1 => M = M1 ∧ (0 ≤ z ∧ z ≤ 1) ∧ (z = 0 ∨ (1 ≤ n ∧ n ≤ 3))) := by
  have hd : (2 : Int) = 2 ∨ (2 : Int) = 3 := by decide
  have hac := hS.2.2.2.2
  refine n_iload_n c_13_0 rfl (n_iconst c_13_1 ?_)
  refine n_if2_lt c_13_2 (by omega) (by omega) ?_ ?_
  · intro h1
    refine n_fg (le_n (le_n le_0)) ?_
    exact (isMadeOf_2_c hS hn 12)   (by omega)
  · intro h2
    refine n_iload_n c_13_5 rfl (n_aload_n c_13_6 rfl (n_getV (bi := 0) c_13_7 sc_4.n rfl rfl rfl (t_4_0 hS) ?_))
    intro z3 ez3 f4
    obtain rfl : z3 = 2 := by omega
    refine n_iconst c_13_10 ?_
    refine n_if2_ne c_13_11 (by omega) (by omega) ?_ ?_
    · intro h5
      exfalso; omega
    · intro h6
      refine n_iconst c_13_14 (n_goto c_13_15 ?_)
      refine n_if2_gt c_13_19 (by omega) (by omega) ?_ ?_
      · intro h7
        refine n_fg (le_n (le_n le_0)) ?_
        exact (isMadeOf_2_c hS hn 12)   (by omega)
      · intro h8
        refine n_iconst c_13_22 (n_goto c_13_23 ?_)
        exact n_rZ c_13_27 rfl (by omega) ⟨rfl, by omega, by omega⟩

set_option maxHeartbeats 4000000 in
theorem codes1_2 {xs : List Int32} {e : Nat} {ac : Int} {M0 M : nM} (hS : Sf 2 ac M0 M)  : nW xs (e + 1) 14 0 [some (2, 4), some (0, 1)] [] M (nPI fun z M1 => M = M1 ∧ (4 ≤ z ∧ z ≤ 4)) := by
  have hd : (2 : Int) = 2 ∨ (2 : Int) = 3 := by decide
  have hac := hS.2.2.2.2
  refine n_aload_n c_14_0 rfl (n_aload_n c_14_1 rfl (n_iload_n c_14_2 rfl (n_v1I c_14_3 rfl sc_4.n rfl rfl rfl rfl (power1_2  hS ) ?_)))
  intro z1 M2 hP3
  obtain ⟨eM, f3⟩ := hP3
  subst eM
  obtain rfl : z1 = 2 := by omega
  refine n_v1I c_14_6 rfl sc_4.n rfl rfl rfl rfl (power2_2  hS ) ?_
  intro z4 M5 hP6
  obtain ⟨eM, f6⟩ := hP6
  subst eM
  obtain rfl : z4 = 4 := by omega
  exact n_rI c_14_9 rfl ⟨rfl, by omega⟩

set_option maxHeartbeats 4000000 in
theorem codes2_2 {xs : List Int32} {e : Nat} {ac : Int} {M0 M : nM} (hS : Sf 2 ac M0 M)  : nW xs (e + 1) 14 0 [some (2, 4), some (0, 2)] [] M (nPI fun z M1 => M = M1 ∧ (16 ≤ z ∧ z ≤ 16)) := by
  have hd : (2 : Int) = 2 ∨ (2 : Int) = 3 := by decide
  have hac := hS.2.2.2.2
  refine n_aload_n c_14_0 rfl (n_aload_n c_14_1 rfl (n_iload_n c_14_2 rfl (n_v1I c_14_3 rfl sc_4.n rfl rfl rfl rfl (power2_2  hS ) ?_)))
  intro z1 M2 hP3
  obtain ⟨eM, f3⟩ := hP3
  subst eM
  obtain rfl : z1 = 4 := by omega
  refine n_v1I c_14_6 rfl sc_4.n rfl rfl rfl rfl (power4_2  hS ) ?_
  intro z4 M5 hP6
  obtain ⟨eM, f6⟩ := hP6
  subst eM
  obtain rfl : z4 = 16 := by omega
  exact n_rI c_14_9 rfl ⟨rfl, by omega⟩

set_option maxHeartbeats 4000000 in
theorem codes3_2 {xs : List Int32} {e : Nat} {ac : Int} {M0 M : nM} (hS : Sf 2 ac M0 M)  : nW xs (e + 1) 14 0 [some (2, 4), some (0, 3)] [] M (nPI fun z M1 => M = M1 ∧ (256 ≤ z ∧ z ≤ 256)) := by
  have hd : (2 : Int) = 2 ∨ (2 : Int) = 3 := by decide
  have hac := hS.2.2.2.2
  refine n_aload_n c_14_0 rfl (n_aload_n c_14_1 rfl (n_iload_n c_14_2 rfl (n_v1I c_14_3 rfl sc_4.n rfl rfl rfl rfl (power3_2  hS ) ?_)))
  intro z1 M2 hP3
  obtain ⟨eM, f3⟩ := hP3
  subst eM
  obtain rfl : z1 = 8 := by omega
  refine n_v1I c_14_6 rfl sc_4.n rfl rfl rfl rfl (power8_2  hS ) ?_
  intro z4 M5 hP6
  obtain ⟨eM, f6⟩ := hP6
  subst eM
  obtain rfl : z4 = 256 := by omega
  exact n_rI c_14_9 rfl ⟨rfl, by omega⟩

set_option maxHeartbeats 4000000 in
theorem allThings_2 {xs : List Int32} {e : Nat} {ac : Int} {M0 M : nM} (hS : Sf 2 ac M0 M)  : nW xs e 15 0 [some (2, 4)] [] M (nPI fun z M1 => M = M1 ∧ (3 ≤ z ∧ z ≤ 3)) := by
  have hd : (2 : Int) = 2 ∨ (2 : Int) = 3 := by decide
  have hac := hS.2.2.2.2
  refine n_iconst c_15_0 (n_aload_n c_15_1 rfl (n_getV (bi := 0) c_15_2 sc_4.n rfl rfl rfl (t_4_0 hS) ?_))
  intro z1 ez1 f2
  obtain rfl : z1 = 2 := by omega
  refine n_i_ishl (z := 4) c_15_5 (by decide) ?_
  refine n_iconst c_15_6 (n_isub c_15_7 rfl ?_)
  exact n_rI c_15_8 rfl ⟨rfl, by omega⟩

set_option maxHeartbeats 4000000 in
theorem thingsOf_2_c {xs : List Int32} {e : Nat} {ac : Int} {M0 M : nM} {r p : Int} (hS : Sf 2 ac M0 M) (hr : 0 ≤ r ∧ r ≤ 26) (hp : 0 ≤ p ∧ p ≤ 3) : ∀ nn : Nat, (∀ (x3 : Int), (0 ≤ x3 ∧ x3 ≤ 7) → 2 < (nn : Int) → nW xs e 16 25 [some (2, 4), some (0, r), some (0, p), some (0, x3)] [] M (nPI fun z M1 => M = M1 ∧ (-2147483648 ≤ z ∧ z ≤ 2147483647))) ∧ (∀ (x3 : Int), (0 ≤ x3 ∧ x3 ≤ 7) → 1 < (nn : Int) → nW xs e 16 41 [none, none, none, some (0, x3)] [] M (nPI fun z M1 => M = M1 ∧ (-2147483648 ≤ z ∧ z ≤ 2147483647))) := by
  have hd : (2 : Int) = 2 ∨ (2 : Int) = 3 := by decide
  have hac := hS.2.2.2.2
  intro nn
  induction nn with
  | zero => refine ⟨?_, ?_⟩ <;> (intros; omega)
  | succ nn ih =>
    refine ⟨?_, ?_⟩
    · intro x3 k3 hnn
      refine n_iload_n c_16_25 rfl (n_iconst c_16_26 ?_)
      refine n_if2_le c_16_27 (by omega) (by omega) ?_ ?_
      · intro h1
        refine n_fg (le_n (le_n (le_n (le_s le_0)))) ?_
        exact ih.2 _ (by omega) (by omega)
      · intro h2
        refine n_iload_n c_16_30 rfl (n_iconst c_16_31 (n_aload_n c_16_32 rfl (n_getR c_16_33 sc_4.n rfl rfl rfl r_4_2 (n_iload_n c_16_36 rfl (n_ialoadV c_16_37 sc_5.n rfl rfl rfl (by omega) (t_5 hS hd (by omega)) ?_)))))
        intro z3 ez3 f4
        refine n_i_ishl c_16_38 rfl ?_
        have f5 := n_shl_1 (y := z3) (a := 0) (b := 2) (by decide) (by omega)
        generalize (n_shl 1 z3) = z6 at f5 ⊢
        refine n_i_ior c_16_39 rfl ?_
        have f7 := n_or_k (x := x3) (y := z6) (n := 3) (by decide) (by omega) (by omega)
        generalize (n_or x3 z6) = z8 at f7 ⊢
        refine n_istore_n (L2 := [some (2, 4), some (0, r), some (0, p), some (0, z8)]) c_16_40 rfl rfl (n_fg (le_n (le_n (le_n (le_s le_0)))) ?_)
        exact ih.2 _ (by omega) (by omega)
    · intro x3 k3 hnn
      refine n_iload_n c_16_41 rfl ?_
      exact n_rI c_16_42 rfl ⟨rfl, by omega⟩
set_option maxHeartbeats 4000000 in
theorem thingsOf_2 {xs : List Int32} {e : Nat} {ac : Int} {M0 M : nM} {r p : Int} (hS : Sf 2 ac M0 M) (hr : 0 ≤ r ∧ r ≤ 26) (hp : 0 ≤ p ∧ p ≤ 3) : nW xs e 16 0 [some (2, 4), some (0, r), some (0, p), none] [] M (nPI fun z M1 => M = M1 ∧ (-2147483648 ≤ z ∧ z ≤ 2147483647)) := by
  have hd : (2 : Int) = 2 ∨ (2 : Int) = 3 := by decide
  have hac := hS.2.2.2.2
  refine n_iconst c_16_0 (n_aload_n c_16_1 rfl (n_getR c_16_2 sc_4.n rfl rfl rfl r_4_4 (n_iload_n c_16_5 rfl (n_ialoadV c_16_6 sc_7.n rfl rfl rfl (by omega) (t_7 hS hd (by omega)) ?_))))
  intro z1 ez1 f2
  refine n_i_ishl c_16_7 rfl ?_
  have f3 := n_shl_1 (y := z1) (a := 0) (b := 2) (by decide) (by omega)
  generalize (n_shl 1 z1) = z4 at f3 ⊢
  refine n_istore_n (L2 := [some (2, 4), some (0, r), some (0, p), some (0, z4)]) c_16_8 rfl rfl (n_iload_n c_16_9 rfl (n_iconst c_16_10 ?_))
  refine n_if2_le c_16_11 (by omega) (by omega) ?_ ?_
  · intro h5
    refine n_fg (le_s (le_s (le_s (le_s le_0)))) ?_
    exact (thingsOf_2_c hS hr hp 14).1 _ (by omega) (by omega)
  · intro h6
    refine n_iload_n c_16_14 rfl (n_iconst c_16_15 (n_aload_n c_16_16 rfl (n_getR c_16_17 sc_4.n rfl rfl rfl r_4_3 (n_iload_n c_16_20 rfl (n_ialoadV c_16_21 sc_6.n rfl rfl rfl (by omega) (t_6 hS hd (by omega)) ?_)))))
    intro z7 ez7 f8
    refine n_i_ishl c_16_22 rfl ?_
    have f9 := n_shl_1 (y := z7) (a := 0) (b := 2) (by decide) (by omega)
    generalize (n_shl 1 z7) = z10 at f9 ⊢
    refine n_i_ior c_16_23 rfl ?_
    have f11 := n_or_k (x := z4) (y := z10) (n := 3) (by decide) (by omega) (by omega)
    generalize (n_or z4 z10) = z12 at f11 ⊢
    refine n_istore_n (L2 := [some (2, 4), some (0, r), some (0, p), some (0, z12)]) c_16_24 rfl rfl (n_fg (le_s (le_s (le_s (le_s le_0)))) ?_)
    exact (thingsOf_2_c hS hr hp 14).1 _ (by omega) (by omega)

set_option maxHeartbeats 4000000 in
theorem widen0_2 {xs : List Int32} {e : Nat} {ac : Int} {M0 M : nM} {n : Int} (hS : Sf 2 ac M0 M) (hn : 0 ≤ n ∧ n ≤ 0) : nW xs e 17 0 [some (2, 4), some (0, n), some (0, 0), none, none] [] M (nPI fun z M1 => M = M1 ∧ (0 ≤ z ∧ z ≤ 7)) := by
  have hd : (2 : Int) = 2 ∨ (2 : Int) = 3 := by decide
  have hac := hS.2.2.2.2
  refine n_iload_n c_17_0 rfl (n_istore_n (L2 := [some (2, 4), some (0, n), some (0, 0), some (0, n), none]) c_17_1 rfl rfl (n_iload_n c_17_2 rfl (n_istore (L2 := [some (2, 4), some (0, n), some (0, 0), some (0, n), some (0, 0)]) c_17_3 rfl rfl (n_iload c_17_5 rfl (n_iconst c_17_7 ?_)))))
  refine n_if2_ge c_17_8 (by omega) (by omega) ?_ ?_
  · intro h1
    exfalso; omega
  · intro h2
    refine n_iload_n c_17_11 rfl (n_aload_n c_17_12 rfl (n_getV (bi := 0) c_17_13 sc_4.n rfl rfl rfl (t_4_0 hS) ?_))
    intro z3 ez3 f4
    obtain rfl : z3 = 2 := by omega
    refine n_imul c_17_16 rfl (n_aload_n c_17_17 rfl (n_getR c_17_18 sc_4.n rfl rfl rfl r_4_4 (n_iload_n c_17_21 rfl (n_ialoadV c_17_22 sc_7.n rfl rfl rfl (by omega) (t_7k (z := 0) hS (by omega) (by omega) (by omega)) ?_))))
    intro z5 ez5 f6
    refine n_iadd c_17_23 rfl (n_istore_n (L2 := [some (2, 4), some (0, n), some (0, 0), some (0, ((n * 2) + z5)), some (0, 0)]) c_17_24 rfl rfl (n_iinc (L2 := [some (2, 4), some (0, n), some (0, 0), some (0, ((n * 2) + z5)), some (0, (0 + 1))]) c_17_25 rfl rfl rfl (n_goto c_17_28 (n_iload c_17_5 rfl (n_iconst c_17_7 ?_)))))
    refine n_if2_ge c_17_8 (by omega) (by omega) ?_ ?_
    · intro h7
      exfalso; omega
    · intro h8
      refine n_iload_n c_17_11 rfl (n_aload_n c_17_12 rfl (n_getV (bi := 0) c_17_13 sc_4.n rfl rfl rfl (t_4_0 hS) ?_))
      intro z9 ez9 f10
      obtain rfl : z9 = 2 := by omega
      refine n_imul c_17_16 rfl (n_aload_n c_17_17 rfl (n_getR c_17_18 sc_4.n rfl rfl rfl r_4_4 (n_iload_n c_17_21 rfl (n_ialoadV c_17_22 sc_7.n rfl rfl rfl (by omega) (t_7k (z := 0) hS (by omega) (by omega) (by omega)) ?_))))
      intro z11 ez11 f12
      refine n_iadd c_17_23 rfl (n_istore_n (L2 := [some (2, 4), some (0, n), some (0, 0), some (0, ((((n * 2) + z5) * 2) + z11)), some (0, (0 + 1))]) c_17_24 rfl rfl (n_iinc (L2 := [some (2, 4), some (0, n), some (0, 0), some (0, ((((n * 2) + z5) * 2) + z11)), some (0, ((0 + 1) + 1))]) c_17_25 rfl rfl rfl (n_goto c_17_28 (n_iload c_17_5 rfl (n_iconst c_17_7 ?_)))))
      refine n_if2_ge c_17_8 (by omega) (by omega) ?_ ?_
      · intro h13
        exfalso; omega
      · intro h14
        refine n_iload_n c_17_11 rfl (n_aload_n c_17_12 rfl (n_getV (bi := 0) c_17_13 sc_4.n rfl rfl rfl (t_4_0 hS) ?_))
        intro z15 ez15 f16
        obtain rfl : z15 = 2 := by omega
        refine n_imul c_17_16 rfl (n_aload_n c_17_17 rfl (n_getR c_17_18 sc_4.n rfl rfl rfl r_4_4 (n_iload_n c_17_21 rfl (n_ialoadV c_17_22 sc_7.n rfl rfl rfl (by omega) (t_7k (z := 0) hS (by omega) (by omega) (by omega)) ?_))))
        intro z17 ez17 f18
        refine n_iadd c_17_23 rfl (n_istore_n (L2 := [some (2, 4), some (0, n), some (0, 0), some (0, ((((((n * 2) + z5) * 2) + z11) * 2) + z17)), some (0, ((0 + 1) + 1))]) c_17_24 rfl rfl (n_iinc (L2 := [some (2, 4), some (0, n), some (0, 0), some (0, ((((((n * 2) + z5) * 2) + z11) * 2) + z17)), some (0, (((0 + 1) + 1) + 1))]) c_17_25 rfl rfl rfl (n_goto c_17_28 (n_iload c_17_5 rfl (n_iconst c_17_7 ?_)))))
        refine n_if2_ge c_17_8 (by omega) (by omega) ?_ ?_
        · intro h19
          refine n_iload_n c_17_31 rfl ?_
          exact n_rI c_17_32 rfl ⟨rfl, by omega⟩
        · intro h20
          exfalso; omega

set_option maxHeartbeats 4000000 in
theorem widen1_2 {xs : List Int32} {e : Nat} {ac : Int} {M0 M : nM} {n : Int} (hS : Sf 2 ac M0 M) (hn : 0 ≤ n ∧ n ≤ 1) : nW xs e 17 0 [some (2, 4), some (0, n), some (0, 1), none, none] [] M (nPI fun z M1 => M = M1 ∧ (0 ≤ z ∧ z ≤ 7)) := by
  have hd : (2 : Int) = 2 ∨ (2 : Int) = 3 := by decide
  have hac := hS.2.2.2.2
  refine n_iload_n c_17_0 rfl (n_istore_n (L2 := [some (2, 4), some (0, n), some (0, 1), some (0, n), none]) c_17_1 rfl rfl (n_iload_n c_17_2 rfl (n_istore (L2 := [some (2, 4), some (0, n), some (0, 1), some (0, n), some (0, 1)]) c_17_3 rfl rfl (n_iload c_17_5 rfl (n_iconst c_17_7 ?_)))))
  refine n_if2_ge c_17_8 (by omega) (by omega) ?_ ?_
  · intro h1
    exfalso; omega
  · intro h2
    refine n_iload_n c_17_11 rfl (n_aload_n c_17_12 rfl (n_getV (bi := 0) c_17_13 sc_4.n rfl rfl rfl (t_4_0 hS) ?_))
    intro z3 ez3 f4
    obtain rfl : z3 = 2 := by omega
    refine n_imul c_17_16 rfl (n_aload_n c_17_17 rfl (n_getR c_17_18 sc_4.n rfl rfl rfl r_4_4 (n_iload_n c_17_21 rfl (n_ialoadV c_17_22 sc_7.n rfl rfl rfl (by omega) (t_7d hS hd (by omega) (by omega)) ?_))))
    intro z5 ez5 f6
    refine n_iadd c_17_23 rfl (n_istore_n (L2 := [some (2, 4), some (0, n), some (0, 1), some (0, ((n * 2) + z5)), some (0, 1)]) c_17_24 rfl rfl (n_iinc (L2 := [some (2, 4), some (0, n), some (0, 1), some (0, ((n * 2) + z5)), some (0, (1 + 1))]) c_17_25 rfl rfl rfl (n_goto c_17_28 (n_iload c_17_5 rfl (n_iconst c_17_7 ?_)))))
    refine n_if2_ge c_17_8 (by omega) (by omega) ?_ ?_
    · intro h7
      exfalso; omega
    · intro h8
      refine n_iload_n c_17_11 rfl (n_aload_n c_17_12 rfl (n_getV (bi := 0) c_17_13 sc_4.n rfl rfl rfl (t_4_0 hS) ?_))
      intro z9 ez9 f10
      obtain rfl : z9 = 2 := by omega
      refine n_imul c_17_16 rfl (n_aload_n c_17_17 rfl (n_getR c_17_18 sc_4.n rfl rfl rfl r_4_4 (n_iload_n c_17_21 rfl (n_ialoadV c_17_22 sc_7.n rfl rfl rfl (by omega) (t_7d hS hd (by omega) (by omega)) ?_))))
      intro z11 ez11 f12
      refine n_iadd c_17_23 rfl (n_istore_n (L2 := [some (2, 4), some (0, n), some (0, 1), some (0, ((((n * 2) + z5) * 2) + z11)), some (0, (1 + 1))]) c_17_24 rfl rfl (n_iinc (L2 := [some (2, 4), some (0, n), some (0, 1), some (0, ((((n * 2) + z5) * 2) + z11)), some (0, ((1 + 1) + 1))]) c_17_25 rfl rfl rfl (n_goto c_17_28 (n_iload c_17_5 rfl (n_iconst c_17_7 ?_)))))
      refine n_if2_ge c_17_8 (by omega) (by omega) ?_ ?_
      · intro h13
        refine n_iload_n c_17_31 rfl ?_
        exact n_rI c_17_32 rfl ⟨rfl, by omega⟩
      · intro h14
        exfalso; omega

set_option maxHeartbeats 4000000 in
theorem widen2_2 {xs : List Int32} {e : Nat} {ac : Int} {M0 M : nM} {n : Int} (hS : Sf 2 ac M0 M) (hn : 0 ≤ n ∧ n ≤ 3) : nW xs e 17 0 [some (2, 4), some (0, n), some (0, 2), none, none] [] M (nPI fun z M1 => M = M1 ∧ (0 ≤ z ∧ z ≤ 7)) := by
  have hd : (2 : Int) = 2 ∨ (2 : Int) = 3 := by decide
  have hac := hS.2.2.2.2
  refine n_iload_n c_17_0 rfl (n_istore_n (L2 := [some (2, 4), some (0, n), some (0, 2), some (0, n), none]) c_17_1 rfl rfl (n_iload_n c_17_2 rfl (n_istore (L2 := [some (2, 4), some (0, n), some (0, 2), some (0, n), some (0, 2)]) c_17_3 rfl rfl (n_iload c_17_5 rfl (n_iconst c_17_7 ?_)))))
  refine n_if2_ge c_17_8 (by omega) (by omega) ?_ ?_
  · intro h1
    exfalso; omega
  · intro h2
    refine n_iload_n c_17_11 rfl (n_aload_n c_17_12 rfl (n_getV (bi := 0) c_17_13 sc_4.n rfl rfl rfl (t_4_0 hS) ?_))
    intro z3 ez3 f4
    obtain rfl : z3 = 2 := by omega
    refine n_imul c_17_16 rfl (n_aload_n c_17_17 rfl (n_getR c_17_18 sc_4.n rfl rfl rfl r_4_4 (n_iload_n c_17_21 rfl (n_ialoadV c_17_22 sc_7.n rfl rfl rfl (by omega) (t_7d hS hd (by omega) (by omega)) ?_))))
    intro z5 ez5 f6
    refine n_iadd c_17_23 rfl (n_istore_n (L2 := [some (2, 4), some (0, n), some (0, 2), some (0, ((n * 2) + z5)), some (0, 2)]) c_17_24 rfl rfl (n_iinc (L2 := [some (2, 4), some (0, n), some (0, 2), some (0, ((n * 2) + z5)), some (0, (2 + 1))]) c_17_25 rfl rfl rfl (n_goto c_17_28 (n_iload c_17_5 rfl (n_iconst c_17_7 ?_)))))
    refine n_if2_ge c_17_8 (by omega) (by omega) ?_ ?_
    · intro h7
      refine n_iload_n c_17_31 rfl ?_
      exact n_rI c_17_32 rfl ⟨rfl, by omega⟩
    · intro h8
      exfalso; omega

set_option maxHeartbeats 4000000 in
theorem widen3_2 {xs : List Int32} {e : Nat} {ac : Int} {M0 M : nM} {n : Int} (hS : Sf 2 ac M0 M) (hn : 0 ≤ n ∧ n ≤ 7) : nW xs e 17 0 [some (2, 4), some (0, n), some (0, 3), none, none] [] M (nPI fun z M1 => M = M1 ∧ (0 ≤ z ∧ z ≤ 7)) := by
  have hd : (2 : Int) = 2 ∨ (2 : Int) = 3 := by decide
  have hac := hS.2.2.2.2
  refine n_iload_n c_17_0 rfl (n_istore_n (L2 := [some (2, 4), some (0, n), some (0, 3), some (0, n), none]) c_17_1 rfl rfl (n_iload_n c_17_2 rfl (n_istore (L2 := [some (2, 4), some (0, n), some (0, 3), some (0, n), some (0, 3)]) c_17_3 rfl rfl (n_iload c_17_5 rfl (n_iconst c_17_7 ?_)))))
  refine n_if2_ge c_17_8 (by omega) (by omega) ?_ ?_
  · intro h1
    refine n_iload_n c_17_31 rfl ?_
    exact n_rI c_17_32 rfl ⟨rfl, by omega⟩
  · intro h2
    exfalso; omega

set_option maxHeartbeats 4000000 in
theorem widenW_2_c {xs : List Int32} {e : Nat} {ac : Int} {M0 M : nM} {n p : Int} (hS : Sf 2 ac M0 M) (hn : 0 ≤ n ∧ n ≤ 26) (hp : 0 ≤ p ∧ p ≤ 3) : ∀ nn : Nat, (∀ (x3 x4 : Int), (-2147483648 ≤ x3 ∧ x3 ≤ 2147483647) → (0 ≤ x4 ∧ x4 ≤ 3) → (3 - x4) * 1 + 1 < (nn : Int) → nW xs e 17 5 [some (2, 4), some (0, n), none, some (0, x3), some (0, x4)] [] M (nPI fun z M1 => M = M1 ∧ (-2147483648 ≤ z ∧ z ≤ 2147483647))) := by
  have hd : (2 : Int) = 2 ∨ (2 : Int) = 3 := by decide
  have hac := hS.2.2.2.2
  intro nn
  induction nn with
  | zero => intros; omega
  | succ nn ih =>
    intro x3 x4 k3 k4 hnn
    refine n_iload c_17_5 rfl (n_iconst c_17_7 ?_)
    refine n_if2_ge c_17_8 (by omega) (by omega) ?_ ?_
    · intro h1
      refine n_iload_n c_17_31 rfl ?_
      exact n_rI c_17_32 rfl ⟨rfl, by omega⟩
    · intro h2
      refine n_iload_n c_17_11 rfl (n_aload_n c_17_12 rfl (n_getV (bi := 0) c_17_13 sc_4.n rfl rfl rfl (t_4_0 hS) ?_))
      intro z3 ez3 f4
      obtain rfl : z3 = 2 := by omega
      refine n_imul c_17_16 rfl (n_wrap ?_)
      have f5 := n_wr_r (x3 * 2)
      generalize n_wr (x3 * 2) = z6 at f5 ⊢
      refine n_aload_n c_17_17 rfl (n_getR c_17_18 sc_4.n rfl rfl rfl r_4_4 (n_iload_n c_17_21 rfl (n_ialoadV c_17_22 sc_7.n rfl rfl rfl (by omega) (t_7 hS hd (by omega)) ?_)))
      intro z7 ez7 f8
      refine n_iadd c_17_23 rfl (n_wrap ?_)
      have f9 := n_wr_r (z6 + z7)
      generalize n_wr (z6 + z7) = z10 at f9 ⊢
      refine n_istore_n (L2 := [some (2, 4), some (0, n), none, some (0, z10), some (0, x4)]) c_17_24 rfl rfl (n_iinc (L2 := [some (2, 4), some (0, n), none, some (0, z10), some (0, (x4 + 1))]) c_17_25 rfl rfl rfl (n_goto c_17_28 (n_fg (le_s (le_s (le_n (le_s (le_s le_0))))) ?_)))
      exact ih _ _ (by omega) (by omega) (by omega)
set_option maxHeartbeats 4000000 in
theorem widenW_2 {xs : List Int32} {e : Nat} {ac : Int} {M0 M : nM} {n p : Int} (hS : Sf 2 ac M0 M) (hn : 0 ≤ n ∧ n ≤ 26) (hp : 0 ≤ p ∧ p ≤ 3) : nW xs e 17 0 [some (2, 4), some (0, n), some (0, p), none, none] [] M (nPI fun z M1 => M = M1 ∧ (-2147483648 ≤ z ∧ z ≤ 2147483647)) := by
  have hd : (2 : Int) = 2 ∨ (2 : Int) = 3 := by decide
  have hac := hS.2.2.2.2
  refine n_iload_n c_17_0 rfl (n_istore_n (L2 := [some (2, 4), some (0, n), some (0, p), some (0, n), none]) c_17_1 rfl rfl (n_iload_n c_17_2 rfl (n_istore (L2 := [some (2, 4), some (0, n), some (0, p), some (0, n), some (0, p)]) c_17_3 rfl rfl (n_fg (le_s (le_s (le_n (le_s (le_s le_0))))) ?_))))
  exact (widenW_2_c hS hn hp 20) _ _ (by omega) (by omega) (by omega)

set_option maxHeartbeats 4000000 in
theorem threeOf0_2 {xs : List Int32} {e : Nat} {ac : Int} {M0 M : nM} {c : Int} (hS : Sf 2 ac M0 M) (hc : 0 ≤ c ∧ c ≤ 19682) : nW xs e 18 0 [some (2, 4), some (0, c), some (0, 0), none, none, none, none] [] M (nPI fun z M1 => M = M1 ∧ (0 ≤ z ∧ z ≤ 7)) := by
  have hd : (2 : Int) = 2 ∨ (2 : Int) = 3 := by decide
  have hac := hS.2.2.2.2
  refine n_iload_n c_18_0 rfl (n_istore_n (L2 := [some (2, 4), some (0, c), some (0, 0), some (0, c), none, none, none]) c_18_1 rfl rfl (n_iconst c_18_2 (n_istore (L2 := [some (2, 4), some (0, c), some (0, 0), some (0, c), some (0, 0), none, none]) c_18_3 rfl rfl (n_iconst c_18_5 (n_istore (L2 := [some (2, 4), some (0, c), some (0, 0), some (0, c), some (0, 0), some (0, 0), none]) c_18_6 rfl rfl (n_iload c_18_8 rfl (n_iload_n c_18_10 rfl (n_iconst c_18_11 (n_iadd c_18_12 rfl ?_)))))))))
  refine n_if2_ge c_18_13 (by omega) (by omega) ?_ ?_
  · intro h1
    exfalso; omega
  · intro h2
    refine n_aload_n c_18_16 rfl (n_getV (bi := 0) c_18_17 sc_4.n rfl rfl rfl (t_4_0 hS) ?_)
    intro z3 ez3 f4
    obtain rfl : z3 = 2 := by omega
    refine n_iconst c_18_20 ?_
    refine n_if2_ne c_18_21 (by omega) (by omega) ?_ ?_
    · intro h5
      exfalso; omega
    · intro h6
      refine n_iload_n c_18_24 rfl (n_iconst c_18_25 (n_iremV c_18_26 (by omega) (by omega) ?_))
      intro z7 _ f8
      refine n_goto c_18_27 (n_istore (L2 := [some (2, 4), some (0, c), some (0, 0), some (0, c), some (0, 0), some (0, 0), some (0, z7)]) c_18_33 rfl rfl (n_aload_n c_18_35 rfl (n_getV (bi := 0) c_18_36 sc_4.n rfl rfl rfl (t_4_0 hS) ?_)))
      intro z9 ez9 f10
      obtain rfl : z9 = 2 := by omega
      refine n_iconst c_18_39 ?_
      refine n_if2_ne c_18_40 (by omega) (by omega) ?_ ?_
      · intro h11
        exfalso; omega
      · intro h12
        refine n_iload_n c_18_43 rfl (n_iconst c_18_44 (n_idivV c_18_45 (by omega) (by omega) ?_))
        intro z13 _ f14
        refine n_goto c_18_46 (n_istore_n (L2 := [some (2, 4), some (0, c), some (0, 0), some (0, z13), some (0, 0), some (0, 0), some (0, z7)]) c_18_52 rfl rfl (n_iload c_18_53 rfl (n_iload_n c_18_55 rfl ?_)))
        refine n_if2_lt c_18_56 (by omega) (by omega) ?_ ?_
        · intro h15
          exfalso; omega
        · intro h16
          refine n_iload c_18_59 rfl (n_aload_n c_18_61 rfl (n_getV (bi := 0) c_18_62 sc_4.n rfl rfl rfl (t_4_0 hS) ?_))
          intro z17 ez17 f18
          obtain rfl : z17 = 2 := by omega
          refine n_imul c_18_65 rfl (n_iload c_18_66 rfl (n_iadd c_18_68 rfl (n_istore (L2 := [some (2, 4), some (0, c), some (0, 0), some (0, z13), some (0, ((0 * 2) + z7)), some (0, 0), some (0, z7)]) c_18_69 rfl rfl (n_iinc (L2 := [some (2, 4), some (0, c), some (0, 0), some (0, z13), some (0, ((0 * 2) + z7)), some (0, (0 + 1)), some (0, z7)]) c_18_71 rfl rfl rfl (n_goto c_18_74 (n_iload c_18_8 rfl (n_iload_n c_18_10 rfl (n_iconst c_18_11 (n_iadd c_18_12 rfl ?_)))))))))
          refine n_if2_ge c_18_13 (by omega) (by omega) ?_ ?_
          · intro h19
            exfalso; omega
          · intro h20
            refine n_aload_n c_18_16 rfl (n_getV (bi := 0) c_18_17 sc_4.n rfl rfl rfl (t_4_0 hS) ?_)
            intro z21 ez21 f22
            obtain rfl : z21 = 2 := by omega
            refine n_iconst c_18_20 ?_
            refine n_if2_ne c_18_21 (by omega) (by omega) ?_ ?_
            · intro h23
              exfalso; omega
            · intro h24
              refine n_iload_n c_18_24 rfl (n_iconst c_18_25 (n_iremV c_18_26 (by omega) (by omega) ?_))
              intro z25 _ f26
              refine n_goto c_18_27 (n_istore (L2 := [some (2, 4), some (0, c), some (0, 0), some (0, z13), some (0, ((0 * 2) + z7)), some (0, (0 + 1)), some (0, z25)]) c_18_33 rfl rfl (n_aload_n c_18_35 rfl (n_getV (bi := 0) c_18_36 sc_4.n rfl rfl rfl (t_4_0 hS) ?_)))
              intro z27 ez27 f28
              obtain rfl : z27 = 2 := by omega
              refine n_iconst c_18_39 ?_
              refine n_if2_ne c_18_40 (by omega) (by omega) ?_ ?_
              · intro h29
                exfalso; omega
              · intro h30
                refine n_iload_n c_18_43 rfl (n_iconst c_18_44 (n_idivV c_18_45 (by omega) (by omega) ?_))
                intro z31 _ f32
                refine n_goto c_18_46 (n_istore_n (L2 := [some (2, 4), some (0, c), some (0, 0), some (0, z31), some (0, ((0 * 2) + z7)), some (0, (0 + 1)), some (0, z25)]) c_18_52 rfl rfl (n_iload c_18_53 rfl (n_iload_n c_18_55 rfl ?_)))
                refine n_if2_lt c_18_56 (by omega) (by omega) ?_ ?_
                · intro h33
                  exfalso; omega
                · intro h34
                  refine n_iload c_18_59 rfl (n_aload_n c_18_61 rfl (n_getV (bi := 0) c_18_62 sc_4.n rfl rfl rfl (t_4_0 hS) ?_))
                  intro z35 ez35 f36
                  obtain rfl : z35 = 2 := by omega
                  refine n_imul c_18_65 rfl (n_iload c_18_66 rfl (n_iadd c_18_68 rfl (n_istore (L2 := [some (2, 4), some (0, c), some (0, 0), some (0, z31), some (0, ((((0 * 2) + z7) * 2) + z25)), some (0, (0 + 1)), some (0, z25)]) c_18_69 rfl rfl (n_iinc (L2 := [some (2, 4), some (0, c), some (0, 0), some (0, z31), some (0, ((((0 * 2) + z7) * 2) + z25)), some (0, ((0 + 1) + 1)), some (0, z25)]) c_18_71 rfl rfl rfl (n_goto c_18_74 (n_iload c_18_8 rfl (n_iload_n c_18_10 rfl (n_iconst c_18_11 (n_iadd c_18_12 rfl ?_)))))))))
                  refine n_if2_ge c_18_13 (by omega) (by omega) ?_ ?_
                  · intro h37
                    exfalso; omega
                  · intro h38
                    refine n_aload_n c_18_16 rfl (n_getV (bi := 0) c_18_17 sc_4.n rfl rfl rfl (t_4_0 hS) ?_)
                    intro z39 ez39 f40
                    obtain rfl : z39 = 2 := by omega
                    refine n_iconst c_18_20 ?_
                    refine n_if2_ne c_18_21 (by omega) (by omega) ?_ ?_
                    · intro h41
                      exfalso; omega
                    · intro h42
                      refine n_iload_n c_18_24 rfl (n_iconst c_18_25 (n_iremV c_18_26 (by omega) (by omega) ?_))
                      intro z43 _ f44
                      refine n_goto c_18_27 (n_istore (L2 := [some (2, 4), some (0, c), some (0, 0), some (0, z31), some (0, ((((0 * 2) + z7) * 2) + z25)), some (0, ((0 + 1) + 1)), some (0, z43)]) c_18_33 rfl rfl (n_aload_n c_18_35 rfl (n_getV (bi := 0) c_18_36 sc_4.n rfl rfl rfl (t_4_0 hS) ?_)))
                      intro z45 ez45 f46
                      obtain rfl : z45 = 2 := by omega
                      refine n_iconst c_18_39 ?_
                      refine n_if2_ne c_18_40 (by omega) (by omega) ?_ ?_
                      · intro h47
                        exfalso; omega
                      · intro h48
                        refine n_iload_n c_18_43 rfl (n_iconst c_18_44 (n_idivV c_18_45 (by omega) (by omega) ?_))
                        intro z49 _ f50
                        refine n_goto c_18_46 (n_istore_n (L2 := [some (2, 4), some (0, c), some (0, 0), some (0, z49), some (0, ((((0 * 2) + z7) * 2) + z25)), some (0, ((0 + 1) + 1)), some (0, z43)]) c_18_52 rfl rfl (n_iload c_18_53 rfl (n_iload_n c_18_55 rfl ?_)))
                        refine n_if2_lt c_18_56 (by omega) (by omega) ?_ ?_
                        · intro h51
                          exfalso; omega
                        · intro h52
                          refine n_iload c_18_59 rfl (n_aload_n c_18_61 rfl (n_getV (bi := 0) c_18_62 sc_4.n rfl rfl rfl (t_4_0 hS) ?_))
                          intro z53 ez53 f54
                          obtain rfl : z53 = 2 := by omega
                          refine n_imul c_18_65 rfl (n_iload c_18_66 rfl (n_iadd c_18_68 rfl (n_istore (L2 := [some (2, 4), some (0, c), some (0, 0), some (0, z49), some (0, ((((((0 * 2) + z7) * 2) + z25) * 2) + z43)), some (0, ((0 + 1) + 1)), some (0, z43)]) c_18_69 rfl rfl (n_iinc (L2 := [some (2, 4), some (0, c), some (0, 0), some (0, z49), some (0, ((((((0 * 2) + z7) * 2) + z25) * 2) + z43)), some (0, (((0 + 1) + 1) + 1)), some (0, z43)]) c_18_71 rfl rfl rfl (n_goto c_18_74 (n_iload c_18_8 rfl (n_iload_n c_18_10 rfl (n_iconst c_18_11 (n_iadd c_18_12 rfl ?_)))))))))
                          refine n_if2_ge c_18_13 (by omega) (by omega) ?_ ?_
                          · intro h55
                            refine n_iload c_18_77 rfl ?_
                            exact n_rI c_18_79 rfl ⟨rfl, by omega⟩
                          · intro h56
                            exfalso; omega

set_option maxHeartbeats 4000000 in
theorem threeOf3_2 {xs : List Int32} {e : Nat} {ac : Int} {M0 M : nM} {c : Int} (hS : Sf 2 ac M0 M) (hc : 0 ≤ c ∧ c ≤ 19682) : nW xs e 18 0 [some (2, 4), some (0, c), some (0, 3), none, none, none, none] [] M (nPI fun z M1 => M = M1 ∧ (0 ≤ z ∧ z ≤ 7)) := by
  have hd : (2 : Int) = 2 ∨ (2 : Int) = 3 := by decide
  have hac := hS.2.2.2.2
  refine n_iload_n c_18_0 rfl (n_istore_n (L2 := [some (2, 4), some (0, c), some (0, 3), some (0, c), none, none, none]) c_18_1 rfl rfl (n_iconst c_18_2 (n_istore (L2 := [some (2, 4), some (0, c), some (0, 3), some (0, c), some (0, 0), none, none]) c_18_3 rfl rfl (n_iconst c_18_5 (n_istore (L2 := [some (2, 4), some (0, c), some (0, 3), some (0, c), some (0, 0), some (0, 0), none]) c_18_6 rfl rfl (n_iload c_18_8 rfl (n_iload_n c_18_10 rfl (n_iconst c_18_11 (n_iadd c_18_12 rfl ?_)))))))))
  refine n_if2_ge c_18_13 (by omega) (by omega) ?_ ?_
  · intro h1
    exfalso; omega
  · intro h2
    refine n_aload_n c_18_16 rfl (n_getV (bi := 0) c_18_17 sc_4.n rfl rfl rfl (t_4_0 hS) ?_)
    intro z3 ez3 f4
    obtain rfl : z3 = 2 := by omega
    refine n_iconst c_18_20 ?_
    refine n_if2_ne c_18_21 (by omega) (by omega) ?_ ?_
    · intro h5
      exfalso; omega
    · intro h6
      refine n_iload_n c_18_24 rfl (n_iconst c_18_25 (n_iremV c_18_26 (by omega) (by omega) ?_))
      intro z7 _ f8
      refine n_goto c_18_27 (n_istore (L2 := [some (2, 4), some (0, c), some (0, 3), some (0, c), some (0, 0), some (0, 0), some (0, z7)]) c_18_33 rfl rfl (n_aload_n c_18_35 rfl (n_getV (bi := 0) c_18_36 sc_4.n rfl rfl rfl (t_4_0 hS) ?_)))
      intro z9 ez9 f10
      obtain rfl : z9 = 2 := by omega
      refine n_iconst c_18_39 ?_
      refine n_if2_ne c_18_40 (by omega) (by omega) ?_ ?_
      · intro h11
        exfalso; omega
      · intro h12
        refine n_iload_n c_18_43 rfl (n_iconst c_18_44 (n_idivV c_18_45 (by omega) (by omega) ?_))
        intro z13 _ f14
        refine n_goto c_18_46 (n_istore_n (L2 := [some (2, 4), some (0, c), some (0, 3), some (0, z13), some (0, 0), some (0, 0), some (0, z7)]) c_18_52 rfl rfl (n_iload c_18_53 rfl (n_iload_n c_18_55 rfl ?_)))
        refine n_if2_lt c_18_56 (by omega) (by omega) ?_ ?_
        · intro h15
          refine n_iinc (L2 := [some (2, 4), some (0, c), some (0, 3), some (0, z13), some (0, 0), some (0, (0 + 1)), some (0, z7)]) c_18_71 rfl rfl rfl (n_goto c_18_74 (n_iload c_18_8 rfl (n_iload_n c_18_10 rfl (n_iconst c_18_11 (n_iadd c_18_12 rfl ?_)))))
          refine n_if2_ge c_18_13 (by omega) (by omega) ?_ ?_
          · intro h16
            exfalso; omega
          · intro h17
            refine n_aload_n c_18_16 rfl (n_getV (bi := 0) c_18_17 sc_4.n rfl rfl rfl (t_4_0 hS) ?_)
            intro z18 ez18 f19
            obtain rfl : z18 = 2 := by omega
            refine n_iconst c_18_20 ?_
            refine n_if2_ne c_18_21 (by omega) (by omega) ?_ ?_
            · intro h20
              exfalso; omega
            · intro h21
              refine n_iload_n c_18_24 rfl (n_iconst c_18_25 (n_iremV c_18_26 (by omega) (by omega) ?_))
              intro z22 _ f23
              refine n_goto c_18_27 (n_istore (L2 := [some (2, 4), some (0, c), some (0, 3), some (0, z13), some (0, 0), some (0, (0 + 1)), some (0, z22)]) c_18_33 rfl rfl (n_aload_n c_18_35 rfl (n_getV (bi := 0) c_18_36 sc_4.n rfl rfl rfl (t_4_0 hS) ?_)))
              intro z24 ez24 f25
              obtain rfl : z24 = 2 := by omega
              refine n_iconst c_18_39 ?_
              refine n_if2_ne c_18_40 (by omega) (by omega) ?_ ?_
              · intro h26
                exfalso; omega
              · intro h27
                refine n_iload_n c_18_43 rfl (n_iconst c_18_44 (n_idivV c_18_45 (by omega) (by omega) ?_))
                intro z28 _ f29
                refine n_goto c_18_46 (n_istore_n (L2 := [some (2, 4), some (0, c), some (0, 3), some (0, z28), some (0, 0), some (0, (0 + 1)), some (0, z22)]) c_18_52 rfl rfl (n_iload c_18_53 rfl (n_iload_n c_18_55 rfl ?_)))
                refine n_if2_lt c_18_56 (by omega) (by omega) ?_ ?_
                · intro h30
                  refine n_iinc (L2 := [some (2, 4), some (0, c), some (0, 3), some (0, z28), some (0, 0), some (0, ((0 + 1) + 1)), some (0, z22)]) c_18_71 rfl rfl rfl (n_goto c_18_74 (n_iload c_18_8 rfl (n_iload_n c_18_10 rfl (n_iconst c_18_11 (n_iadd c_18_12 rfl ?_)))))
                  refine n_if2_ge c_18_13 (by omega) (by omega) ?_ ?_
                  · intro h31
                    exfalso; omega
                  · intro h32
                    refine n_aload_n c_18_16 rfl (n_getV (bi := 0) c_18_17 sc_4.n rfl rfl rfl (t_4_0 hS) ?_)
                    intro z33 ez33 f34
                    obtain rfl : z33 = 2 := by omega
                    refine n_iconst c_18_20 ?_
                    refine n_if2_ne c_18_21 (by omega) (by omega) ?_ ?_
                    · intro h35
                      exfalso; omega
                    · intro h36
                      refine n_iload_n c_18_24 rfl (n_iconst c_18_25 (n_iremV c_18_26 (by omega) (by omega) ?_))
                      intro z37 _ f38
                      refine n_goto c_18_27 (n_istore (L2 := [some (2, 4), some (0, c), some (0, 3), some (0, z28), some (0, 0), some (0, ((0 + 1) + 1)), some (0, z37)]) c_18_33 rfl rfl (n_aload_n c_18_35 rfl (n_getV (bi := 0) c_18_36 sc_4.n rfl rfl rfl (t_4_0 hS) ?_)))
                      intro z39 ez39 f40
                      obtain rfl : z39 = 2 := by omega
                      refine n_iconst c_18_39 ?_
                      refine n_if2_ne c_18_40 (by omega) (by omega) ?_ ?_
                      · intro h41
                        exfalso; omega
                      · intro h42
                        refine n_iload_n c_18_43 rfl (n_iconst c_18_44 (n_idivV c_18_45 (by omega) (by omega) ?_))
                        intro z43 _ f44
                        refine n_goto c_18_46 (n_istore_n (L2 := [some (2, 4), some (0, c), some (0, 3), some (0, z43), some (0, 0), some (0, ((0 + 1) + 1)), some (0, z37)]) c_18_52 rfl rfl (n_iload c_18_53 rfl (n_iload_n c_18_55 rfl ?_)))
                        refine n_if2_lt c_18_56 (by omega) (by omega) ?_ ?_
                        · intro h45
                          refine n_iinc (L2 := [some (2, 4), some (0, c), some (0, 3), some (0, z43), some (0, 0), some (0, (((0 + 1) + 1) + 1)), some (0, z37)]) c_18_71 rfl rfl rfl (n_goto c_18_74 (n_iload c_18_8 rfl (n_iload_n c_18_10 rfl (n_iconst c_18_11 (n_iadd c_18_12 rfl ?_)))))
                          refine n_if2_ge c_18_13 (by omega) (by omega) ?_ ?_
                          · intro h46
                            exfalso; omega
                          · intro h47
                            refine n_aload_n c_18_16 rfl (n_getV (bi := 0) c_18_17 sc_4.n rfl rfl rfl (t_4_0 hS) ?_)
                            intro z48 ez48 f49
                            obtain rfl : z48 = 2 := by omega
                            refine n_iconst c_18_20 ?_
                            refine n_if2_ne c_18_21 (by omega) (by omega) ?_ ?_
                            · intro h50
                              exfalso; omega
                            · intro h51
                              refine n_iload_n c_18_24 rfl (n_iconst c_18_25 (n_iremV c_18_26 (by omega) (by omega) ?_))
                              intro z52 _ f53
                              refine n_goto c_18_27 (n_istore (L2 := [some (2, 4), some (0, c), some (0, 3), some (0, z43), some (0, 0), some (0, (((0 + 1) + 1) + 1)), some (0, z52)]) c_18_33 rfl rfl (n_aload_n c_18_35 rfl (n_getV (bi := 0) c_18_36 sc_4.n rfl rfl rfl (t_4_0 hS) ?_)))
                              intro z54 ez54 f55
                              obtain rfl : z54 = 2 := by omega
                              refine n_iconst c_18_39 ?_
                              refine n_if2_ne c_18_40 (by omega) (by omega) ?_ ?_
                              · intro h56
                                exfalso; omega
                              · intro h57
                                refine n_iload_n c_18_43 rfl (n_iconst c_18_44 (n_idivV c_18_45 (by omega) (by omega) ?_))
                                intro z58 _ f59
                                refine n_goto c_18_46 (n_istore_n (L2 := [some (2, 4), some (0, c), some (0, 3), some (0, z58), some (0, 0), some (0, (((0 + 1) + 1) + 1)), some (0, z52)]) c_18_52 rfl rfl (n_iload c_18_53 rfl (n_iload_n c_18_55 rfl ?_)))
                                refine n_if2_lt c_18_56 (by omega) (by omega) ?_ ?_
                                · intro h60
                                  exfalso; omega
                                · intro h61
                                  refine n_iload c_18_59 rfl (n_aload_n c_18_61 rfl (n_getV (bi := 0) c_18_62 sc_4.n rfl rfl rfl (t_4_0 hS) ?_))
                                  intro z62 ez62 f63
                                  obtain rfl : z62 = 2 := by omega
                                  refine n_imul c_18_65 rfl (n_iload c_18_66 rfl (n_iadd c_18_68 rfl (n_istore (L2 := [some (2, 4), some (0, c), some (0, 3), some (0, z58), some (0, ((0 * 2) + z52)), some (0, (((0 + 1) + 1) + 1)), some (0, z52)]) c_18_69 rfl rfl (n_iinc (L2 := [some (2, 4), some (0, c), some (0, 3), some (0, z58), some (0, ((0 * 2) + z52)), some (0, ((((0 + 1) + 1) + 1) + 1)), some (0, z52)]) c_18_71 rfl rfl rfl (n_goto c_18_74 (n_iload c_18_8 rfl (n_iload_n c_18_10 rfl (n_iconst c_18_11 (n_iadd c_18_12 rfl ?_)))))))))
                                  refine n_if2_ge c_18_13 (by omega) (by omega) ?_ ?_
                                  · intro h64
                                    exfalso; omega
                                  · intro h65
                                    refine n_aload_n c_18_16 rfl (n_getV (bi := 0) c_18_17 sc_4.n rfl rfl rfl (t_4_0 hS) ?_)
                                    intro z66 ez66 f67
                                    obtain rfl : z66 = 2 := by omega
                                    refine n_iconst c_18_20 ?_
                                    refine n_if2_ne c_18_21 (by omega) (by omega) ?_ ?_
                                    · intro h68
                                      exfalso; omega
                                    · intro h69
                                      refine n_iload_n c_18_24 rfl (n_iconst c_18_25 (n_iremV c_18_26 (by omega) (by omega) ?_))
                                      intro z70 _ f71
                                      refine n_goto c_18_27 (n_istore (L2 := [some (2, 4), some (0, c), some (0, 3), some (0, z58), some (0, ((0 * 2) + z52)), some (0, ((((0 + 1) + 1) + 1) + 1)), some (0, z70)]) c_18_33 rfl rfl (n_aload_n c_18_35 rfl (n_getV (bi := 0) c_18_36 sc_4.n rfl rfl rfl (t_4_0 hS) ?_)))
                                      intro z72 ez72 f73
                                      obtain rfl : z72 = 2 := by omega
                                      refine n_iconst c_18_39 ?_
                                      refine n_if2_ne c_18_40 (by omega) (by omega) ?_ ?_
                                      · intro h74
                                        exfalso; omega
                                      · intro h75
                                        refine n_iload_n c_18_43 rfl (n_iconst c_18_44 (n_idivV c_18_45 (by omega) (by omega) ?_))
                                        intro z76 _ f77
                                        refine n_goto c_18_46 (n_istore_n (L2 := [some (2, 4), some (0, c), some (0, 3), some (0, z76), some (0, ((0 * 2) + z52)), some (0, ((((0 + 1) + 1) + 1) + 1)), some (0, z70)]) c_18_52 rfl rfl (n_iload c_18_53 rfl (n_iload_n c_18_55 rfl ?_)))
                                        refine n_if2_lt c_18_56 (by omega) (by omega) ?_ ?_
                                        · intro h78
                                          exfalso; omega
                                        · intro h79
                                          refine n_iload c_18_59 rfl (n_aload_n c_18_61 rfl (n_getV (bi := 0) c_18_62 sc_4.n rfl rfl rfl (t_4_0 hS) ?_))
                                          intro z80 ez80 f81
                                          obtain rfl : z80 = 2 := by omega
                                          refine n_imul c_18_65 rfl (n_iload c_18_66 rfl (n_iadd c_18_68 rfl (n_istore (L2 := [some (2, 4), some (0, c), some (0, 3), some (0, z76), some (0, ((((0 * 2) + z52) * 2) + z70)), some (0, ((((0 + 1) + 1) + 1) + 1)), some (0, z70)]) c_18_69 rfl rfl (n_iinc (L2 := [some (2, 4), some (0, c), some (0, 3), some (0, z76), some (0, ((((0 * 2) + z52) * 2) + z70)), some (0, (((((0 + 1) + 1) + 1) + 1) + 1)), some (0, z70)]) c_18_71 rfl rfl rfl (n_goto c_18_74 (n_iload c_18_8 rfl (n_iload_n c_18_10 rfl (n_iconst c_18_11 (n_iadd c_18_12 rfl ?_)))))))))
                                          refine n_if2_ge c_18_13 (by omega) (by omega) ?_ ?_
                                          · intro h82
                                            exfalso; omega
                                          · intro h83
                                            refine n_aload_n c_18_16 rfl (n_getV (bi := 0) c_18_17 sc_4.n rfl rfl rfl (t_4_0 hS) ?_)
                                            intro z84 ez84 f85
                                            obtain rfl : z84 = 2 := by omega
                                            refine n_iconst c_18_20 ?_
                                            refine n_if2_ne c_18_21 (by omega) (by omega) ?_ ?_
                                            · intro h86
                                              exfalso; omega
                                            · intro h87
                                              refine n_iload_n c_18_24 rfl (n_iconst c_18_25 (n_iremV c_18_26 (by omega) (by omega) ?_))
                                              intro z88 _ f89
                                              refine n_goto c_18_27 (n_istore (L2 := [some (2, 4), some (0, c), some (0, 3), some (0, z76), some (0, ((((0 * 2) + z52) * 2) + z70)), some (0, (((((0 + 1) + 1) + 1) + 1) + 1)), some (0, z88)]) c_18_33 rfl rfl (n_aload_n c_18_35 rfl (n_getV (bi := 0) c_18_36 sc_4.n rfl rfl rfl (t_4_0 hS) ?_)))
                                              intro z90 ez90 f91
                                              obtain rfl : z90 = 2 := by omega
                                              refine n_iconst c_18_39 ?_
                                              refine n_if2_ne c_18_40 (by omega) (by omega) ?_ ?_
                                              · intro h92
                                                exfalso; omega
                                              · intro h93
                                                refine n_iload_n c_18_43 rfl (n_iconst c_18_44 (n_idivV c_18_45 (by omega) (by omega) ?_))
                                                intro z94 _ f95
                                                refine n_goto c_18_46 (n_istore_n (L2 := [some (2, 4), some (0, c), some (0, 3), some (0, z94), some (0, ((((0 * 2) + z52) * 2) + z70)), some (0, (((((0 + 1) + 1) + 1) + 1) + 1)), some (0, z88)]) c_18_52 rfl rfl (n_iload c_18_53 rfl (n_iload_n c_18_55 rfl ?_)))
                                                refine n_if2_lt c_18_56 (by omega) (by omega) ?_ ?_
                                                · intro h96
                                                  exfalso; omega
                                                · intro h97
                                                  refine n_iload c_18_59 rfl (n_aload_n c_18_61 rfl (n_getV (bi := 0) c_18_62 sc_4.n rfl rfl rfl (t_4_0 hS) ?_))
                                                  intro z98 ez98 f99
                                                  obtain rfl : z98 = 2 := by omega
                                                  refine n_imul c_18_65 rfl (n_iload c_18_66 rfl (n_iadd c_18_68 rfl (n_istore (L2 := [some (2, 4), some (0, c), some (0, 3), some (0, z94), some (0, ((((((0 * 2) + z52) * 2) + z70) * 2) + z88)), some (0, (((((0 + 1) + 1) + 1) + 1) + 1)), some (0, z88)]) c_18_69 rfl rfl (n_iinc (L2 := [some (2, 4), some (0, c), some (0, 3), some (0, z94), some (0, ((((((0 * 2) + z52) * 2) + z70) * 2) + z88)), some (0, ((((((0 + 1) + 1) + 1) + 1) + 1) + 1)), some (0, z88)]) c_18_71 rfl rfl rfl (n_goto c_18_74 (n_iload c_18_8 rfl (n_iload_n c_18_10 rfl (n_iconst c_18_11 (n_iadd c_18_12 rfl ?_)))))))))
                                                  refine n_if2_ge c_18_13 (by omega) (by omega) ?_ ?_
                                                  · intro h100
                                                    refine n_iload c_18_77 rfl ?_
                                                    exact n_rI c_18_79 rfl ⟨rfl, by omega⟩
                                                  · intro h101
                                                    exfalso; omega
                        · intro h102
                          exfalso; omega
                · intro h103
                  exfalso; omega
        · intro h104
          exfalso; omega

/-! The methods, by program. -/
set_option maxHeartbeats 4000000 in
theorem threeOf6_2 {xs : List Int32} {e : Nat} {ac : Int} {M0 M : nM} {c : Int} (hS : Sf 2 ac M0 M) (hc : 0 ≤ c ∧ c ≤ 19682) : nW xs e 18 0 [some (2, 4), some (0, c), some (0, 6), none, none, none, none] [] M (nPI fun z M1 => M = M1 ∧ (0 ≤ z ∧ z ≤ 7)) := by
  have hd : (2 : Int) = 2 ∨ (2 : Int) = 3 := by decide
  have hac := hS.2.2.2.2
  refine n_iload_n c_18_0 rfl (n_istore_n (L2 := [some (2, 4), some (0, c), some (0, 6), some (0, c), none, none, none]) c_18_1 rfl rfl (n_iconst c_18_2 (n_istore (L2 := [some (2, 4), some (0, c), some (0, 6), some (0, c), some (0, 0), none, none]) c_18_3 rfl rfl (n_iconst c_18_5 (n_istore (L2 := [some (2, 4), some (0, c), some (0, 6), some (0, c), some (0, 0), some (0, 0), none]) c_18_6 rfl rfl (n_iload c_18_8 rfl (n_iload_n c_18_10 rfl (n_iconst c_18_11 (n_iadd c_18_12 rfl ?_)))))))))
  refine n_if2_ge c_18_13 (by omega) (by omega) ?_ ?_
  · intro h1
    exfalso; omega
  · intro h2
    refine n_aload_n c_18_16 rfl (n_getV (bi := 0) c_18_17 sc_4.n rfl rfl rfl (t_4_0 hS) ?_)
    intro z3 ez3 f4
    obtain rfl : z3 = 2 := by omega
    refine n_iconst c_18_20 ?_
    refine n_if2_ne c_18_21 (by omega) (by omega) ?_ ?_
    · intro h5
      exfalso; omega
    · intro h6
      refine n_iload_n c_18_24 rfl (n_iconst c_18_25 (n_iremV c_18_26 (by omega) (by omega) ?_))
      intro z7 _ f8
      refine n_goto c_18_27 (n_istore (L2 := [some (2, 4), some (0, c), some (0, 6), some (0, c), some (0, 0), some (0, 0), some (0, z7)]) c_18_33 rfl rfl (n_aload_n c_18_35 rfl (n_getV (bi := 0) c_18_36 sc_4.n rfl rfl rfl (t_4_0 hS) ?_)))
      intro z9 ez9 f10
      obtain rfl : z9 = 2 := by omega
      refine n_iconst c_18_39 ?_
      refine n_if2_ne c_18_40 (by omega) (by omega) ?_ ?_
      · intro h11
        exfalso; omega
      · intro h12
        refine n_iload_n c_18_43 rfl (n_iconst c_18_44 (n_idivV c_18_45 (by omega) (by omega) ?_))
        intro z13 _ f14
        refine n_goto c_18_46 (n_istore_n (L2 := [some (2, 4), some (0, c), some (0, 6), some (0, z13), some (0, 0), some (0, 0), some (0, z7)]) c_18_52 rfl rfl (n_iload c_18_53 rfl (n_iload_n c_18_55 rfl ?_)))
        refine n_if2_lt c_18_56 (by omega) (by omega) ?_ ?_
        · intro h15
          refine n_iinc (L2 := [some (2, 4), some (0, c), some (0, 6), some (0, z13), some (0, 0), some (0, (0 + 1)), some (0, z7)]) c_18_71 rfl rfl rfl (n_goto c_18_74 (n_iload c_18_8 rfl (n_iload_n c_18_10 rfl (n_iconst c_18_11 (n_iadd c_18_12 rfl ?_)))))
          refine n_if2_ge c_18_13 (by omega) (by omega) ?_ ?_
          · intro h16
            exfalso; omega
          · intro h17
            refine n_aload_n c_18_16 rfl (n_getV (bi := 0) c_18_17 sc_4.n rfl rfl rfl (t_4_0 hS) ?_)
            intro z18 ez18 f19
            obtain rfl : z18 = 2 := by omega
            refine n_iconst c_18_20 ?_
            refine n_if2_ne c_18_21 (by omega) (by omega) ?_ ?_
            · intro h20
              exfalso; omega
            · intro h21
              refine n_iload_n c_18_24 rfl (n_iconst c_18_25 (n_iremV c_18_26 (by omega) (by omega) ?_))
              intro z22 _ f23
              refine n_goto c_18_27 (n_istore (L2 := [some (2, 4), some (0, c), some (0, 6), some (0, z13), some (0, 0), some (0, (0 + 1)), some (0, z22)]) c_18_33 rfl rfl (n_aload_n c_18_35 rfl (n_getV (bi := 0) c_18_36 sc_4.n rfl rfl rfl (t_4_0 hS) ?_)))
              intro z24 ez24 f25
              obtain rfl : z24 = 2 := by omega
              refine n_iconst c_18_39 ?_
              refine n_if2_ne c_18_40 (by omega) (by omega) ?_ ?_
              · intro h26
                exfalso; omega
              · intro h27
                refine n_iload_n c_18_43 rfl (n_iconst c_18_44 (n_idivV c_18_45 (by omega) (by omega) ?_))
                intro z28 _ f29
                refine n_goto c_18_46 (n_istore_n (L2 := [some (2, 4), some (0, c), some (0, 6), some (0, z28), some (0, 0), some (0, (0 + 1)), some (0, z22)]) c_18_52 rfl rfl (n_iload c_18_53 rfl (n_iload_n c_18_55 rfl ?_)))
                refine n_if2_lt c_18_56 (by omega) (by omega) ?_ ?_
                · intro h30
                  refine n_iinc (L2 := [some (2, 4), some (0, c), some (0, 6), some (0, z28), some (0, 0), some (0, ((0 + 1) + 1)), some (0, z22)]) c_18_71 rfl rfl rfl (n_goto c_18_74 (n_iload c_18_8 rfl (n_iload_n c_18_10 rfl (n_iconst c_18_11 (n_iadd c_18_12 rfl ?_)))))
                  refine n_if2_ge c_18_13 (by omega) (by omega) ?_ ?_
                  · intro h31
                    exfalso; omega
                  · intro h32
                    refine n_aload_n c_18_16 rfl (n_getV (bi := 0) c_18_17 sc_4.n rfl rfl rfl (t_4_0 hS) ?_)
                    intro z33 ez33 f34
                    obtain rfl : z33 = 2 := by omega
                    refine n_iconst c_18_20 ?_
                    refine n_if2_ne c_18_21 (by omega) (by omega) ?_ ?_
                    · intro h35
                      exfalso; omega
                    · intro h36
                      refine n_iload_n c_18_24 rfl (n_iconst c_18_25 (n_iremV c_18_26 (by omega) (by omega) ?_))
                      intro z37 _ f38
                      refine n_goto c_18_27 (n_istore (L2 := [some (2, 4), some (0, c), some (0, 6), some (0, z28), some (0, 0), some (0, ((0 + 1) + 1)), some (0, z37)]) c_18_33 rfl rfl (n_aload_n c_18_35 rfl (n_getV (bi := 0) c_18_36 sc_4.n rfl rfl rfl (t_4_0 hS) ?_)))
                      intro z39 ez39 f40
                      obtain rfl : z39 = 2 := by omega
                      refine n_iconst c_18_39 ?_
                      refine n_if2_ne c_18_40 (by omega) (by omega) ?_ ?_
                      · intro h41
                        exfalso; omega
                      · intro h42
                        refine n_iload_n c_18_43 rfl (n_iconst c_18_44 (n_idivV c_18_45 (by omega) (by omega) ?_))
                        intro z43 _ f44
                        refine n_goto c_18_46 (n_istore_n (L2 := [some (2, 4), some (0, c), some (0, 6), some (0, z43), some (0, 0), some (0, ((0 + 1) + 1)), some (0, z37)]) c_18_52 rfl rfl (n_iload c_18_53 rfl (n_iload_n c_18_55 rfl ?_)))
                        refine n_if2_lt c_18_56 (by omega) (by omega) ?_ ?_
                        · intro h45
                          refine n_iinc (L2 := [some (2, 4), some (0, c), some (0, 6), some (0, z43), some (0, 0), some (0, (((0 + 1) + 1) + 1)), some (0, z37)]) c_18_71 rfl rfl rfl (n_goto c_18_74 (n_iload c_18_8 rfl (n_iload_n c_18_10 rfl (n_iconst c_18_11 (n_iadd c_18_12 rfl ?_)))))
                          refine n_if2_ge c_18_13 (by omega) (by omega) ?_ ?_
                          · intro h46
                            exfalso; omega
                          · intro h47
                            refine n_aload_n c_18_16 rfl (n_getV (bi := 0) c_18_17 sc_4.n rfl rfl rfl (t_4_0 hS) ?_)
                            intro z48 ez48 f49
                            obtain rfl : z48 = 2 := by omega
                            refine n_iconst c_18_20 ?_
                            refine n_if2_ne c_18_21 (by omega) (by omega) ?_ ?_
                            · intro h50
                              exfalso; omega
                            · intro h51
                              refine n_iload_n c_18_24 rfl (n_iconst c_18_25 (n_iremV c_18_26 (by omega) (by omega) ?_))
                              intro z52 _ f53
                              refine n_goto c_18_27 (n_istore (L2 := [some (2, 4), some (0, c), some (0, 6), some (0, z43), some (0, 0), some (0, (((0 + 1) + 1) + 1)), some (0, z52)]) c_18_33 rfl rfl (n_aload_n c_18_35 rfl (n_getV (bi := 0) c_18_36 sc_4.n rfl rfl rfl (t_4_0 hS) ?_)))
                              intro z54 ez54 f55
                              obtain rfl : z54 = 2 := by omega
                              refine n_iconst c_18_39 ?_
                              refine n_if2_ne c_18_40 (by omega) (by omega) ?_ ?_
                              · intro h56
                                exfalso; omega
                              · intro h57
                                refine n_iload_n c_18_43 rfl (n_iconst c_18_44 (n_idivV c_18_45 (by omega) (by omega) ?_))
                                intro z58 _ f59
                                refine n_goto c_18_46 (n_istore_n (L2 := [some (2, 4), some (0, c), some (0, 6), some (0, z58), some (0, 0), some (0, (((0 + 1) + 1) + 1)), some (0, z52)]) c_18_52 rfl rfl (n_iload c_18_53 rfl (n_iload_n c_18_55 rfl ?_)))
                                refine n_if2_lt c_18_56 (by omega) (by omega) ?_ ?_
                                · intro h60
                                  refine n_iinc (L2 := [some (2, 4), some (0, c), some (0, 6), some (0, z58), some (0, 0), some (0, ((((0 + 1) + 1) + 1) + 1)), some (0, z52)]) c_18_71 rfl rfl rfl (n_goto c_18_74 (n_iload c_18_8 rfl (n_iload_n c_18_10 rfl (n_iconst c_18_11 (n_iadd c_18_12 rfl ?_)))))
                                  refine n_if2_ge c_18_13 (by omega) (by omega) ?_ ?_
                                  · intro h61
                                    exfalso; omega
                                  · intro h62
                                    refine n_aload_n c_18_16 rfl (n_getV (bi := 0) c_18_17 sc_4.n rfl rfl rfl (t_4_0 hS) ?_)
                                    intro z63 ez63 f64
                                    obtain rfl : z63 = 2 := by omega
                                    refine n_iconst c_18_20 ?_
                                    refine n_if2_ne c_18_21 (by omega) (by omega) ?_ ?_
                                    · intro h65
                                      exfalso; omega
                                    · intro h66
                                      refine n_iload_n c_18_24 rfl (n_iconst c_18_25 (n_iremV c_18_26 (by omega) (by omega) ?_))
                                      intro z67 _ f68
                                      refine n_goto c_18_27 (n_istore (L2 := [some (2, 4), some (0, c), some (0, 6), some (0, z58), some (0, 0), some (0, ((((0 + 1) + 1) + 1) + 1)), some (0, z67)]) c_18_33 rfl rfl (n_aload_n c_18_35 rfl (n_getV (bi := 0) c_18_36 sc_4.n rfl rfl rfl (t_4_0 hS) ?_)))
                                      intro z69 ez69 f70
                                      obtain rfl : z69 = 2 := by omega
                                      refine n_iconst c_18_39 ?_
                                      refine n_if2_ne c_18_40 (by omega) (by omega) ?_ ?_
                                      · intro h71
                                        exfalso; omega
                                      · intro h72
                                        refine n_iload_n c_18_43 rfl (n_iconst c_18_44 (n_idivV c_18_45 (by omega) (by omega) ?_))
                                        intro z73 _ f74
                                        refine n_goto c_18_46 (n_istore_n (L2 := [some (2, 4), some (0, c), some (0, 6), some (0, z73), some (0, 0), some (0, ((((0 + 1) + 1) + 1) + 1)), some (0, z67)]) c_18_52 rfl rfl (n_iload c_18_53 rfl (n_iload_n c_18_55 rfl ?_)))
                                        refine n_if2_lt c_18_56 (by omega) (by omega) ?_ ?_
                                        · intro h75
                                          refine n_iinc (L2 := [some (2, 4), some (0, c), some (0, 6), some (0, z73), some (0, 0), some (0, (((((0 + 1) + 1) + 1) + 1) + 1)), some (0, z67)]) c_18_71 rfl rfl rfl (n_goto c_18_74 (n_iload c_18_8 rfl (n_iload_n c_18_10 rfl (n_iconst c_18_11 (n_iadd c_18_12 rfl ?_)))))
                                          refine n_if2_ge c_18_13 (by omega) (by omega) ?_ ?_
                                          · intro h76
                                            exfalso; omega
                                          · intro h77
                                            refine n_aload_n c_18_16 rfl (n_getV (bi := 0) c_18_17 sc_4.n rfl rfl rfl (t_4_0 hS) ?_)
                                            intro z78 ez78 f79
                                            obtain rfl : z78 = 2 := by omega
                                            refine n_iconst c_18_20 ?_
                                            refine n_if2_ne c_18_21 (by omega) (by omega) ?_ ?_
                                            · intro h80
                                              exfalso; omega
                                            · intro h81
                                              refine n_iload_n c_18_24 rfl (n_iconst c_18_25 (n_iremV c_18_26 (by omega) (by omega) ?_))
                                              intro z82 _ f83
                                              refine n_goto c_18_27 (n_istore (L2 := [some (2, 4), some (0, c), some (0, 6), some (0, z73), some (0, 0), some (0, (((((0 + 1) + 1) + 1) + 1) + 1)), some (0, z82)]) c_18_33 rfl rfl (n_aload_n c_18_35 rfl (n_getV (bi := 0) c_18_36 sc_4.n rfl rfl rfl (t_4_0 hS) ?_)))
                                              intro z84 ez84 f85
                                              obtain rfl : z84 = 2 := by omega
                                              refine n_iconst c_18_39 ?_
                                              refine n_if2_ne c_18_40 (by omega) (by omega) ?_ ?_
                                              · intro h86
                                                exfalso; omega
                                              · intro h87
                                                refine n_iload_n c_18_43 rfl (n_iconst c_18_44 (n_idivV c_18_45 (by omega) (by omega) ?_))
                                                intro z88 _ f89
                                                refine n_goto c_18_46 (n_istore_n (L2 := [some (2, 4), some (0, c), some (0, 6), some (0, z88), some (0, 0), some (0, (((((0 + 1) + 1) + 1) + 1) + 1)), some (0, z82)]) c_18_52 rfl rfl (n_iload c_18_53 rfl (n_iload_n c_18_55 rfl ?_)))
                                                refine n_if2_lt c_18_56 (by omega) (by omega) ?_ ?_
                                                · intro h90
                                                  refine n_iinc (L2 := [some (2, 4), some (0, c), some (0, 6), some (0, z88), some (0, 0), some (0, ((((((0 + 1) + 1) + 1) + 1) + 1) + 1)), some (0, z82)]) c_18_71 rfl rfl rfl (n_goto c_18_74 (n_iload c_18_8 rfl (n_iload_n c_18_10 rfl (n_iconst c_18_11 (n_iadd c_18_12 rfl ?_)))))
                                                  refine n_if2_ge c_18_13 (by omega) (by omega) ?_ ?_
                                                  · intro h91
                                                    exfalso; omega
                                                  · intro h92
                                                    refine n_aload_n c_18_16 rfl (n_getV (bi := 0) c_18_17 sc_4.n rfl rfl rfl (t_4_0 hS) ?_)
                                                    intro z93 ez93 f94
                                                    obtain rfl : z93 = 2 := by omega
                                                    refine n_iconst c_18_20 ?_
                                                    refine n_if2_ne c_18_21 (by omega) (by omega) ?_ ?_
                                                    · intro h95
                                                      exfalso; omega
                                                    · intro h96
                                                      refine n_iload_n c_18_24 rfl (n_iconst c_18_25 (n_iremV c_18_26 (by omega) (by omega) ?_))
                                                      intro z97 _ f98
                                                      refine n_goto c_18_27 (n_istore (L2 := [some (2, 4), some (0, c), some (0, 6), some (0, z88), some (0, 0), some (0, ((((((0 + 1) + 1) + 1) + 1) + 1) + 1)), some (0, z97)]) c_18_33 rfl rfl (n_aload_n c_18_35 rfl (n_getV (bi := 0) c_18_36 sc_4.n rfl rfl rfl (t_4_0 hS) ?_)))
                                                      intro z99 ez99 f100
                                                      obtain rfl : z99 = 2 := by omega
                                                      refine n_iconst c_18_39 ?_
                                                      refine n_if2_ne c_18_40 (by omega) (by omega) ?_ ?_
                                                      · intro h101
                                                        exfalso; omega
                                                      · intro h102
                                                        refine n_iload_n c_18_43 rfl (n_iconst c_18_44 (n_idivV c_18_45 (by omega) (by omega) ?_))
                                                        intro z103 _ f104
                                                        refine n_goto c_18_46 (n_istore_n (L2 := [some (2, 4), some (0, c), some (0, 6), some (0, z103), some (0, 0), some (0, ((((((0 + 1) + 1) + 1) + 1) + 1) + 1)), some (0, z97)]) c_18_52 rfl rfl (n_iload c_18_53 rfl (n_iload_n c_18_55 rfl ?_)))
                                                        refine n_if2_lt c_18_56 (by omega) (by omega) ?_ ?_
                                                        · intro h105
                                                          exfalso; omega
                                                        · intro h106
                                                          refine n_iload c_18_59 rfl (n_aload_n c_18_61 rfl (n_getV (bi := 0) c_18_62 sc_4.n rfl rfl rfl (t_4_0 hS) ?_))
                                                          intro z107 ez107 f108
                                                          obtain rfl : z107 = 2 := by omega
                                                          refine n_imul c_18_65 rfl (n_iload c_18_66 rfl (n_iadd c_18_68 rfl (n_istore (L2 := [some (2, 4), some (0, c), some (0, 6), some (0, z103), some (0, ((0 * 2) + z97)), some (0, ((((((0 + 1) + 1) + 1) + 1) + 1) + 1)), some (0, z97)]) c_18_69 rfl rfl (n_iinc (L2 := [some (2, 4), some (0, c), some (0, 6), some (0, z103), some (0, ((0 * 2) + z97)), some (0, (((((((0 + 1) + 1) + 1) + 1) + 1) + 1) + 1)), some (0, z97)]) c_18_71 rfl rfl rfl (n_goto c_18_74 (n_iload c_18_8 rfl (n_iload_n c_18_10 rfl (n_iconst c_18_11 (n_iadd c_18_12 rfl ?_)))))))))
                                                          refine n_if2_ge c_18_13 (by omega) (by omega) ?_ ?_
                                                          · intro h109
                                                            exfalso; omega
                                                          · intro h110
                                                            refine n_aload_n c_18_16 rfl (n_getV (bi := 0) c_18_17 sc_4.n rfl rfl rfl (t_4_0 hS) ?_)
                                                            intro z111 ez111 f112
                                                            obtain rfl : z111 = 2 := by omega
                                                            refine n_iconst c_18_20 ?_
                                                            refine n_if2_ne c_18_21 (by omega) (by omega) ?_ ?_
                                                            · intro h113
                                                              exfalso; omega
                                                            · intro h114
                                                              refine n_iload_n c_18_24 rfl (n_iconst c_18_25 (n_iremV c_18_26 (by omega) (by omega) ?_))
                                                              intro z115 _ f116
                                                              refine n_goto c_18_27 (n_istore (L2 := [some (2, 4), some (0, c), some (0, 6), some (0, z103), some (0, ((0 * 2) + z97)), some (0, (((((((0 + 1) + 1) + 1) + 1) + 1) + 1) + 1)), some (0, z115)]) c_18_33 rfl rfl (n_aload_n c_18_35 rfl (n_getV (bi := 0) c_18_36 sc_4.n rfl rfl rfl (t_4_0 hS) ?_)))
                                                              intro z117 ez117 f118
                                                              obtain rfl : z117 = 2 := by omega
                                                              refine n_iconst c_18_39 ?_
                                                              refine n_if2_ne c_18_40 (by omega) (by omega) ?_ ?_
                                                              · intro h119
                                                                exfalso; omega
                                                              · intro h120
                                                                refine n_iload_n c_18_43 rfl (n_iconst c_18_44 (n_idivV c_18_45 (by omega) (by omega) ?_))
                                                                intro z121 _ f122
                                                                refine n_goto c_18_46 (n_istore_n (L2 := [some (2, 4), some (0, c), some (0, 6), some (0, z121), some (0, ((0 * 2) + z97)), some (0, (((((((0 + 1) + 1) + 1) + 1) + 1) + 1) + 1)), some (0, z115)]) c_18_52 rfl rfl (n_iload c_18_53 rfl (n_iload_n c_18_55 rfl ?_)))
                                                                refine n_if2_lt c_18_56 (by omega) (by omega) ?_ ?_
                                                                · intro h123
                                                                  exfalso; omega
                                                                · intro h124
                                                                  refine n_iload c_18_59 rfl (n_aload_n c_18_61 rfl (n_getV (bi := 0) c_18_62 sc_4.n rfl rfl rfl (t_4_0 hS) ?_))
                                                                  intro z125 ez125 f126
                                                                  obtain rfl : z125 = 2 := by omega
                                                                  refine n_imul c_18_65 rfl (n_iload c_18_66 rfl (n_iadd c_18_68 rfl (n_istore (L2 := [some (2, 4), some (0, c), some (0, 6), some (0, z121), some (0, ((((0 * 2) + z97) * 2) + z115)), some (0, (((((((0 + 1) + 1) + 1) + 1) + 1) + 1) + 1)), some (0, z115)]) c_18_69 rfl rfl (n_iinc (L2 := [some (2, 4), some (0, c), some (0, 6), some (0, z121), some (0, ((((0 * 2) + z97) * 2) + z115)), some (0, ((((((((0 + 1) + 1) + 1) + 1) + 1) + 1) + 1) + 1)), some (0, z115)]) c_18_71 rfl rfl rfl (n_goto c_18_74 (n_iload c_18_8 rfl (n_iload_n c_18_10 rfl (n_iconst c_18_11 (n_iadd c_18_12 rfl ?_)))))))))
                                                                  refine n_if2_ge c_18_13 (by omega) (by omega) ?_ ?_
                                                                  · intro h127
                                                                    exfalso; omega
                                                                  · intro h128
                                                                    refine n_aload_n c_18_16 rfl (n_getV (bi := 0) c_18_17 sc_4.n rfl rfl rfl (t_4_0 hS) ?_)
                                                                    intro z129 ez129 f130
                                                                    obtain rfl : z129 = 2 := by omega
                                                                    refine n_iconst c_18_20 ?_
                                                                    refine n_if2_ne c_18_21 (by omega) (by omega) ?_ ?_
                                                                    · intro h131
                                                                      exfalso; omega
                                                                    · intro h132
                                                                      refine n_iload_n c_18_24 rfl (n_iconst c_18_25 (n_iremV c_18_26 (by omega) (by omega) ?_))
                                                                      intro z133 _ f134
                                                                      refine n_goto c_18_27 (n_istore (L2 := [some (2, 4), some (0, c), some (0, 6), some (0, z121), some (0, ((((0 * 2) + z97) * 2) + z115)), some (0, ((((((((0 + 1) + 1) + 1) + 1) + 1) + 1) + 1) + 1)), some (0, z133)]) c_18_33 rfl rfl (n_aload_n c_18_35 rfl (n_getV (bi := 0) c_18_36 sc_4.n rfl rfl rfl (t_4_0 hS) ?_)))
                                                                      intro z135 ez135 f136
                                                                      obtain rfl : z135 = 2 := by omega
                                                                      refine n_iconst c_18_39 ?_
                                                                      refine n_if2_ne c_18_40 (by omega) (by omega) ?_ ?_
                                                                      · intro h137
                                                                        exfalso; omega
                                                                      · intro h138
                                                                        refine n_iload_n c_18_43 rfl (n_iconst c_18_44 (n_idivV c_18_45 (by omega) (by omega) ?_))
                                                                        intro z139 _ f140
                                                                        refine n_goto c_18_46 (n_istore_n (L2 := [some (2, 4), some (0, c), some (0, 6), some (0, z139), some (0, ((((0 * 2) + z97) * 2) + z115)), some (0, ((((((((0 + 1) + 1) + 1) + 1) + 1) + 1) + 1) + 1)), some (0, z133)]) c_18_52 rfl rfl (n_iload c_18_53 rfl (n_iload_n c_18_55 rfl ?_)))
                                                                        refine n_if2_lt c_18_56 (by omega) (by omega) ?_ ?_
                                                                        · intro h141
                                                                          exfalso; omega
                                                                        · intro h142
                                                                          refine n_iload c_18_59 rfl (n_aload_n c_18_61 rfl (n_getV (bi := 0) c_18_62 sc_4.n rfl rfl rfl (t_4_0 hS) ?_))
                                                                          intro z143 ez143 f144
                                                                          obtain rfl : z143 = 2 := by omega
                                                                          refine n_imul c_18_65 rfl (n_iload c_18_66 rfl (n_iadd c_18_68 rfl (n_istore (L2 := [some (2, 4), some (0, c), some (0, 6), some (0, z139), some (0, ((((((0 * 2) + z97) * 2) + z115) * 2) + z133)), some (0, ((((((((0 + 1) + 1) + 1) + 1) + 1) + 1) + 1) + 1)), some (0, z133)]) c_18_69 rfl rfl (n_iinc (L2 := [some (2, 4), some (0, c), some (0, 6), some (0, z139), some (0, ((((((0 * 2) + z97) * 2) + z115) * 2) + z133)), some (0, (((((((((0 + 1) + 1) + 1) + 1) + 1) + 1) + 1) + 1) + 1)), some (0, z133)]) c_18_71 rfl rfl rfl (n_goto c_18_74 (n_iload c_18_8 rfl (n_iload_n c_18_10 rfl (n_iconst c_18_11 (n_iadd c_18_12 rfl ?_)))))))))
                                                                          refine n_if2_ge c_18_13 (by omega) (by omega) ?_ ?_
                                                                          · intro h145
                                                                            refine n_iload c_18_77 rfl ?_
                                                                            exact n_rI c_18_79 rfl ⟨rfl, by omega⟩
                                                                          · intro h146
                                                                            exfalso; omega
                                                · intro h147
                                                  exfalso; omega
                                        · intro h148
                                          exfalso; omega
                                · intro h149
                                  exfalso; omega
                        · intro h150
                          exfalso; omega
                · intro h151
                  exfalso; omega
        · intro h152
          exfalso; omega

set_option maxHeartbeats 4000000 in
theorem isSlot_2_c {xs : List Int32} {e : Nat} {ac : Int} {M0 M : nM} {s : Int} (hS : Sf 2 ac M0 M) (hs : -2147483648 ≤ s ∧ s ≤ 2147483647) : ∀ nn : Nat, (1 < (nn : Int) → nW xs e 84 14 [none, none] [] M (nPI fun z M1 => M = M1 ∧ (0 ≤ z ∧ z ≤ 1) ∧ (z = 0 ∨ (0 ≤ s ∧ s ≤ 7)))) := by
  have hd : (2 : Int) = 2 ∨ (2 : Int) = 3 := by decide
  have hac := hS.2.2.2.2
  intro nn
  induction nn with
  | zero => intros; omega
  | succ nn ih =>
    intro hnn
    refine n_iconst c_84_14 ?_
    exact n_rZ c_84_15 rfl (by omega) ⟨rfl, by omega, by omega⟩
set_option maxHeartbeats 4000000 in
theorem isSlot_2 {xs : List Int32} {e : Nat} {ac : Int} {M0 M : nM} {s : Int} (hS : Sf 2 ac M0 M) (hs : -2147483648 ≤ s ∧ s ≤ 2147483647) : nW xs e 84 0 [some (2, 8), some (0, s)] [] M (nPI fun z M1 => M = M1 ∧ (0 ≤ z ∧ z ≤ 1) ∧ (z = 0 ∨ (0 ≤ s ∧ s ≤ 7))) := by
  have hd : (2 : Int) = 2 ∨ (2 : Int) = 3 := by decide
  have hac := hS.2.2.2.2
  refine n_iload_n c_84_0 rfl ?_
  refine n_if0_lt c_84_1 (by omega) ?_ ?_
  · intro h1
    refine n_fg (le_n (le_n le_0)) ?_
    exact (isSlot_2_c hS hs 12)   (by omega)
  · intro h2
    refine n_iload_n c_84_4 rfl (n_bipush c_84_5 rfl ?_)
    refine n_if2_ge c_84_7 (by omega) (by omega) ?_ ?_
    · intro h3
      refine n_fg (le_n (le_n le_0)) ?_
      exact (isSlot_2_c hS hs 12)   (by omega)
    · intro h4
      refine n_iconst c_84_10 (n_goto c_84_11 ?_)
      exact n_rZ c_84_15 rfl (by omega) ⟨rfl, by omega, by omega⟩

set_option maxHeartbeats 4000000 in
theorem hasRow_2_c {xs : List Int32} {e : Nat} {ac : Int} {M0 M : nM} {s : Int} (hS : Sf 2 ac M0 M) (hs : -2147483648 ≤ s ∧ s ≤ 2147483647) : ∀ nn : Nat, (1 < (nn : Int) → nW xs (e + 1) 85 21 [none, none] [] M (nPI fun z M1 => M = M1 ∧ (0 ≤ z ∧ z ≤ 1) ∧ (z = 0 ∨ (0 ≤ s ∧ s ≤ 7)))) := by
  have hd : (2 : Int) = 2 ∨ (2 : Int) = 3 := by decide
  have hac := hS.2.2.2.2
  intro nn
  induction nn with
  | zero => intros; omega
  | succ nn ih =>
    intro hnn
    refine n_iconst c_85_21 ?_
    exact n_rZ c_85_22 rfl (by omega) ⟨rfl, by omega, by omega⟩
set_option maxHeartbeats 4000000 in
theorem hasRow_2 {xs : List Int32} {e : Nat} {ac : Int} {M0 M : nM} {s : Int} (hS : Sf 2 ac M0 M) (hs : -2147483648 ≤ s ∧ s ≤ 2147483647) : nW xs (e + 1) 85 0 [some (2, 8), some (0, s)] [] M (nPI fun z M1 => M = M1 ∧ (0 ≤ z ∧ z ≤ 1) ∧ (z = 0 ∨ (0 ≤ s ∧ s ≤ 7))) := by
  have hd : (2 : Int) = 2 ∨ (2 : Int) = 3 := by decide
  have hac := hS.2.2.2.2
  refine n_aload_n c_85_0 rfl (n_iload_n c_85_1 rfl (n_v1I c_85_2 rfl sc_8.n rfl rfl rfl rfl (isSlot_2 (s := s) hS (by omega)) ?_))
  intro z1 M2 hP3
  obtain ⟨eM, f3, f3p0⟩ := hP3
  subst eM
  refine n_if0_eq c_85_5 (by omega) ?_ ?_
  · intro h4
    refine n_fg (le_n (le_n le_0)) ?_
    exact (hasRow_2_c hS hs 12)   (by omega)
  · intro h5
    refine n_aload_n c_85_8 rfl (n_getR c_85_9 sc_8.n rfl rfl rfl r_8_2 (n_iload_n c_85_12 rfl (n_ialoadV c_85_13 sc_11.n rfl rfl rfl (by omega) (t_11 hS (by omega)) ?_)))
    intro z6 ez6 f7
    refine n_if0_lt c_85_14 (by omega) ?_ ?_
    · intro h8
      refine n_fg (le_n (le_n le_0)) ?_
      exact (hasRow_2_c hS hs 12)   (by omega)
    · intro h9
      refine n_iconst c_85_17 (n_goto c_85_18 ?_)
      exact n_rZ c_85_22 rfl (by omega) ⟨rfl, by omega, by omega⟩

set_option maxHeartbeats 4000000 in
theorem read1_2_c {xs : List Int32} {e : Nat} {ac : Int} {M0 M : nM} {s i : Int} (hS : Sf 2 ac M0 M) (hs : 0 ≤ s ∧ s ≤ 7) (hi : -2147483648 ≤ i ∧ i ≤ 2147483647) : ∀ nn : Nat, (2 < (nn : Int) → nW xs e 89 14 [none, none, none, none, none, none] [] M (nPI fun z M1 => M = M1 ∧ (-6 ≤ z ∧ z ≤ 1))) ∧ (1 < (nn : Int) → nW xs e 89 45 [none, none, none, none, none, none] [] M (nPI fun z M1 => M = M1 ∧ (-6 ≤ z ∧ z ≤ 1))) := by
  have hd : (2 : Int) = 2 ∨ (2 : Int) = 3 := by decide
  have hac := hS.2.2.2.2
  intro nn
  induction nn with
  | zero => refine ⟨?_, ?_⟩ <;> (intros; omega)
  | succ nn ih =>
    refine ⟨?_, ?_⟩
    · intro hnn
      refine n_bipush c_89_14 rfl ?_
      exact n_rI c_89_16 rfl ⟨rfl, by omega⟩
    · intro hnn
      refine n_bipush c_89_45 rfl ?_
      exact n_rI c_89_47 rfl ⟨rfl, by omega⟩
set_option maxHeartbeats 4000000 in
theorem read1_2 {xs : List Int32} {e : Nat} {ac : Int} {M0 M : nM} {s i : Int} (hS : Sf 2 ac M0 M) (hs : 0 ≤ s ∧ s ≤ 7) (hi : -2147483648 ≤ i ∧ i ≤ 2147483647) : nW xs e 89 0 [some (2, 8), some (0, s), some (0, i), some (0, 1), none, none] [] M (nPI fun z M1 => M = M1 ∧ (-6 ≤ z ∧ z ≤ 1)) := by
  have hd : (2 : Int) = 2 ∨ (2 : Int) = 3 := by decide
  have hac := hS.2.2.2.2
  refine n_iload_n c_89_0 rfl ?_
  refine n_if0_lt c_89_1 (by omega) ?_ ?_
  · intro h1
    refine n_fg (le_n (le_n (le_n (le_n (le_n (le_n le_0)))))) ?_
    exact (read1_2_c hS hs hi 14).1   (by omega)
  · intro h2
    refine n_iload_n c_89_4 rfl (n_aload_n c_89_5 rfl (n_getR c_89_6 sc_8.n rfl rfl rfl r_8_2 (n_iload_n c_89_9 rfl (n_ialoadV c_89_10 sc_11.n rfl rfl rfl (by omega) (t_11 hS (by omega)) ?_))))
    intro z3 ez3 f4
    refine n_if2_lt c_89_11 (by omega) (by omega) ?_ ?_
    · intro h5
      refine n_aload_n c_89_17 rfl (n_getR c_89_18 sc_8.n rfl rfl rfl r_8_0 (n_iload_n c_89_21 rfl (n_bipush c_89_22 rfl (n_imul c_89_24 rfl (n_iload_n c_89_25 rfl (n_iadd c_89_26 rfl (n_laloadV c_89_27 sc_9.n rfl rfl rfl (by omega) (t_9 hS (by omega)) ?_)))))))
      intro z6 ez6 f7
      refine n_lstore (L2 := [some (2, 8), some (0, s), some (0, i), some (0, 1), some (1, z6), none]) c_89_28 rfl rfl (n_lload c_89_30 rfl (n_lconst (n := 0) c_89_32 rfl (n_lcmp c_89_33 ?_)))
      refine n_lif_lt c_89_34 (by omega) (by omega) ?_ ?_
      · intro h8
        refine n_fg (le_n (le_n (le_n (le_n (le_n (le_n le_0)))))) ?_
        exact (read1_2_c hS hs hi 14).2   (by omega)
      · intro h9
        refine n_lload c_89_37 rfl (n_iload_n c_89_39 rfl (n_i2l c_89_40 (by omega) ?_))
        refine n_lcmp c_89_41 ?_
        refine n_lif_le c_89_42 (by omega) (by omega) ?_ ?_
        · intro h10
          refine n_lload c_89_48 rfl (n_l2i c_89_50 ?_)
          exact n_rI c_89_51 rfl ⟨rfl, by omega⟩
        · intro h11
          refine n_fg (le_n (le_n (le_n (le_n (le_n (le_n le_0)))))) ?_
          exact (read1_2_c hS hs hi 14).2   (by omega)
    · intro h12
      refine n_fg (le_n (le_n (le_n (le_n (le_n (le_n le_0)))))) ?_
      exact (read1_2_c hS hs hi 14).1   (by omega)

set_option maxHeartbeats 4000000 in
theorem read27_2_c {xs : List Int32} {e : Nat} {ac : Int} {M0 M : nM} {s i : Int} (hS : Sf 2 ac M0 M) (hs : 0 ≤ s ∧ s ≤ 7) (hi : -2147483648 ≤ i ∧ i ≤ 2147483647) : ∀ nn : Nat, (2 < (nn : Int) → nW xs e 89 14 [none, none, none, none, none, none] [] M (nPI fun z M1 => M = M1 ∧ (-6 ≤ z ∧ z ≤ 27))) ∧ (1 < (nn : Int) → nW xs e 89 45 [none, none, none, none, none, none] [] M (nPI fun z M1 => M = M1 ∧ (-6 ≤ z ∧ z ≤ 27))) := by
  have hd : (2 : Int) = 2 ∨ (2 : Int) = 3 := by decide
  have hac := hS.2.2.2.2
  intro nn
  induction nn with
  | zero => refine ⟨?_, ?_⟩ <;> (intros; omega)
  | succ nn ih =>
    refine ⟨?_, ?_⟩
    · intro hnn
      refine n_bipush c_89_14 rfl ?_
      exact n_rI c_89_16 rfl ⟨rfl, by omega⟩
    · intro hnn
      refine n_bipush c_89_45 rfl ?_
      exact n_rI c_89_47 rfl ⟨rfl, by omega⟩
set_option maxHeartbeats 4000000 in
theorem read27_2 {xs : List Int32} {e : Nat} {ac : Int} {M0 M : nM} {s i : Int} (hS : Sf 2 ac M0 M) (hs : 0 ≤ s ∧ s ≤ 7) (hi : -2147483648 ≤ i ∧ i ≤ 2147483647) : nW xs e 89 0 [some (2, 8), some (0, s), some (0, i), some (0, 27), none, none] [] M (nPI fun z M1 => M = M1 ∧ (-6 ≤ z ∧ z ≤ 27)) := by
  have hd : (2 : Int) = 2 ∨ (2 : Int) = 3 := by decide
  have hac := hS.2.2.2.2
  refine n_iload_n c_89_0 rfl ?_
  refine n_if0_lt c_89_1 (by omega) ?_ ?_
  · intro h1
    refine n_fg (le_n (le_n (le_n (le_n (le_n (le_n le_0)))))) ?_
    exact (read27_2_c hS hs hi 14).1   (by omega)
  · intro h2
    refine n_iload_n c_89_4 rfl (n_aload_n c_89_5 rfl (n_getR c_89_6 sc_8.n rfl rfl rfl r_8_2 (n_iload_n c_89_9 rfl (n_ialoadV c_89_10 sc_11.n rfl rfl rfl (by omega) (t_11 hS (by omega)) ?_))))
    intro z3 ez3 f4
    refine n_if2_lt c_89_11 (by omega) (by omega) ?_ ?_
    · intro h5
      refine n_aload_n c_89_17 rfl (n_getR c_89_18 sc_8.n rfl rfl rfl r_8_0 (n_iload_n c_89_21 rfl (n_bipush c_89_22 rfl (n_imul c_89_24 rfl (n_iload_n c_89_25 rfl (n_iadd c_89_26 rfl (n_laloadV c_89_27 sc_9.n rfl rfl rfl (by omega) (t_9 hS (by omega)) ?_)))))))
      intro z6 ez6 f7
      refine n_lstore (L2 := [some (2, 8), some (0, s), some (0, i), some (0, 27), some (1, z6), none]) c_89_28 rfl rfl (n_lload c_89_30 rfl (n_lconst (n := 0) c_89_32 rfl (n_lcmp c_89_33 ?_)))
      refine n_lif_lt c_89_34 (by omega) (by omega) ?_ ?_
      · intro h8
        refine n_fg (le_n (le_n (le_n (le_n (le_n (le_n le_0)))))) ?_
        exact (read27_2_c hS hs hi 14).2   (by omega)
      · intro h9
        refine n_lload c_89_37 rfl (n_iload_n c_89_39 rfl (n_i2l c_89_40 (by omega) ?_))
        refine n_lcmp c_89_41 ?_
        refine n_lif_le c_89_42 (by omega) (by omega) ?_ ?_
        · intro h10
          refine n_lload c_89_48 rfl (n_l2i c_89_50 ?_)
          exact n_rI c_89_51 rfl ⟨rfl, by omega⟩
        · intro h11
          refine n_fg (le_n (le_n (le_n (le_n (le_n (le_n le_0)))))) ?_
          exact (read27_2_c hS hs hi 14).2   (by omega)
    · intro h12
      refine n_fg (le_n (le_n (le_n (le_n (le_n (le_n le_0)))))) ?_
      exact (read27_2_c hS hs hi 14).1   (by omega)

set_option maxHeartbeats 4000000 in
theorem filled_2_c {xs : List Int32} {e : Nat} {ac : Int} {M0 M : nM} (hS : Sf 2 ac M0 M)  : ∀ nn : Nat, (∀ (x1 x2 : Int), (0 ≤ x1 ∧ x1 ≤ 8) → (0 ≤ x2 ∧ x2 ≤ 8) → (x1 ≤ x2) → (8 - x2) * 2 + 2 < (nn : Int) → nW xs e 90 4 [some (2, 8), some (0, x1), some (0, x2)] [] M (nPI fun z M1 => M = M1 ∧ (0 ≤ z ∧ z ≤ 8))) ∧ (∀ (x1 x2 : Int), (0 ≤ x1 ∧ x1 ≤ 8) → (0 ≤ x2 ∧ x2 ≤ 7) → (x1 ≤ x2 + 1) → (8 - x2) * 2 + 1 < (nn : Int) → nW xs e 90 22 [some (2, 8), some (0, x1), some (0, x2)] [] M (nPI fun z M1 => M = M1 ∧ (0 ≤ z ∧ z ≤ 8))) := by
  have hd : (2 : Int) = 2 ∨ (2 : Int) = 3 := by decide
  have hac := hS.2.2.2.2
  intro nn
  induction nn with
  | zero => refine ⟨?_, ?_⟩ <;> (intros; omega)
  | succ nn ih =>
    refine ⟨?_, ?_⟩
    · intro x1 x2 k1 k2 v0 hnn
      refine n_iload_n c_90_4 rfl (n_bipush c_90_5 rfl ?_)
      refine n_if2_ge c_90_7 (by omega) (by omega) ?_ ?_
      · intro h1
        refine n_iload_n c_90_28 rfl ?_
        exact n_rI c_90_29 rfl ⟨rfl, by omega⟩
      · intro h2
        refine n_aload_n c_90_10 rfl (n_getR c_90_11 sc_8.n rfl rfl rfl r_8_2 (n_iload_n c_90_14 rfl (n_ialoadV c_90_15 sc_11.n rfl rfl rfl (by omega) (t_11 hS (by omega)) ?_)))
        intro z3 ez3 f4
        refine n_if0_lt c_90_16 (by omega) ?_ ?_
        · intro h5
          refine n_fg (le_s (le_s (le_s le_0))) ?_
          exact ih.2 _ _ (by omega) (by omega) (by omega) (by omega)
        · intro h6
          refine n_iinc (L2 := [some (2, 8), some (0, (x1 + 1)), some (0, x2)]) c_90_19 rfl rfl rfl (n_fg (le_s (le_s (le_s le_0))) ?_)
          exact ih.2 _ _ (by omega) (by omega) (by omega) (by omega)
    · intro x1 x2 k1 k2 v0 hnn
      refine n_iinc (L2 := [some (2, 8), some (0, x1), some (0, (x2 + 1))]) c_90_22 rfl rfl rfl (n_goto c_90_25 (n_fg (le_s (le_s (le_s le_0))) ?_))
      exact ih.1 _ _ (by omega) (by omega) (by omega) (by omega)
set_option maxHeartbeats 4000000 in
theorem filled_2 {xs : List Int32} {e : Nat} {ac : Int} {M0 M : nM} (hS : Sf 2 ac M0 M)  : nW xs e 90 0 [some (2, 8), none, none] [] M (nPI fun z M1 => M = M1 ∧ (0 ≤ z ∧ z ≤ 8)) := by
  have hd : (2 : Int) = 2 ∨ (2 : Int) = 3 := by decide
  have hac := hS.2.2.2.2
  refine n_iconst c_90_0 (n_istore_n (L2 := [some (2, 8), some (0, 0), none]) c_90_1 rfl rfl (n_iconst c_90_2 (n_istore_n (L2 := [some (2, 8), some (0, 0), some (0, 0)]) c_90_3 rfl rfl (n_fg (le_s (le_s (le_s le_0))) ?_))))
  exact (filled_2_c hS  50).1 _ _ (by omega) (by omega) (by omega) (by omega)

set_option maxHeartbeats 4000000 in
theorem staysIn_2_c {xs : List Int32} {e : Nat} {ac : Int} {M0 M : nM} {p s : Int} (hS : Sf 2 ac M0 M) (hp : ActAt p) (hpl : p < 55 + 3 * ac) (hs : -2147483648 ≤ s ∧ s ≤ 2147483647) : ∀ nn : Nat, (∀ (x3 : Int), (0 ≤ x3 ∧ x3 ≤ 8) → (8 - x3) * 2 + 2 < (nn : Int) → nW xs (e + 1) 3 2 [some (2, p), some (0, s), some (2, 4), some (0, x3), none] [] M (nPI fun z M1 => M = M1 ∧ (0 ≤ z ∧ z ≤ 1))) ∧ (∀ (x3 : Int), (0 ≤ x3 ∧ x3 ≤ 7) → (8 - x3) * 2 + 1 < (nn : Int) → nW xs (e + 1) 3 45 [some (2, p), some (0, s), some (2, 4), some (0, x3), none] [] M (nPI fun z M1 => M = M1 ∧ (0 ≤ z ∧ z ≤ 1))) := by
  have hd : (2 : Int) = 2 ∨ (2 : Int) = 3 := by decide
  have hac := hS.2.2.2.2
  intro nn
  induction nn with
  | zero => refine ⟨?_, ?_⟩ <;> (intros; omega)
  | succ nn ih =>
    refine ⟨?_, ?_⟩
    · intro x3 k3 hnn
      refine n_iload_n c_3_2 rfl (n_aload_n c_3_3 rfl (n_getV (bi := 1) c_3_4 hp.c0.1.n rfl rfl rfl (t_actl hS hp hpl).2 ?_))
      intro z1 ez1 f2
      refine n_if2_ge c_3_7 (by omega) (by omega) ?_ ?_
      · intro h3
        refine n_iconst c_3_51 ?_
        exact n_rZ c_3_52 rfl (by omega) ⟨rfl, by omega⟩
      · intro h4
        refine n_aload_n c_3_10 rfl (n_iload_n c_3_11 rfl (n_aload_n c_3_12 rfl (n_getV (bi := 0) c_3_13 hp.c0.1.n rfl rfl rfl (t_actl hS hp hpl).1 ?_)))
        intro z5 ez5 f6
        refine n_v2I c_3_16 rfl sc_4.n rfl rfl rfl rfl (thingsOf_2 (r := x3) (p := z5) hS (by omega) (by omega)) ?_
        intro z7 M8 hP9
        obtain ⟨eM, f9⟩ := hP9
        subst eM
        refine n_istore (L2 := [some (2, p), some (0, s), some (2, 4), some (0, x3), some (0, z7)]) c_3_19 rfl rfl (n_iload c_3_21 rfl (n_iload_n c_3_23 rfl (n_i_iand c_3_24 rfl ?_)))
        have f10 := n_and_r z7 s
        generalize (n_and z7 s) = z11 at f10 ⊢
        refine n_iload c_3_25 rfl ?_
        refine n_if2_ne c_3_27 (by omega) (by omega) ?_ ?_
        · intro h12
          refine n_fg (le_s (le_s (le_s (le_s (le_n le_0))))) ?_
          exact ih.2 _ (by omega) (by omega)
        · intro h13
          refine n_iload_n c_3_30 rfl (n_aload_n c_3_31 rfl (n_getR c_3_32 hp.c0.1.n rfl rfl rfl hp.r.1 (n_iload_n c_3_35 rfl (n_ialoadV c_3_36 hp.c0.2.1.n rfl rfl rfl (by omega) (t_actrl hS hp hpl (Or.inl rfl) (by omega) (by omega)) ?_))))
          intro z14 ez14 f15
          refine n_i_ishr c_3_37 rfl ?_
          have f16 := n_shr_r s z14
          generalize (n_shr s z14) = z17 at f16 ⊢
          refine n_iconst c_3_38 (n_i_iand c_3_39 rfl ?_)
          have f18 := n_and_y (x := z17) (y := 1) (by omega)
          generalize (n_and z17 1) = z19 at f18 ⊢
          refine n_if0_ne c_3_40 (by omega) ?_ ?_
          · intro h20
            refine n_fg (le_s (le_s (le_s (le_s (le_n le_0))))) ?_
            exact ih.2 _ (by omega) (by omega)
          · intro h21
            refine n_iconst c_3_43 ?_
            exact n_rZ c_3_44 rfl (by omega) ⟨rfl, by omega⟩
    · intro x3 k3 hnn
      refine n_iinc (L2 := [some (2, p), some (0, s), some (2, 4), some (0, (x3 + 1)), none]) c_3_45 rfl rfl rfl (n_goto c_3_48 (n_fg (le_s (le_s (le_s (le_s (le_n le_0))))) ?_))
      exact ih.1 _ (by omega) (by omega)
set_option maxHeartbeats 4000000 in
theorem staysIn_2 {xs : List Int32} {e : Nat} {ac : Int} {M0 M : nM} {p s : Int} (hS : Sf 2 ac M0 M) (hp : ActAt p) (hpl : p < 55 + 3 * ac) (hs : -2147483648 ≤ s ∧ s ≤ 2147483647) : nW xs (e + 1) 3 0 [some (2, p), some (0, s), some (2, 4), none, none] [] M (nPI fun z M1 => M = M1 ∧ (0 ≤ z ∧ z ≤ 1)) := by
  have hd : (2 : Int) = 2 ∨ (2 : Int) = 3 := by decide
  have hac := hS.2.2.2.2
  refine n_iconst c_3_0 (n_istore_n (L2 := [some (2, p), some (0, s), some (2, 4), some (0, 0), none]) c_3_1 rfl rfl (n_fg (le_s (le_s (le_s (le_s (le_n le_0))))) ?_))
  exact (staysIn_2_c hS hp hpl hs 50).1 _ (by omega) (by omega)

set_option maxHeartbeats 4000000 in
theorem part0_0_2 {xs : List Int32} {e : Nat} {ac : Int} {M0 M : nM} (hS : Sf 2 ac M0 M)  : nW xs e 6 0 [some (0, 0), some (0, 0)] [] M (nPI fun z M1 => M = M1 ∧ (0 ≤ z ∧ z ≤ 0)) := by
  have hd : (2 : Int) = 2 ∨ (2 : Int) = 3 := by decide
  have hac := hS.2.2.2.2
  refine n_iload_n c_6_0 rfl (n_iconst c_6_1 (n_iload_n c_6_2 rfl (n_imul c_6_3 rfl (n_i_ishr (z := 0) c_6_4 (by decide) ?_))))
  refine n_iconst c_6_5 (n_i_iand (z := 0) c_6_6 (by decide) ?_)
  exact n_rI c_6_7 rfl ⟨rfl, by omega⟩

set_option maxHeartbeats 4000000 in
theorem part0_1_2 {xs : List Int32} {e : Nat} {ac : Int} {M0 M : nM} (hS : Sf 2 ac M0 M)  : nW xs e 6 0 [some (0, 0), some (0, 1)] [] M (nPI fun z M1 => M = M1 ∧ (0 ≤ z ∧ z ≤ 0)) := by
  have hd : (2 : Int) = 2 ∨ (2 : Int) = 3 := by decide
  have hac := hS.2.2.2.2
  refine n_iload_n c_6_0 rfl (n_iconst c_6_1 (n_iload_n c_6_2 rfl (n_imul c_6_3 rfl (n_i_ishr (z := 0) c_6_4 (by decide) ?_))))
  refine n_iconst c_6_5 (n_i_iand (z := 0) c_6_6 (by decide) ?_)
  exact n_rI c_6_7 rfl ⟨rfl, by omega⟩

set_option maxHeartbeats 4000000 in
theorem part0_2 {xs : List Int32} {e : Nat} {ac : Int} {M0 M : nM} {t : Int} (hS : Sf 2 ac M0 M) (ht : 0 ≤ t ∧ t ≤ 1) : nW xs e 6 0 [some (0, 0), some (0, t)] [] M (nPI fun z M1 => M = M1 ∧ (0 ≤ z ∧ z ≤ 1)) := by
  rcases (show t = 0 ∨ t = 1 by omega) with rfl | rfl
  · exact n_post (part0_0_2 hS ) (fun w M1 h => by obtain ⟨z, rfl, h1, h2⟩ := h; exact ⟨z, rfl, h1, by omega⟩)
  · exact n_post (part0_1_2 hS ) (fun w M1 h => by obtain ⟨z, rfl, h1, h2⟩ := h; exact ⟨z, rfl, h1, by omega⟩)

set_option maxHeartbeats 4000000 in
theorem keepsParts0_2_c {xs : List Int32} {e : Nat} {ac : Int} {M0 M : nM} {p : Int} (hS : Sf 2 ac M0 M) (hp : ActAt p) (hpl : p < 55 + 3 * ac) : ∀ nn : Nat, (∀ (x3 : Int), (0 ≤ x3 ∧ x3 ≤ 8) → (8 - x3) * 1 + 1 < (nn : Int) → nW xs (e + 1) 4 2 [some (2, p), some (0, 0), some (2, 4), some (0, x3), none] [] M (nPI fun z M1 => M = M1 ∧ (0 ≤ z ∧ z ≤ 1))) := by
  have hd : (2 : Int) = 2 ∨ (2 : Int) = 3 := by decide
  have hac := hS.2.2.2.2
  intro nn
  induction nn with
  | zero => intros; omega
  | succ nn ih =>
    intro x3 k3 hnn
    refine n_iload_n c_4_2 rfl (n_aload_n c_4_3 rfl (n_getV (bi := 1) c_4_4 hp.c0.1.n rfl rfl rfl (t_actl hS hp hpl).2 ?_))
    intro z1 ez1 f2
    refine n_if2_ge c_4_7 (by omega) (by omega) ?_ ?_
    · intro h3
      refine n_iconst c_4_90 ?_
      exact n_rZ c_4_91 rfl (by omega) ⟨rfl, by omega⟩
    · intro h4
      refine n_iload_n c_4_10 rfl (n_aload_n c_4_11 rfl (n_getR c_4_12 sc_4.n rfl rfl rfl r_4_2 (n_iload_n c_4_15 rfl (n_ialoadV c_4_16 sc_5.n rfl rfl rfl (by omega) (t_5d hS hd (by omega) (by omega)) ?_))))
      intro z5 ez5 f6
      refine n_s2I c_4_17 rfl rfl rfl rfl (part0_2 (t := z5) hS (by omega)) ?_
      intro z7 M8 hP9
      obtain ⟨eM, f9⟩ := hP9
      subst eM
      refine n_aload_n c_4_20 rfl (n_getV (bi := 0) c_4_21 sc_4.n rfl rfl rfl (t_4_0 hS) ?_)
      intro z10 ez10 f11
      obtain rfl : z10 = 2 := by omega
      refine n_imul c_4_24 rfl (n_iload_n c_4_25 rfl (n_aload_n c_4_26 rfl (n_getR c_4_27 sc_4.n rfl rfl rfl r_4_3 (n_iload_n c_4_30 rfl (n_ialoadV c_4_31 sc_6.n rfl rfl rfl (by omega) (t_6d hS hd (by omega) (by omega)) ?_)))))
      intro z12 ez12 f13
      refine n_s2I c_4_32 rfl rfl rfl rfl (part0_2 (t := z12) hS (by omega)) ?_
      intro z14 M15 hP16
      obtain ⟨eM, f16⟩ := hP16
      subst eM
      refine n_iadd c_4_35 rfl (n_istore (L2 := [some (2, p), some (0, 0), some (2, 4), some (0, x3), some (0, ((z7 * 2) + z14))]) c_4_36 rfl rfl (n_iload c_4_38 rfl (n_aload_n c_4_40 rfl (n_getV (bi := 0) c_4_41 sc_4.n rfl rfl rfl (t_4_0 hS) ?_))))
      intro z17 ez17 f18
      obtain rfl : z17 = 2 := by omega
      refine n_imul c_4_44 rfl (n_iload_n c_4_45 rfl (n_aload_n c_4_46 rfl (n_getR c_4_47 sc_4.n rfl rfl rfl r_4_4 (n_iload_n c_4_50 rfl (n_ialoadV c_4_51 sc_7.n rfl rfl rfl (by omega) (t_7d hS hd (by omega) (by omega)) ?_)))))
      intro z19 ez19 f20
      refine n_s2I c_4_52 rfl rfl rfl rfl (part0_2 (t := z19) hS (by omega)) ?_
      intro z21 M22 hP23
      obtain ⟨eM, f23⟩ := hP23
      subst eM
      refine n_iadd c_4_55 rfl (n_istore (L2 := [some (2, p), some (0, 0), some (2, 4), some (0, x3), some (0, ((((z7 * 2) + z14) * 2) + z21))]) c_4_56 rfl rfl (n_iload_n c_4_58 rfl (n_aload_n c_4_59 rfl (n_getR c_4_60 hp.c0.1.n rfl rfl rfl hp.r.1 (n_iload_n c_4_63 rfl (n_ialoadV c_4_64 hp.c0.2.1.n rfl rfl rfl (by omega) (t_actrl hS hp hpl (Or.inl rfl) (by omega) (by omega)) ?_))))))
      intro z24 ez24 f25
      refine n_s2I c_4_65 rfl rfl rfl rfl (part0_2 (t := z24) hS (by omega)) ?_
      intro z26 M27 hP28
      obtain ⟨eM, f28⟩ := hP28
      subst eM
      refine n_iload_n c_4_68 rfl (n_aload_n c_4_69 rfl (n_getR c_4_70 hp.c0.1.n rfl rfl rfl hp.r.1 (n_iload c_4_73 rfl (n_ialoadV c_4_75 hp.c0.2.1.n rfl rfl rfl (by omega) (t_actrl hS hp hpl (Or.inl rfl) (by omega) (by omega)) ?_))))
      intro z29 ez29 f30
      refine n_s2I c_4_76 rfl rfl rfl rfl (part0_2 (t := z29) hS (by omega)) ?_
      intro z31 M32 hP33
      obtain ⟨eM, f33⟩ := hP33
      subst eM
      refine n_if2_eq c_4_79 (by omega) (by omega) ?_ ?_
      · intro h34
        refine n_iinc (L2 := [some (2, p), some (0, 0), some (2, 4), some (0, (x3 + 1)), some (0, ((((z7 * 2) + z14) * 2) + z21))]) c_4_84 rfl rfl rfl (n_goto c_4_87 (n_fg (le_s (le_s (le_s (le_s (le_n le_0))))) ?_))
        exact ih _ (by omega) (by omega)
      · intro h35
        refine n_iconst c_4_82 ?_
        exact n_rZ c_4_83 rfl (by omega) ⟨rfl, by omega⟩
set_option maxHeartbeats 4000000 in
theorem keepsParts0_2 {xs : List Int32} {e : Nat} {ac : Int} {M0 M : nM} {p : Int} (hS : Sf 2 ac M0 M) (hp : ActAt p) (hpl : p < 55 + 3 * ac) : nW xs (e + 1) 4 0 [some (2, p), some (0, 0), some (2, 4), none, none] [] M (nPI fun z M1 => M = M1 ∧ (0 ≤ z ∧ z ≤ 1)) := by
  have hd : (2 : Int) = 2 ∨ (2 : Int) = 3 := by decide
  have hac := hS.2.2.2.2
  refine n_iconst c_4_0 (n_istore_n (L2 := [some (2, p), some (0, 0), some (2, 4), some (0, 0), none]) c_4_1 rfl rfl (n_fg (le_s (le_s (le_s (le_s (le_n le_0))))) ?_))
  exact (keepsParts0_2_c hS hp hpl 30) _ (by omega) (by omega)

set_option maxHeartbeats 4000000 in
theorem part4_0_2 {xs : List Int32} {e : Nat} {ac : Int} {M0 M : nM} (hS : Sf 2 ac M0 M)  : nW xs e 6 0 [some (0, 4), some (0, 0)] [] M (nPI fun z M1 => M = M1 ∧ (0 ≤ z ∧ z ≤ 0)) := by
  have hd : (2 : Int) = 2 ∨ (2 : Int) = 3 := by decide
  have hac := hS.2.2.2.2
  refine n_iload_n c_6_0 rfl (n_iconst c_6_1 (n_iload_n c_6_2 rfl (n_imul c_6_3 rfl (n_i_ishr (z := 4) c_6_4 (by decide) ?_))))
  refine n_iconst c_6_5 (n_i_iand (z := 0) c_6_6 (by decide) ?_)
  exact n_rI c_6_7 rfl ⟨rfl, by omega⟩

set_option maxHeartbeats 4000000 in
theorem part4_1_2 {xs : List Int32} {e : Nat} {ac : Int} {M0 M : nM} (hS : Sf 2 ac M0 M)  : nW xs e 6 0 [some (0, 4), some (0, 1)] [] M (nPI fun z M1 => M = M1 ∧ (1 ≤ z ∧ z ≤ 1)) := by
  have hd : (2 : Int) = 2 ∨ (2 : Int) = 3 := by decide
  have hac := hS.2.2.2.2
  refine n_iload_n c_6_0 rfl (n_iconst c_6_1 (n_iload_n c_6_2 rfl (n_imul c_6_3 rfl (n_i_ishr (z := 1) c_6_4 (by decide) ?_))))
  refine n_iconst c_6_5 (n_i_iand (z := 1) c_6_6 (by decide) ?_)
  exact n_rI c_6_7 rfl ⟨rfl, by omega⟩

set_option maxHeartbeats 4000000 in
theorem part4_2 {xs : List Int32} {e : Nat} {ac : Int} {M0 M : nM} {t : Int} (hS : Sf 2 ac M0 M) (ht : 0 ≤ t ∧ t ≤ 1) : nW xs e 6 0 [some (0, 4), some (0, t)] [] M (nPI fun z M1 => M = M1 ∧ (0 ≤ z ∧ z ≤ 1)) := by
  rcases (show t = 0 ∨ t = 1 by omega) with rfl | rfl
  · exact n_post (part4_0_2 hS ) (fun w M1 h => by obtain ⟨z, rfl, h1, h2⟩ := h; exact ⟨z, rfl, h1, by omega⟩)
  · exact n_post (part4_1_2 hS ) (fun w M1 h => by obtain ⟨z, rfl, h1, h2⟩ := h; exact ⟨z, rfl, h1, by omega⟩)

set_option maxHeartbeats 4000000 in
theorem keepsParts4_2_c {xs : List Int32} {e : Nat} {ac : Int} {M0 M : nM} {p : Int} (hS : Sf 2 ac M0 M) (hp : ActAt p) (hpl : p < 55 + 3 * ac) : ∀ nn : Nat, (∀ (x3 : Int), (0 ≤ x3 ∧ x3 ≤ 8) → (8 - x3) * 1 + 1 < (nn : Int) → nW xs (e + 1) 4 2 [some (2, p), some (0, 4), some (2, 4), some (0, x3), none] [] M (nPI fun z M1 => M = M1 ∧ (0 ≤ z ∧ z ≤ 1))) := by
  have hd : (2 : Int) = 2 ∨ (2 : Int) = 3 := by decide
  have hac := hS.2.2.2.2
  intro nn
  induction nn with
  | zero => intros; omega
  | succ nn ih =>
    intro x3 k3 hnn
    refine n_iload_n c_4_2 rfl (n_aload_n c_4_3 rfl (n_getV (bi := 1) c_4_4 hp.c0.1.n rfl rfl rfl (t_actl hS hp hpl).2 ?_))
    intro z1 ez1 f2
    refine n_if2_ge c_4_7 (by omega) (by omega) ?_ ?_
    · intro h3
      refine n_iconst c_4_90 ?_
      exact n_rZ c_4_91 rfl (by omega) ⟨rfl, by omega⟩
    · intro h4
      refine n_iload_n c_4_10 rfl (n_aload_n c_4_11 rfl (n_getR c_4_12 sc_4.n rfl rfl rfl r_4_2 (n_iload_n c_4_15 rfl (n_ialoadV c_4_16 sc_5.n rfl rfl rfl (by omega) (t_5d hS hd (by omega) (by omega)) ?_))))
      intro z5 ez5 f6
      refine n_s2I c_4_17 rfl rfl rfl rfl (part4_2 (t := z5) hS (by omega)) ?_
      intro z7 M8 hP9
      obtain ⟨eM, f9⟩ := hP9
      subst eM
      refine n_aload_n c_4_20 rfl (n_getV (bi := 0) c_4_21 sc_4.n rfl rfl rfl (t_4_0 hS) ?_)
      intro z10 ez10 f11
      obtain rfl : z10 = 2 := by omega
      refine n_imul c_4_24 rfl (n_iload_n c_4_25 rfl (n_aload_n c_4_26 rfl (n_getR c_4_27 sc_4.n rfl rfl rfl r_4_3 (n_iload_n c_4_30 rfl (n_ialoadV c_4_31 sc_6.n rfl rfl rfl (by omega) (t_6d hS hd (by omega) (by omega)) ?_)))))
      intro z12 ez12 f13
      refine n_s2I c_4_32 rfl rfl rfl rfl (part4_2 (t := z12) hS (by omega)) ?_
      intro z14 M15 hP16
      obtain ⟨eM, f16⟩ := hP16
      subst eM
      refine n_iadd c_4_35 rfl (n_istore (L2 := [some (2, p), some (0, 4), some (2, 4), some (0, x3), some (0, ((z7 * 2) + z14))]) c_4_36 rfl rfl (n_iload c_4_38 rfl (n_aload_n c_4_40 rfl (n_getV (bi := 0) c_4_41 sc_4.n rfl rfl rfl (t_4_0 hS) ?_))))
      intro z17 ez17 f18
      obtain rfl : z17 = 2 := by omega
      refine n_imul c_4_44 rfl (n_iload_n c_4_45 rfl (n_aload_n c_4_46 rfl (n_getR c_4_47 sc_4.n rfl rfl rfl r_4_4 (n_iload_n c_4_50 rfl (n_ialoadV c_4_51 sc_7.n rfl rfl rfl (by omega) (t_7d hS hd (by omega) (by omega)) ?_)))))
      intro z19 ez19 f20
      refine n_s2I c_4_52 rfl rfl rfl rfl (part4_2 (t := z19) hS (by omega)) ?_
      intro z21 M22 hP23
      obtain ⟨eM, f23⟩ := hP23
      subst eM
      refine n_iadd c_4_55 rfl (n_istore (L2 := [some (2, p), some (0, 4), some (2, 4), some (0, x3), some (0, ((((z7 * 2) + z14) * 2) + z21))]) c_4_56 rfl rfl (n_iload_n c_4_58 rfl (n_aload_n c_4_59 rfl (n_getR c_4_60 hp.c0.1.n rfl rfl rfl hp.r.1 (n_iload_n c_4_63 rfl (n_ialoadV c_4_64 hp.c0.2.1.n rfl rfl rfl (by omega) (t_actrl hS hp hpl (Or.inl rfl) (by omega) (by omega)) ?_))))))
      intro z24 ez24 f25
      refine n_s2I c_4_65 rfl rfl rfl rfl (part4_2 (t := z24) hS (by omega)) ?_
      intro z26 M27 hP28
      obtain ⟨eM, f28⟩ := hP28
      subst eM
      refine n_iload_n c_4_68 rfl (n_aload_n c_4_69 rfl (n_getR c_4_70 hp.c0.1.n rfl rfl rfl hp.r.1 (n_iload c_4_73 rfl (n_ialoadV c_4_75 hp.c0.2.1.n rfl rfl rfl (by omega) (t_actrl hS hp hpl (Or.inl rfl) (by omega) (by omega)) ?_))))
      intro z29 ez29 f30
      refine n_s2I c_4_76 rfl rfl rfl rfl (part4_2 (t := z29) hS (by omega)) ?_
      intro z31 M32 hP33
      obtain ⟨eM, f33⟩ := hP33
      subst eM
      refine n_if2_eq c_4_79 (by omega) (by omega) ?_ ?_
      · intro h34
        refine n_iinc (L2 := [some (2, p), some (0, 4), some (2, 4), some (0, (x3 + 1)), some (0, ((((z7 * 2) + z14) * 2) + z21))]) c_4_84 rfl rfl rfl (n_goto c_4_87 (n_fg (le_s (le_s (le_s (le_s (le_n le_0))))) ?_))
        exact ih _ (by omega) (by omega)
      · intro h35
        refine n_iconst c_4_82 ?_
        exact n_rZ c_4_83 rfl (by omega) ⟨rfl, by omega⟩
set_option maxHeartbeats 4000000 in
theorem keepsParts4_2 {xs : List Int32} {e : Nat} {ac : Int} {M0 M : nM} {p : Int} (hS : Sf 2 ac M0 M) (hp : ActAt p) (hpl : p < 55 + 3 * ac) : nW xs (e + 1) 4 0 [some (2, p), some (0, 4), some (2, 4), none, none] [] M (nPI fun z M1 => M = M1 ∧ (0 ≤ z ∧ z ≤ 1)) := by
  have hd : (2 : Int) = 2 ∨ (2 : Int) = 3 := by decide
  have hac := hS.2.2.2.2
  refine n_iconst c_4_0 (n_istore_n (L2 := [some (2, p), some (0, 4), some (2, 4), some (0, 0), none]) c_4_1 rfl rfl (n_fg (le_s (le_s (le_s (le_s (le_n le_0))))) ?_))
  exact (keepsParts4_2_c hS hp hpl 30) _ (by omega) (by omega)

set_option maxHeartbeats 4000000 in
theorem neverFalls_2_c {xs : List Int32} {e : Nat} {ac : Int} {M0 M : nM} {p : Int} (hS : Sf 2 ac M0 M) (hp : ActAt p) (hpl : p < 55 + 3 * ac) : ∀ nn : Nat, (∀ (x1 : Int), (0 ≤ x1 ∧ x1 ≤ 8) → (8 - x1) * 16 + 16 < (nn : Int) → nW xs e 7 2 [some (2, p), some (0, x1), none] [] M (nPI fun z M1 => M = M1 ∧ (0 ≤ z ∧ z ≤ 1))) ∧ (∀ (x1 x2 : Int), (0 ≤ x1 ∧ x1 ≤ 7) → (1 ≤ x2 ∧ x2 ≤ 14) → (8 - x1) * 16 + (14 - x2) * 1 + 1 < (nn : Int) → nW xs e 7 12 [some (2, p), some (0, x1), some (0, x2)] [] M (nPI fun z M1 => M = M1 ∧ (0 ≤ z ∧ z ≤ 1))) := by
  have hd : (2 : Int) = 2 ∨ (2 : Int) = 3 := by decide
  have hac := hS.2.2.2.2
  intro nn
  induction nn with
  | zero => refine ⟨?_, ?_⟩ <;> (intros; omega)
  | succ nn ih =>
    refine ⟨?_, ?_⟩
    · intro x1 k1 hnn
      refine n_iload_n c_7_2 rfl (n_aload_n c_7_3 rfl (n_getV (bi := 1) c_7_4 hp.c0.1.n rfl rfl rfl (t_actl hS hp hpl).2 ?_))
      intro z1 ez1 f2
      refine n_if2_ge c_7_7 (by omega) (by omega) ?_ ?_
      · intro h3
        refine n_iconst c_7_52 ?_
        exact n_rZ c_7_53 rfl (by omega) ⟨rfl, by omega⟩
      · intro h4
        refine n_iconst c_7_10 (n_istore_n (L2 := [some (2, p), some (0, x1), some (0, 1)]) c_7_11 rfl rfl (n_fg (le_s (le_s (le_s le_0))) ?_))
        exact ih.2 _ _ (by omega) (by omega) (by omega)
    · intro x1 x2 k1 k2 hnn
      refine n_iload_n c_7_12 rfl (n_aload_n c_7_13 rfl (n_getV (bi := 1) c_7_14 hp.c0.1.n rfl rfl rfl (t_actl hS hp hpl).2 ?_))
      intro z1 ez1 f2
      refine n_if2_ge c_7_17 (by omega) (by omega) ?_ ?_
      · intro h3
        refine n_iinc (L2 := [some (2, p), some (0, (x1 + 1)), some (0, x2)]) c_7_46 rfl rfl rfl (n_goto c_7_49 (n_fg (le_s (le_s (le_n le_0))) ?_))
        exact ih.1 _ (by omega) (by omega)
      · intro h4
        refine n_aload_n c_7_20 rfl (n_getR c_7_21 hp.c0.1.n rfl rfl rfl hp.r.1 (n_iload_n c_7_24 rfl (n_ialoadV c_7_25 hp.c0.2.1.n rfl rfl rfl (by omega) (t_actrl hS hp hpl (Or.inl rfl) (by omega) (by omega)) ?_)))
        intro z5 ez5 f6
        refine n_aload_n c_7_26 rfl (n_getR c_7_27 hp.c0.1.n rfl rfl rfl hp.r.1 (n_iload_n c_7_30 rfl (n_iload_n c_7_31 rfl (n_i_ior c_7_32 rfl ?_))))
        have f7 := n_or_k (x := x1) (y := x2) (n := 3) (by decide) (by omega) (by omega)
        generalize (n_or x1 x2) = z8 at f7 ⊢
        refine n_ialoadV c_7_33 hp.c0.2.1.n rfl rfl rfl (by omega) (t_actrl hS hp hpl (Or.inl rfl) (by omega) (by omega)) ?_
        intro z9 ez9 f10
        refine n_if2_le c_7_34 (by omega) (by omega) ?_ ?_
        · intro h11
          refine n_iload_n c_7_39 rfl (n_iconst c_7_40 (n_imul c_7_41 rfl (n_istore_n (L2 := [some (2, p), some (0, x1), some (0, (x2 * 2))]) c_7_42 rfl rfl (n_goto c_7_43 (n_fg (le_s (le_s (le_s le_0))) ?_)))))
          exact ih.2 _ _ (by omega) (by omega) (by omega)
        · intro h12
          refine n_iconst c_7_37 ?_
          exact n_rZ c_7_38 rfl (by omega) ⟨rfl, by omega⟩
set_option maxHeartbeats 4000000 in
theorem neverFalls_2 {xs : List Int32} {e : Nat} {ac : Int} {M0 M : nM} {p : Int} (hS : Sf 2 ac M0 M) (hp : ActAt p) (hpl : p < 55 + 3 * ac) : nW xs e 7 0 [some (2, p), none, none] [] M (nPI fun z M1 => M = M1 ∧ (0 ≤ z ∧ z ≤ 1)) := by
  have hd : (2 : Int) = 2 ∨ (2 : Int) = 3 := by decide
  have hac := hS.2.2.2.2
  refine n_iconst c_7_0 (n_istore_n (L2 := [some (2, p), some (0, 0), none]) c_7_1 rfl rfl (n_fg (le_s (le_s (le_n le_0))) ?_))
  exact (neverFalls_2_c hS hp hpl 330).1 _ (by omega) (by omega)

set_option maxHeartbeats 4000000 in
theorem turnsOver_2_c {xs : List Int32} {e : Nat} {ac : Int} {M0 M : nM} {p : Int} (hS : Sf 2 ac M0 M) (hp : ActAt p) (hpl : p < 55 + 3 * ac) : ∀ nn : Nat, (∀ (x1 : Int), (0 ≤ x1 ∧ x1 ≤ 8) → (8 - x1) * 1 + 1 < (nn : Int) → nW xs e 8 2 [some (2, p), some (0, x1)] [] M (nPI fun z M1 => M = M1 ∧ (0 ≤ z ∧ z ≤ 1))) := by
  have hd : (2 : Int) = 2 ∨ (2 : Int) = 3 := by decide
  have hac := hS.2.2.2.2
  intro nn
  induction nn with
  | zero => intros; omega
  | succ nn ih =>
    intro x1 k1 hnn
    refine n_iload_n c_8_2 rfl (n_aload_n c_8_3 rfl (n_getV (bi := 1) c_8_4 hp.c0.1.n rfl rfl rfl (t_actl hS hp hpl).2 ?_))
    intro z1 ez1 f2
    refine n_if2_ge c_8_7 (by omega) (by omega) ?_ ?_
    · intro h3
      refine n_iconst c_8_40 ?_
      exact n_rZ c_8_41 rfl (by omega) ⟨rfl, by omega⟩
    · intro h4
      refine n_aload_n c_8_10 rfl (n_getR c_8_11 hp.c0.1.n rfl rfl rfl hp.r.1 (n_iload_n c_8_14 rfl (n_ialoadV c_8_15 hp.c0.2.1.n rfl rfl rfl (by omega) (t_actrl hS hp hpl (Or.inl rfl) (by omega) (by omega)) ?_)))
      intro z5 ez5 f6
      refine n_aload_n c_8_16 rfl (n_getR c_8_17 hp.c0.1.n rfl rfl rfl hp.r.1 (n_aload_n c_8_20 rfl (n_getV (bi := 1) c_8_21 hp.c0.1.n rfl rfl rfl (t_actl hS hp hpl).2 ?_)))
      intro z7 ez7 f8
      refine n_iconst c_8_24 (n_isub c_8_25 rfl (n_iload_n c_8_26 rfl (n_isub c_8_27 rfl (n_ialoadV c_8_28 hp.c0.2.1.n rfl rfl rfl (by omega) (t_actrl hS hp hpl (Or.inl rfl) (by omega) (by omega)) ?_))))
      intro z9 ez9 f10
      refine n_if2_ne c_8_29 (by omega) (by omega) ?_ ?_
      · intro h11
        refine n_iinc (L2 := [some (2, p), some (0, (x1 + 1))]) c_8_34 rfl rfl rfl (n_goto c_8_37 (n_fg (le_s (le_s le_0)) ?_))
        exact ih _ (by omega) (by omega)
      · intro h12
        refine n_iconst c_8_32 ?_
        exact n_rZ c_8_33 rfl (by omega) ⟨rfl, by omega⟩
set_option maxHeartbeats 4000000 in
theorem turnsOver_2 {xs : List Int32} {e : Nat} {ac : Int} {M0 M : nM} {p : Int} (hS : Sf 2 ac M0 M) (hp : ActAt p) (hpl : p < 55 + 3 * ac) : nW xs e 8 0 [some (2, p), none] [] M (nPI fun z M1 => M = M1 ∧ (0 ≤ z ∧ z ≤ 1)) := by
  have hd : (2 : Int) = 2 ∨ (2 : Int) = 3 := by decide
  have hac := hS.2.2.2.2
  refine n_iconst c_8_0 (n_istore_n (L2 := [some (2, p), some (0, 0)]) c_8_1 rfl rfl (n_fg (le_s (le_s le_0)) ?_))
  exact (turnsOver_2_c hS hp hpl 30) _ (by omega) (by omega)

set_option maxHeartbeats 4000000 in
theorem isSum_2_c {xs : List Int32} {e : Nat} {ac : Int} {M0 M : nM} {p : Int} (hS : Sf 2 ac M0 M) (hp : ActAt p) (hpl : p < 55 + 3 * ac) : ∀ nn : Nat, (∀ (x1 : Int), (0 ≤ x1 ∧ x1 ≤ 8) → (8 - x1) * 31 + 31 < (nn : Int) → nW xs e 9 2 [some (2, p), some (0, x1), none, none] [] M (nPI fun z M1 => M = M1 ∧ (0 ≤ z ∧ z ≤ 1))) ∧ (∀ (x1 x2 x3 : Int), (0 ≤ x1 ∧ x1 ≤ 7) → (0 ≤ x2 ∧ x2 ≤ 1) → (1 ≤ x3 ∧ x3 ≤ 14) → (8 - x1) * 31 + (14 - x3) * 2 + 2 < (nn : Int) → nW xs e 9 19 [some (2, p), some (0, x1), some (0, x2), some (0, x3)] [] M (nPI fun z M1 => M = M1 ∧ (0 ≤ z ∧ z ≤ 1))) ∧ (∀ (x1 x2 x3 : Int), (0 ≤ x1 ∧ x1 ≤ 7) → (0 ≤ x2 ∧ x2 ≤ 1) → (1 ≤ x3 ∧ x3 ≤ 7) → (8 - x1) * 31 + (14 - x3) * 2 + 1 < (nn : Int) → nW xs e 9 49 [some (2, p), some (0, x1), some (0, x2), some (0, x3)] [] M (nPI fun z M1 => M = M1 ∧ (0 ≤ z ∧ z ≤ 1))) := by
  have hd : (2 : Int) = 2 ∨ (2 : Int) = 3 := by decide
  have hac := hS.2.2.2.2
  intro nn
  induction nn with
  | zero => refine ⟨?_, ?_, ?_⟩ <;> (intros; omega)
  | succ nn ih =>
    refine ⟨?_, ?_, ?_⟩
    · intro x1 k1 hnn
      refine n_iload_n c_9_2 rfl (n_aload_n c_9_3 rfl (n_getV (bi := 1) c_9_4 hp.c0.1.n rfl rfl rfl (t_actl hS hp hpl).2 ?_))
      intro z1 ez1 f2
      refine n_if2_ge c_9_7 (by omega) (by omega) ?_ ?_
      · intro h3
        refine n_iconst c_9_74 ?_
        exact n_rZ c_9_75 rfl (by omega) ⟨rfl, by omega⟩
      · intro h4
        refine n_aload_n c_9_10 rfl (n_getR c_9_11 hp.c0.1.n rfl rfl rfl hp.r.1 (n_iconst c_9_14 (n_ialoadV c_9_15 hp.c0.2.1.n rfl rfl rfl (by omega) (t_actrl hS hp hpl (Or.inl rfl) (by omega) (by omega)) ?_)))
        intro z5 ez5 f6
        refine n_istore_n (L2 := [some (2, p), some (0, x1), some (0, z5), none]) c_9_16 rfl rfl (n_iconst c_9_17 (n_istore_n (L2 := [some (2, p), some (0, x1), some (0, z5), some (0, 1)]) c_9_18 rfl rfl (n_fg (le_s (le_s (le_s (le_s le_0)))) ?_)))
        exact ih.2.1 _ _ _ (by omega) (by omega) (by omega) (by omega)
    · intro x1 x2 x3 k1 k2 k3 hnn
      refine n_iload_n c_9_19 rfl (n_aload_n c_9_20 rfl (n_getV (bi := 1) c_9_21 hp.c0.1.n rfl rfl rfl (t_actl hS hp hpl).2 ?_))
      intro z1 ez1 f2
      refine n_if2_ge c_9_24 (by omega) (by omega) ?_ ?_
      · intro h3
        refine n_iload_n c_9_56 rfl (n_aload_n c_9_57 rfl (n_getR c_9_58 hp.c0.1.n rfl rfl rfl hp.r.1 (n_iload_n c_9_61 rfl (n_ialoadV c_9_62 hp.c0.2.1.n rfl rfl rfl (by omega) (t_actrl hS hp hpl (Or.inl rfl) (by omega) (by omega)) ?_))))
        intro z4 ez4 f5
        refine n_if2_eq c_9_63 (by omega) (by omega) ?_ ?_
        · intro h6
          refine n_iinc (L2 := [some (2, p), some (0, (x1 + 1)), some (0, x2), some (0, x3)]) c_9_68 rfl rfl rfl (n_goto c_9_71 (n_fg (le_s (le_s (le_n (le_n le_0)))) ?_))
          exact ih.1 _ (by omega) (by omega)
        · intro h7
          refine n_iconst c_9_66 ?_
          exact n_rZ c_9_67 rfl (by omega) ⟨rfl, by omega⟩
      · intro h8
        refine n_iload_n c_9_27 rfl (n_iload_n c_9_28 rfl (n_i_iand c_9_29 rfl ?_))
        have f9 := n_and_y (x := x1) (y := x3) (by omega)
        generalize (n_and x1 x3) = z10 at f9 ⊢
        refine n_if0_eq c_9_30 (by omega) ?_ ?_
        · intro h11
          refine n_fg (le_s (le_s (le_s (le_s le_0)))) ?_
          exact ih.2.2 _ _ _ (by omega) (by omega) (by omega) (by omega)
        · intro h12
          refine n_iload_n c_9_33 rfl (n_aload_n c_9_34 rfl (n_getR c_9_35 hp.c0.1.n rfl rfl rfl hp.r.1 (n_iload_n c_9_38 rfl (n_ialoadV c_9_39 hp.c0.2.1.n rfl rfl rfl (by omega) (t_actrl hS hp hpl (Or.inl rfl) (by omega) (by omega)) ?_))))
          intro z13 ez13 f14
          refine n_aload_n c_9_40 rfl (n_getR c_9_41 hp.c0.1.n rfl rfl rfl hp.r.1 (n_iconst c_9_44 (n_ialoadV c_9_45 hp.c0.2.1.n rfl rfl rfl (by omega) (t_actrl hS hp hpl (Or.inl rfl) (by omega) (by omega)) ?_)))
          intro z15 ez15 f16
          refine n_i_ixor c_9_46 rfl ?_
          have f17 := n_xor_1 (x := z13) (y := z15) (by omega) (by omega)
          generalize (n_xor z13 z15) = z18 at f17 ⊢
          refine n_i_ixor c_9_47 rfl ?_
          have f19 := n_xor_1 (x := x2) (y := z18) (by omega) (by omega)
          generalize (n_xor x2 z18) = z20 at f19 ⊢
          refine n_istore_n (L2 := [some (2, p), some (0, x1), some (0, z20), some (0, x3)]) c_9_48 rfl rfl (n_fg (le_s (le_s (le_s (le_s le_0)))) ?_)
          exact ih.2.2 _ _ _ (by omega) (by omega) (by omega) (by omega)
    · intro x1 x2 x3 k1 k2 k3 hnn
      refine n_iload_n c_9_49 rfl (n_iconst c_9_50 (n_imul c_9_51 rfl (n_istore_n (L2 := [some (2, p), some (0, x1), some (0, x2), some (0, (x3 * 2))]) c_9_52 rfl rfl (n_goto c_9_53 (n_fg (le_s (le_s (le_s (le_s le_0)))) ?_)))))
      exact ih.2.1 _ _ _ (by omega) (by omega) (by omega) (by omega)
set_option maxHeartbeats 4000000 in
theorem isSum_2 {xs : List Int32} {e : Nat} {ac : Int} {M0 M : nM} {p : Int} (hS : Sf 2 ac M0 M) (hp : ActAt p) (hpl : p < 55 + 3 * ac) : nW xs e 9 0 [some (2, p), none, none, none] [] M (nPI fun z M1 => M = M1 ∧ (0 ≤ z ∧ z ≤ 1)) := by
  have hd : (2 : Int) = 2 ∨ (2 : Int) = 3 := by decide
  have hac := hS.2.2.2.2
  refine n_iconst c_9_0 (n_istore_n (L2 := [some (2, p), some (0, 0), none, none]) c_9_1 rfl rfl (n_fg (le_s (le_s (le_n (le_n le_0)))) ?_))
  exact (isSum_2_c hS hp hpl 630).1 _ (by omega) (by omega)

set_option maxHeartbeats 4000000 in
theorem signBits_2_c {xs : List Int32} {e : Nat} {ac : Int} {M0 M : nM} {p : Int} (hS : Sf 2 ac M0 M) (hp : ActAt p) (hpl : p < 55 + 3 * ac) : ∀ nn : Nat, (∀ (x1 : Int), (0 ≤ x1 ∧ x1 ≤ 1) → 5 < (nn : Int) → nW xs (e + 1) 5 15 [some (2, p), some (0, x1)] [] M (nPI fun z M1 => M = M1 ∧ (-2147483648 ≤ z ∧ z ≤ 2147483647))) ∧ (∀ (x1 : Int), (0 ≤ x1 ∧ x1 ≤ 3) → 4 < (nn : Int) → nW xs (e + 1) 5 34 [some (2, p), some (0, x1)] [] M (nPI fun z M1 => M = M1 ∧ (-2147483648 ≤ z ∧ z ≤ 2147483647))) ∧ (∀ (x1 : Int), (0 ≤ x1 ∧ x1 ≤ 7) → 3 < (nn : Int) → nW xs (e + 1) 5 45 [some (2, p), some (0, x1)] [] M (nPI fun z M1 => M = M1 ∧ (-2147483648 ≤ z ∧ z ≤ 2147483647))) ∧ (∀ (x1 : Int), (0 ≤ x1 ∧ x1 ≤ 15) → 2 < (nn : Int) → nW xs (e + 1) 5 57 [some (2, p), some (0, x1)] [] M (nPI fun z M1 => M = M1 ∧ (-2147483648 ≤ z ∧ z ≤ 2147483647))) ∧ (∀ (x1 : Int), (0 ≤ x1 ∧ x1 ≤ 31) → 1 < (nn : Int) → nW xs (e + 1) 5 69 [none, some (0, x1)] [] M (nPI fun z M1 => M = M1 ∧ (-2147483648 ≤ z ∧ z ≤ 2147483647))) := by
  have hd : (2 : Int) = 2 ∨ (2 : Int) = 3 := by decide
  have hac := hS.2.2.2.2
  intro nn
  induction nn with
  | zero => refine ⟨?_, ?_, ?_, ?_, ?_⟩ <;> (intros; omega)
  | succ nn ih =>
    refine ⟨?_, ?_, ?_, ?_, ?_⟩
    · intro x1 k1 hnn
      refine n_aload_n c_5_15 rfl (n_getR c_5_16 hp.c0.1.n rfl rfl rfl hp.r.1 (n_aload_n c_5_19 rfl (n_getV (bi := 1) c_5_20 hp.c0.1.n rfl rfl rfl (t_actl hS hp hpl).2 ?_)))
      intro z1 ez1 f2
      refine n_iconst c_5_23 (n_isub c_5_24 rfl (n_ialoadV c_5_25 hp.c0.2.1.n rfl rfl rfl (by omega) (t_actrl hS hp hpl (Or.inl rfl) (by omega) (by omega)) ?_))
      intro z3 ez3 f4
      refine n_iconst c_5_26 ?_
      refine n_if2_ne c_5_27 (by omega) (by omega) ?_ ?_
      · intro h5
        refine n_fg (le_s (le_s le_0)) ?_
        exact ih.2.1 _ (by omega) (by omega)
      · intro h6
        refine n_iload_n c_5_30 rfl (n_iconst c_5_31 (n_i_ior c_5_32 rfl ?_))
        have f7 := n_or_k (x := x1) (y := 2) (n := 2) (by decide) (by omega) (by omega)
        generalize (n_or x1 2) = z8 at f7 ⊢
        refine n_istore_n (L2 := [some (2, p), some (0, z8)]) c_5_33 rfl rfl (n_fg (le_s (le_s le_0)) ?_)
        exact ih.2.1 _ (by omega) (by omega)
    · intro x1 k1 hnn
      refine n_aload_n c_5_34 rfl (n_v0I c_5_35 rfl hp.c0.1.n rfl rfl rfl rfl (neverFalls_2 (p := p) hS hp hpl) ?_)
      intro z1 M2 hP3
      obtain ⟨eM, f3⟩ := hP3
      subst eM
      refine n_if0_eq c_5_38 (by omega) ?_ ?_
      · intro h4
        refine n_fg (le_s (le_s le_0)) ?_
        exact ih.2.2.1 _ (by omega) (by omega)
      · intro h5
        refine n_iload_n c_5_41 rfl (n_iconst c_5_42 (n_i_ior c_5_43 rfl ?_))
        have f6 := n_or_k (x := x1) (y := 4) (n := 3) (by decide) (by omega) (by omega)
        generalize (n_or x1 4) = z7 at f6 ⊢
        refine n_istore_n (L2 := [some (2, p), some (0, z7)]) c_5_44 rfl rfl (n_fg (le_s (le_s le_0)) ?_)
        exact ih.2.2.1 _ (by omega) (by omega)
    · intro x1 k1 hnn
      refine n_aload_n c_5_45 rfl (n_v0I c_5_46 rfl hp.c0.1.n rfl rfl rfl rfl (turnsOver_2 (p := p) hS hp hpl) ?_)
      intro z1 M2 hP3
      obtain ⟨eM, f3⟩ := hP3
      subst eM
      refine n_if0_eq c_5_49 (by omega) ?_ ?_
      · intro h4
        refine n_fg (le_s (le_s le_0)) ?_
        exact ih.2.2.2.1 _ (by omega) (by omega)
      · intro h5
        refine n_iload_n c_5_52 rfl (n_bipush c_5_53 rfl (n_i_ior c_5_55 rfl ?_))
        have f6 := n_or_k (x := x1) (y := 8) (n := 4) (by decide) (by omega) (by omega)
        generalize (n_or x1 8) = z7 at f6 ⊢
        refine n_istore_n (L2 := [some (2, p), some (0, z7)]) c_5_56 rfl rfl (n_fg (le_s (le_s le_0)) ?_)
        exact ih.2.2.2.1 _ (by omega) (by omega)
    · intro x1 k1 hnn
      refine n_aload_n c_5_57 rfl (n_v0I c_5_58 rfl hp.c0.1.n rfl rfl rfl rfl (isSum_2 (p := p) hS hp hpl) ?_)
      intro z1 M2 hP3
      obtain ⟨eM, f3⟩ := hP3
      subst eM
      refine n_if0_eq c_5_61 (by omega) ?_ ?_
      · intro h4
        refine n_fg (le_n (le_s le_0)) ?_
        exact ih.2.2.2.2 _ (by omega) (by omega)
      · intro h5
        refine n_iload_n c_5_64 rfl (n_bipush c_5_65 rfl (n_i_ior c_5_67 rfl ?_))
        have f6 := n_or_k (x := x1) (y := 16) (n := 5) (by decide) (by omega) (by omega)
        generalize (n_or x1 16) = z7 at f6 ⊢
        refine n_istore_n (L2 := [some (2, p), some (0, z7)]) c_5_68 rfl rfl (n_fg (le_n (le_s le_0)) ?_)
        exact ih.2.2.2.2 _ (by omega) (by omega)
    · intro x1 k1 hnn
      refine n_iload_n c_5_69 rfl ?_
      exact n_rI c_5_70 rfl ⟨rfl, by omega⟩
set_option maxHeartbeats 4000000 in
theorem signBits_2 {xs : List Int32} {e : Nat} {ac : Int} {M0 M : nM} {p : Int} (hS : Sf 2 ac M0 M) (hp : ActAt p) (hpl : p < 55 + 3 * ac) : nW xs (e + 1) 5 0 [some (2, p), none] [] M (nPI fun z M1 => M = M1 ∧ (-2147483648 ≤ z ∧ z ≤ 2147483647)) := by
  have hd : (2 : Int) = 2 ∨ (2 : Int) = 3 := by decide
  have hac := hS.2.2.2.2
  refine n_iconst c_5_0 (n_istore_n (L2 := [some (2, p), some (0, 0)]) c_5_1 rfl rfl (n_aload_n c_5_2 rfl (n_getR c_5_3 hp.c0.1.n rfl rfl rfl hp.r.1 (n_iconst c_5_6 (n_ialoadV c_5_7 hp.c0.2.1.n rfl rfl rfl (by omega) (t_actrl hS hp hpl (Or.inl rfl) (by omega) (by omega)) ?_)))))
  intro z1 ez1 f2
  refine n_if0_ne c_5_8 (by omega) ?_ ?_
  · intro h3
    refine n_fg (le_s (le_s le_0)) ?_
    exact (signBits_2_c hS hp hpl 20).1 _ (by omega) (by omega)
  · intro h4
    refine n_iload_n c_5_11 rfl (n_iconst c_5_12 (n_i_ior (z := 1) c_5_13 (by decide) ?_))
    refine n_istore_n (L2 := [some (2, p), some (0, 1)]) c_5_14 rfl rfl (n_fg (le_s (le_s le_0)) ?_)
    exact (signBits_2_c hS hp hpl 20).1 _ (by omega) (by omega)

set_option maxHeartbeats 4000000 in
theorem fillLT_2_c {xs : List Int32} {e : Nat} {ac : Int} {M0 M : nM} {p i j : Int} (hS : Sf 2 ac M0 M) (hp : ActAt p) (hpl : p < 55 + 3 * ac) (hi : 0 ≤ i ∧ i ≤ 26) (hj : 0 ≤ j ∧ j ≤ 26) : ∀ nn : Nat, (∀ (x5 x6 x7 x8 x9 x10 : Int) (M : nM), Sf 2 ac M0 M → (2 ≤ x5 ∧ x5 ≤ 2) → (0 ≤ x6 ∧ x6 ≤ 12) → (0 ≤ x7 ∧ x7 ≤ 12) → (0 ≤ x8 ∧ x8 ≤ 12) → (0 ≤ x9 ∧ x9 ≤ 8) → (0 ≤ x10 ∧ x10 ≤ 2) → (x9 = 4 * x10) → (2 - x10) * 21 + 21 < (nn : Int) → nW xs e 45 86 [some (2, 52), none, some (2, (p + 1)), none, none, some (0, x5), some (0, x6), some (0, x7), some (0, x8), some (0, x9), some (0, x10), none, none, none, none] [] M (nPV fun M1 => Sf 2 ac M0 M1)) ∧ (∀ (x5 x6 x7 x8 x9 x10 x11 x12 : Int) (M : nM), Sf 2 ac M0 M → (2 ≤ x5 ∧ x5 ≤ 2) → (0 ≤ x6 ∧ x6 ≤ 12) → (0 ≤ x7 ∧ x7 ≤ 12) → (0 ≤ x8 ∧ x8 ≤ 12) → (0 ≤ x9 ∧ x9 ≤ 8) → (0 ≤ x10 ∧ x10 ≤ 1) → (0 ≤ x11 ∧ x11 ≤ 8) → (0 ≤ x12 ∧ x12 ≤ 2) → (x9 = 4 * x10 + 2 * x12) → (2 - x10) * 21 + (2 - x12) * 5 + 5 < (nn : Int) → nW xs e 45 110 [some (2, 52), none, some (2, (p + 1)), none, none, some (0, x5), some (0, x6), some (0, x7), some (0, x8), some (0, x9), some (0, x10), some (0, x11), some (0, x12), none, none] [] M (nPV fun M1 => Sf 2 ac M0 M1)) ∧ (∀ (x5 x6 x7 x8 x9 x10 x11 x12 x13 x14 : Int) (M : nM), Sf 2 ac M0 M → (2 ≤ x5 ∧ x5 ≤ 2) → (0 ≤ x6 ∧ x6 ≤ 12) → (0 ≤ x7 ∧ x7 ≤ 12) → (0 ≤ x8 ∧ x8 ≤ 12) → (0 ≤ x9 ∧ x9 ≤ 8) → (0 ≤ x10 ∧ x10 ≤ 1) → (0 ≤ x11 ∧ x11 ≤ 8) → (0 ≤ x12 ∧ x12 ≤ 1) → (0 ≤ x13 ∧ x13 ≤ 12) → (0 ≤ x14 ∧ x14 ≤ 2) → (x9 = 4 * x10 + 2 * x12 + x14) → (2 - x10) * 21 + (2 - x12) * 5 + (2 - x14) * 1 + 1 < (nn : Int) → nW xs e 45 137 [some (2, 52), none, some (2, (p + 1)), none, none, some (0, x5), some (0, x6), some (0, x7), some (0, x8), some (0, x9), some (0, x10), some (0, x11), some (0, x12), some (0, x13), some (0, x14)] [] M (nPV fun M1 => Sf 2 ac M0 M1)) := by
  have hd : (2 : Int) = 2 ∨ (2 : Int) = 3 := by decide
  have hac := hS.2.2.2.2
  intro nn
  induction nn with
  | zero => refine ⟨?_, ?_, ?_⟩ <;> (intros; omega)
  | succ nn ih =>
    refine ⟨?_, ?_, ?_⟩
    · intro x5 x6 x7 x8 x9 x10 M hS k5 k6 k7 k8 k9 k10 v0 hnn
      refine n_iload c_45_86 rfl (n_iload c_45_88 rfl ?_)
      refine n_if2_ge c_45_90 (by omega) (by omega) ?_ ?_
      · intro h1
        exact n_rV c_45_187 rfl hS
      · intro h2
        refine n_aload_n c_45_93 rfl (n_iload c_45_94 rfl (n_iload c_45_96 rfl (n_iadd c_45_98 rfl (n_ialoadV c_45_99 hp.c0.2.1.n rfl rfl rfl (by omega) (t_actr hS hd hp (Or.inl rfl) (by omega)) ?_))))
        intro z3 ez3 f4
        refine n_aload_n c_45_100 rfl (n_getV (bi := 1) c_45_101 sc_52.n rfl rfl rfl (t_52_1 hS) ?_)
        intro z5 ez5 f6
        obtain rfl : z5 = 4 := by omega
        refine n_imul c_45_104 rfl (n_istore (L2 := [some (2, 52), none, some (2, (p + 1)), none, none, some (0, x5), some (0, x6), some (0, x7), some (0, x8), some (0, x9), some (0, x10), some (0, (z3 * 4)), none, none, none]) c_45_105 rfl rfl (n_iconst c_45_107 (n_istore (L2 := [some (2, 52), none, some (2, (p + 1)), none, none, some (0, x5), some (0, x6), some (0, x7), some (0, x8), some (0, x9), some (0, x10), some (0, (z3 * 4)), some (0, 0), none, none]) c_45_108 rfl rfl (n_fg (le_s (le_n (le_s (le_n (le_n (le_s (le_s (le_s (le_s (le_s (le_s (le_s (le_s (le_n (le_n le_0))))))))))))))) ?_))))
        exact ih.2.1 _ _ _ _ _ _ _ _ M hS (by omega) (by omega) (by omega) (by omega) (by omega) (by omega) (by omega) (by omega) (by omega) (by omega)
    · intro x5 x6 x7 x8 x9 x10 x11 x12 M hS k5 k6 k7 k8 k9 k10 k11 k12 v0 hnn
      refine n_iload c_45_110 rfl (n_iload c_45_112 rfl ?_)
      refine n_if2_ge c_45_114 (by omega) (by omega) ?_ ?_
      · intro h1
        refine n_iinc (L2 := [some (2, 52), none, some (2, (p + 1)), none, none, some (0, x5), some (0, x6), some (0, x7), some (0, x8), some (0, x9), some (0, (x10 + 1)), some (0, x11), some (0, x12), none, none]) c_45_181 rfl rfl rfl (n_goto c_45_184 (n_fg (le_s (le_n (le_s (le_n (le_n (le_s (le_s (le_s (le_s (le_s (le_s (le_n (le_n (le_n (le_n le_0))))))))))))))) ?_))
        exact ih.1 _ _ _ _ _ _ M hS (by omega) (by omega) (by omega) (by omega) (by omega) (by omega) (by omega) (by omega)
      · intro h2
        refine n_iload c_45_117 rfl (n_aload_n c_45_119 rfl (n_iload c_45_120 rfl (n_iload c_45_122 rfl (n_iadd c_45_124 rfl (n_ialoadV c_45_125 hp.c0.2.1.n rfl rfl rfl (by omega) (t_actr hS hd hp (Or.inl rfl) (by omega)) ?_)))))
        intro z3 ez3 f4
        refine n_aload_n c_45_126 rfl (n_getV (bi := 2) c_45_127 sc_52.n rfl rfl rfl (t_52_2 hS) ?_)
        intro z5 ez5 f6
        obtain rfl : z5 = 2 := by omega
        refine n_imul c_45_130 rfl (n_iadd c_45_131 rfl (n_istore (L2 := [some (2, 52), none, some (2, (p + 1)), none, none, some (0, x5), some (0, x6), some (0, x7), some (0, x8), some (0, x9), some (0, x10), some (0, x11), some (0, x12), some (0, (x11 + (z3 * 2))), none]) c_45_132 rfl rfl (n_iconst c_45_134 (n_istore (L2 := [some (2, 52), none, some (2, (p + 1)), none, none, some (0, x5), some (0, x6), some (0, x7), some (0, x8), some (0, x9), some (0, x10), some (0, x11), some (0, x12), some (0, (x11 + (z3 * 2))), some (0, 0)]) c_45_135 rfl rfl (n_fg (le_s (le_n (le_s (le_n (le_n (le_s (le_s (le_s (le_s (le_s (le_s (le_s (le_s (le_s (le_s le_0))))))))))))))) ?_)))))
        exact ih.2.2 _ _ _ _ _ _ _ _ _ _ M hS (by omega) (by omega) (by omega) (by omega) (by omega) (by omega) (by omega) (by omega) (by omega) (by omega) (by omega) (by omega)
    · intro x5 x6 x7 x8 x9 x10 x11 x12 x13 x14 M hS k5 k6 k7 k8 k9 k10 k11 k12 k13 k14 v0 hnn
      refine n_iload c_45_137 rfl (n_iload c_45_139 rfl ?_)
      refine n_if2_ge c_45_141 (by omega) (by omega) ?_ ?_
      · intro h1
        refine n_iinc (L2 := [some (2, 52), none, some (2, (p + 1)), none, none, some (0, x5), some (0, x6), some (0, x7), some (0, x8), some (0, x9), some (0, x10), some (0, x11), some (0, (x12 + 1)), some (0, x13), some (0, x14)]) c_45_175 rfl rfl rfl (n_goto c_45_178 (n_fg (le_s (le_n (le_s (le_n (le_n (le_s (le_s (le_s (le_s (le_s (le_s (le_s (le_s (le_n (le_n le_0))))))))))))))) ?_))
        exact ih.2.1 _ _ _ _ _ _ _ _ M hS (by omega) (by omega) (by omega) (by omega) (by omega) (by omega) (by omega) (by omega) (by omega) (by omega)
      · intro h2
        refine n_aload_n c_45_144 rfl (n_getR c_45_145 sc_52.n rfl rfl rfl r_52_0 (n_iload c_45_148 rfl (n_iload c_45_150 rfl (n_aload_n c_45_152 rfl (n_iload c_45_153 rfl (n_iload c_45_155 rfl (n_iadd c_45_157 rfl (n_ialoadV c_45_158 hp.c0.2.1.n rfl rfl rfl (by omega) (t_actr hS hd hp (Or.inl rfl) (by omega)) ?_))))))))
        intro z3 ez3 f4
        refine n_aload_n c_45_159 rfl (n_getV (bi := 3) c_45_160 sc_52.n rfl rfl rfl (t_52_3 hS) ?_)
        intro z5 ez5 f6
        obtain rfl : z5 = 1 := by omega
        refine n_imul c_45_163 rfl (n_iadd c_45_164 rfl (n_iastoreV hS c_45_165 sc_53.n rfl (by omega) (w_53 (by omega) (by omega)) ?_))
        intro M7 eM7 hS7
        refine n_iinc (L2 := [some (2, 52), none, some (2, (p + 1)), none, none, some (0, x5), some (0, x6), some (0, x7), some (0, x8), some (0, (x9 + 1)), some (0, x10), some (0, x11), some (0, x12), some (0, x13), some (0, x14)]) c_45_166 rfl rfl rfl (n_iinc (L2 := [some (2, 52), none, some (2, (p + 1)), none, none, some (0, x5), some (0, x6), some (0, x7), some (0, x8), some (0, (x9 + 1)), some (0, x10), some (0, x11), some (0, x12), some (0, x13), some (0, (x14 + 1))]) c_45_169 rfl rfl rfl (n_goto c_45_172 (n_fg (le_s (le_n (le_s (le_n (le_n (le_s (le_s (le_s (le_s (le_s (le_s (le_s (le_s (le_s (le_s le_0))))))))))))))) ?_)))
        exact ih.2.2 _ _ _ _ _ _ _ _ _ _ M7 hS7 (by omega) (by omega) (by omega) (by omega) (by omega) (by omega) (by omega) (by omega) (by omega) (by omega) (by omega) (by omega)
set_option maxHeartbeats 4000000 in
theorem fillLT_2 {xs : List Int32} {e : Nat} {ac : Int} {M0 M : nM} {p i j : Int} (hS : Sf 2 ac M0 M) (hp : ActAt p) (hpl : p < 55 + 3 * ac) (hi : 0 ≤ i ∧ i ≤ 26) (hj : 0 ≤ j ∧ j ≤ 26) : nW xs e 45 0 [some (2, 52), some (2, 4), some (2, (p + 1)), some (0, i), some (0, j), none, none, none, none, none, none, none, none, none, none] [] M (nPV fun M1 => Sf 2 ac M0 M1) := by
  have hd : (2 : Int) = 2 ∨ (2 : Int) = 3 := by decide
  have hac := hS.2.2.2.2
  refine n_aload_n c_45_0 rfl (n_getV (bi := 1) c_45_1 sc_52.n rfl rfl rfl (t_52_1 hS) ?_)
  intro z1 ez1 f2
  obtain rfl : z1 = 4 := by omega
  refine n_if0_ne c_45_4 (by omega) ?_ ?_
  · intro h3
    refine n_aload_n c_45_8 rfl (n_getV (bi := 0) c_45_9 sc_4.n rfl rfl rfl (t_4_0 hS) ?_)
    intro z4 ez4 f5
    obtain rfl : z4 = 2 := by omega
    refine n_istore (L2 := [some (2, 52), some (2, 4), some (2, (p + 1)), some (0, i), some (0, j), some (0, 2), none, none, none, none, none, none, none, none, none]) c_45_12 rfl rfl (n_aload_n c_45_14 rfl (n_getR c_45_15 sc_4.n rfl rfl rfl r_4_2 (n_iload_n c_45_18 rfl (n_ialoadV c_45_19 sc_5.n rfl rfl rfl (by omega) (t_5 hS hd (by omega)) ?_))))
    intro z6 ez6 f7
    refine n_iload c_45_20 rfl (n_imul c_45_22 rfl (n_aload_n c_45_23 rfl (n_getR c_45_24 sc_4.n rfl rfl rfl r_4_2 (n_iload c_45_27 rfl (n_ialoadV c_45_29 sc_5.n rfl rfl rfl (by omega) (t_5 hS hd (by omega)) ?_)))))
    intro z8 ez8 f9
    refine n_iadd c_45_30 rfl (n_iload c_45_31 rfl (n_imul c_45_33 rfl (n_istore (L2 := [some (2, 52), some (2, 4), some (2, (p + 1)), some (0, i), some (0, j), some (0, 2), some (0, (((z6 * 2) + z8) * 2)), none, none, none, none, none, none, none, none]) c_45_34 rfl rfl (n_aload_n c_45_36 rfl (n_getR c_45_37 sc_4.n rfl rfl rfl r_4_3 (n_iload_n c_45_40 rfl (n_ialoadV c_45_41 sc_6.n rfl rfl rfl (by omega) (t_6 hS hd (by omega)) ?_)))))))
    intro z10 ez10 f11
    refine n_iload c_45_42 rfl (n_imul c_45_44 rfl (n_aload_n c_45_45 rfl (n_getR c_45_46 sc_4.n rfl rfl rfl r_4_3 (n_iload c_45_49 rfl (n_ialoadV c_45_51 sc_6.n rfl rfl rfl (by omega) (t_6 hS hd (by omega)) ?_)))))
    intro z12 ez12 f13
    refine n_iadd c_45_52 rfl (n_iload c_45_53 rfl (n_imul c_45_55 rfl (n_istore (L2 := [some (2, 52), some (2, 4), some (2, (p + 1)), some (0, i), some (0, j), some (0, 2), some (0, (((z6 * 2) + z8) * 2)), some (0, (((z10 * 2) + z12) * 2)), none, none, none, none, none, none, none]) c_45_56 rfl rfl (n_aload_n c_45_58 rfl (n_getR c_45_59 sc_4.n rfl rfl rfl r_4_4 (n_iload_n c_45_62 rfl (n_ialoadV c_45_63 sc_7.n rfl rfl rfl (by omega) (t_7 hS hd (by omega)) ?_)))))))
    intro z14 ez14 f15
    refine n_iload c_45_64 rfl (n_imul c_45_66 rfl (n_aload_n c_45_67 rfl (n_getR c_45_68 sc_4.n rfl rfl rfl r_4_4 (n_iload c_45_71 rfl (n_ialoadV c_45_73 sc_7.n rfl rfl rfl (by omega) (t_7 hS hd (by omega)) ?_)))))
    intro z16 ez16 f17
    refine n_iadd c_45_74 rfl (n_iload c_45_75 rfl (n_imul c_45_77 rfl (n_istore (L2 := [some (2, 52), some (2, 4), some (2, (p + 1)), some (0, i), some (0, j), some (0, 2), some (0, (((z6 * 2) + z8) * 2)), some (0, (((z10 * 2) + z12) * 2)), some (0, (((z14 * 2) + z16) * 2)), none, none, none, none, none, none]) c_45_78 rfl rfl (n_iconst c_45_80 (n_istore (L2 := [some (2, 52), some (2, 4), some (2, (p + 1)), some (0, i), some (0, j), some (0, 2), some (0, (((z6 * 2) + z8) * 2)), some (0, (((z10 * 2) + z12) * 2)), some (0, (((z14 * 2) + z16) * 2)), some (0, 0), none, none, none, none, none]) c_45_81 rfl rfl (n_iconst c_45_83 (n_istore (L2 := [some (2, 52), some (2, 4), some (2, (p + 1)), some (0, i), some (0, j), some (0, 2), some (0, (((z6 * 2) + z8) * 2)), some (0, (((z10 * 2) + z12) * 2)), some (0, (((z14 * 2) + z16) * 2)), some (0, 0), some (0, 0), none, none, none, none]) c_45_84 rfl rfl (n_fg (le_s (le_n (le_s (le_n (le_n (le_s (le_s (le_s (le_s (le_s (le_s (le_n (le_n (le_n (le_n le_0))))))))))))))) ?_))))))))
    exact (fillLT_2_c hS hp hpl hi hj 178).1 _ _ _ _ _ _ M hS (by omega) (by omega) (by omega) (by omega) (by omega) (by omega) (by omega) (by omega)
  · intro h18
    exfalso; omega

set_option maxHeartbeats 4000000 in
theorem fillLU_2_c {xs : List Int32} {e : Nat} {ac : Int} {M0 M : nM} {p i j : Int} (hS : Sf 2 ac M0 M) (hp : ActAt p) (hpl : p < 55 + 3 * ac) (hi : 0 ≤ i ∧ i ≤ 26) (hj : 0 ≤ j ∧ j ≤ 26) : ∀ nn : Nat, (∀ (x5 x6 x7 x8 x9 x10 : Int) (M : nM), Sf 2 ac M0 M → (2 ≤ x5 ∧ x5 ≤ 2) → (0 ≤ x6 ∧ x6 ≤ 12) → (0 ≤ x7 ∧ x7 ≤ 12) → (0 ≤ x8 ∧ x8 ≤ 12) → (0 ≤ x9 ∧ x9 ≤ 8) → (0 ≤ x10 ∧ x10 ≤ 2) → (x9 = 4 * x10) → (2 - x10) * 21 + 21 < (nn : Int) → nW xs e 45 86 [some (2, 52), none, some (2, (p + 2)), none, none, some (0, x5), some (0, x6), some (0, x7), some (0, x8), some (0, x9), some (0, x10), none, none, none, none] [] M (nPV fun M1 => Sf 2 ac M0 M1)) ∧ (∀ (x5 x6 x7 x8 x9 x10 x11 x12 : Int) (M : nM), Sf 2 ac M0 M → (2 ≤ x5 ∧ x5 ≤ 2) → (0 ≤ x6 ∧ x6 ≤ 12) → (0 ≤ x7 ∧ x7 ≤ 12) → (0 ≤ x8 ∧ x8 ≤ 12) → (0 ≤ x9 ∧ x9 ≤ 8) → (0 ≤ x10 ∧ x10 ≤ 1) → (0 ≤ x11 ∧ x11 ≤ 8) → (0 ≤ x12 ∧ x12 ≤ 2) → (x9 = 4 * x10 + 2 * x12) → (2 - x10) * 21 + (2 - x12) * 5 + 5 < (nn : Int) → nW xs e 45 110 [some (2, 52), none, some (2, (p + 2)), none, none, some (0, x5), some (0, x6), some (0, x7), some (0, x8), some (0, x9), some (0, x10), some (0, x11), some (0, x12), none, none] [] M (nPV fun M1 => Sf 2 ac M0 M1)) ∧ (∀ (x5 x6 x7 x8 x9 x10 x11 x12 x13 x14 : Int) (M : nM), Sf 2 ac M0 M → (2 ≤ x5 ∧ x5 ≤ 2) → (0 ≤ x6 ∧ x6 ≤ 12) → (0 ≤ x7 ∧ x7 ≤ 12) → (0 ≤ x8 ∧ x8 ≤ 12) → (0 ≤ x9 ∧ x9 ≤ 8) → (0 ≤ x10 ∧ x10 ≤ 1) → (0 ≤ x11 ∧ x11 ≤ 8) → (0 ≤ x12 ∧ x12 ≤ 1) → (0 ≤ x13 ∧ x13 ≤ 12) → (0 ≤ x14 ∧ x14 ≤ 2) → (x9 = 4 * x10 + 2 * x12 + x14) → (2 - x10) * 21 + (2 - x12) * 5 + (2 - x14) * 1 + 1 < (nn : Int) → nW xs e 45 137 [some (2, 52), none, some (2, (p + 2)), none, none, some (0, x5), some (0, x6), some (0, x7), some (0, x8), some (0, x9), some (0, x10), some (0, x11), some (0, x12), some (0, x13), some (0, x14)] [] M (nPV fun M1 => Sf 2 ac M0 M1)) := by
  have hd : (2 : Int) = 2 ∨ (2 : Int) = 3 := by decide
  have hac := hS.2.2.2.2
  intro nn
  induction nn with
  | zero => refine ⟨?_, ?_, ?_⟩ <;> (intros; omega)
  | succ nn ih =>
    refine ⟨?_, ?_, ?_⟩
    · intro x5 x6 x7 x8 x9 x10 M hS k5 k6 k7 k8 k9 k10 v0 hnn
      refine n_iload c_45_86 rfl (n_iload c_45_88 rfl ?_)
      refine n_if2_ge c_45_90 (by omega) (by omega) ?_ ?_
      · intro h1
        exact n_rV c_45_187 rfl hS
      · intro h2
        refine n_aload_n c_45_93 rfl (n_iload c_45_94 rfl (n_iload c_45_96 rfl (n_iadd c_45_98 rfl (n_ialoadV c_45_99 hp.c0.2.2.n rfl rfl rfl (by omega) (t_actr hS hd hp (Or.inr rfl) (by omega)) ?_))))
        intro z3 ez3 f4
        refine n_aload_n c_45_100 rfl (n_getV (bi := 1) c_45_101 sc_52.n rfl rfl rfl (t_52_1 hS) ?_)
        intro z5 ez5 f6
        obtain rfl : z5 = 4 := by omega
        refine n_imul c_45_104 rfl (n_istore (L2 := [some (2, 52), none, some (2, (p + 2)), none, none, some (0, x5), some (0, x6), some (0, x7), some (0, x8), some (0, x9), some (0, x10), some (0, (z3 * 4)), none, none, none]) c_45_105 rfl rfl (n_iconst c_45_107 (n_istore (L2 := [some (2, 52), none, some (2, (p + 2)), none, none, some (0, x5), some (0, x6), some (0, x7), some (0, x8), some (0, x9), some (0, x10), some (0, (z3 * 4)), some (0, 0), none, none]) c_45_108 rfl rfl (n_fg (le_s (le_n (le_s (le_n (le_n (le_s (le_s (le_s (le_s (le_s (le_s (le_s (le_s (le_n (le_n le_0))))))))))))))) ?_))))
        exact ih.2.1 _ _ _ _ _ _ _ _ M hS (by omega) (by omega) (by omega) (by omega) (by omega) (by omega) (by omega) (by omega) (by omega) (by omega)
    · intro x5 x6 x7 x8 x9 x10 x11 x12 M hS k5 k6 k7 k8 k9 k10 k11 k12 v0 hnn
      refine n_iload c_45_110 rfl (n_iload c_45_112 rfl ?_)
      refine n_if2_ge c_45_114 (by omega) (by omega) ?_ ?_
      · intro h1
        refine n_iinc (L2 := [some (2, 52), none, some (2, (p + 2)), none, none, some (0, x5), some (0, x6), some (0, x7), some (0, x8), some (0, x9), some (0, (x10 + 1)), some (0, x11), some (0, x12), none, none]) c_45_181 rfl rfl rfl (n_goto c_45_184 (n_fg (le_s (le_n (le_s (le_n (le_n (le_s (le_s (le_s (le_s (le_s (le_s (le_n (le_n (le_n (le_n le_0))))))))))))))) ?_))
        exact ih.1 _ _ _ _ _ _ M hS (by omega) (by omega) (by omega) (by omega) (by omega) (by omega) (by omega) (by omega)
      · intro h2
        refine n_iload c_45_117 rfl (n_aload_n c_45_119 rfl (n_iload c_45_120 rfl (n_iload c_45_122 rfl (n_iadd c_45_124 rfl (n_ialoadV c_45_125 hp.c0.2.2.n rfl rfl rfl (by omega) (t_actr hS hd hp (Or.inr rfl) (by omega)) ?_)))))
        intro z3 ez3 f4
        refine n_aload_n c_45_126 rfl (n_getV (bi := 2) c_45_127 sc_52.n rfl rfl rfl (t_52_2 hS) ?_)
        intro z5 ez5 f6
        obtain rfl : z5 = 2 := by omega
        refine n_imul c_45_130 rfl (n_iadd c_45_131 rfl (n_istore (L2 := [some (2, 52), none, some (2, (p + 2)), none, none, some (0, x5), some (0, x6), some (0, x7), some (0, x8), some (0, x9), some (0, x10), some (0, x11), some (0, x12), some (0, (x11 + (z3 * 2))), none]) c_45_132 rfl rfl (n_iconst c_45_134 (n_istore (L2 := [some (2, 52), none, some (2, (p + 2)), none, none, some (0, x5), some (0, x6), some (0, x7), some (0, x8), some (0, x9), some (0, x10), some (0, x11), some (0, x12), some (0, (x11 + (z3 * 2))), some (0, 0)]) c_45_135 rfl rfl (n_fg (le_s (le_n (le_s (le_n (le_n (le_s (le_s (le_s (le_s (le_s (le_s (le_s (le_s (le_s (le_s le_0))))))))))))))) ?_)))))
        exact ih.2.2 _ _ _ _ _ _ _ _ _ _ M hS (by omega) (by omega) (by omega) (by omega) (by omega) (by omega) (by omega) (by omega) (by omega) (by omega) (by omega) (by omega)
    · intro x5 x6 x7 x8 x9 x10 x11 x12 x13 x14 M hS k5 k6 k7 k8 k9 k10 k11 k12 k13 k14 v0 hnn
      refine n_iload c_45_137 rfl (n_iload c_45_139 rfl ?_)
      refine n_if2_ge c_45_141 (by omega) (by omega) ?_ ?_
      · intro h1
        refine n_iinc (L2 := [some (2, 52), none, some (2, (p + 2)), none, none, some (0, x5), some (0, x6), some (0, x7), some (0, x8), some (0, x9), some (0, x10), some (0, x11), some (0, (x12 + 1)), some (0, x13), some (0, x14)]) c_45_175 rfl rfl rfl (n_goto c_45_178 (n_fg (le_s (le_n (le_s (le_n (le_n (le_s (le_s (le_s (le_s (le_s (le_s (le_s (le_s (le_n (le_n le_0))))))))))))))) ?_))
        exact ih.2.1 _ _ _ _ _ _ _ _ M hS (by omega) (by omega) (by omega) (by omega) (by omega) (by omega) (by omega) (by omega) (by omega) (by omega)
      · intro h2
        refine n_aload_n c_45_144 rfl (n_getR c_45_145 sc_52.n rfl rfl rfl r_52_0 (n_iload c_45_148 rfl (n_iload c_45_150 rfl (n_aload_n c_45_152 rfl (n_iload c_45_153 rfl (n_iload c_45_155 rfl (n_iadd c_45_157 rfl (n_ialoadV c_45_158 hp.c0.2.2.n rfl rfl rfl (by omega) (t_actr hS hd hp (Or.inr rfl) (by omega)) ?_))))))))
        intro z3 ez3 f4
        refine n_aload_n c_45_159 rfl (n_getV (bi := 3) c_45_160 sc_52.n rfl rfl rfl (t_52_3 hS) ?_)
        intro z5 ez5 f6
        obtain rfl : z5 = 1 := by omega
        refine n_imul c_45_163 rfl (n_iadd c_45_164 rfl (n_iastoreV hS c_45_165 sc_53.n rfl (by omega) (w_53 (by omega) (by omega)) ?_))
        intro M7 eM7 hS7
        refine n_iinc (L2 := [some (2, 52), none, some (2, (p + 2)), none, none, some (0, x5), some (0, x6), some (0, x7), some (0, x8), some (0, (x9 + 1)), some (0, x10), some (0, x11), some (0, x12), some (0, x13), some (0, x14)]) c_45_166 rfl rfl rfl (n_iinc (L2 := [some (2, 52), none, some (2, (p + 2)), none, none, some (0, x5), some (0, x6), some (0, x7), some (0, x8), some (0, (x9 + 1)), some (0, x10), some (0, x11), some (0, x12), some (0, x13), some (0, (x14 + 1))]) c_45_169 rfl rfl rfl (n_goto c_45_172 (n_fg (le_s (le_n (le_s (le_n (le_n (le_s (le_s (le_s (le_s (le_s (le_s (le_s (le_s (le_s (le_s le_0))))))))))))))) ?_)))
        exact ih.2.2 _ _ _ _ _ _ _ _ _ _ M7 hS7 (by omega) (by omega) (by omega) (by omega) (by omega) (by omega) (by omega) (by omega) (by omega) (by omega) (by omega) (by omega)
set_option maxHeartbeats 4000000 in
theorem fillLU_2 {xs : List Int32} {e : Nat} {ac : Int} {M0 M : nM} {p i j : Int} (hS : Sf 2 ac M0 M) (hp : ActAt p) (hpl : p < 55 + 3 * ac) (hi : 0 ≤ i ∧ i ≤ 26) (hj : 0 ≤ j ∧ j ≤ 26) : nW xs e 45 0 [some (2, 52), some (2, 4), some (2, (p + 2)), some (0, i), some (0, j), none, none, none, none, none, none, none, none, none, none] [] M (nPV fun M1 => Sf 2 ac M0 M1) := by
  have hd : (2 : Int) = 2 ∨ (2 : Int) = 3 := by decide
  have hac := hS.2.2.2.2
  refine n_aload_n c_45_0 rfl (n_getV (bi := 1) c_45_1 sc_52.n rfl rfl rfl (t_52_1 hS) ?_)
  intro z1 ez1 f2
  obtain rfl : z1 = 4 := by omega
  refine n_if0_ne c_45_4 (by omega) ?_ ?_
  · intro h3
    refine n_aload_n c_45_8 rfl (n_getV (bi := 0) c_45_9 sc_4.n rfl rfl rfl (t_4_0 hS) ?_)
    intro z4 ez4 f5
    obtain rfl : z4 = 2 := by omega
    refine n_istore (L2 := [some (2, 52), some (2, 4), some (2, (p + 2)), some (0, i), some (0, j), some (0, 2), none, none, none, none, none, none, none, none, none]) c_45_12 rfl rfl (n_aload_n c_45_14 rfl (n_getR c_45_15 sc_4.n rfl rfl rfl r_4_2 (n_iload_n c_45_18 rfl (n_ialoadV c_45_19 sc_5.n rfl rfl rfl (by omega) (t_5 hS hd (by omega)) ?_))))
    intro z6 ez6 f7
    refine n_iload c_45_20 rfl (n_imul c_45_22 rfl (n_aload_n c_45_23 rfl (n_getR c_45_24 sc_4.n rfl rfl rfl r_4_2 (n_iload c_45_27 rfl (n_ialoadV c_45_29 sc_5.n rfl rfl rfl (by omega) (t_5 hS hd (by omega)) ?_)))))
    intro z8 ez8 f9
    refine n_iadd c_45_30 rfl (n_iload c_45_31 rfl (n_imul c_45_33 rfl (n_istore (L2 := [some (2, 52), some (2, 4), some (2, (p + 2)), some (0, i), some (0, j), some (0, 2), some (0, (((z6 * 2) + z8) * 2)), none, none, none, none, none, none, none, none]) c_45_34 rfl rfl (n_aload_n c_45_36 rfl (n_getR c_45_37 sc_4.n rfl rfl rfl r_4_3 (n_iload_n c_45_40 rfl (n_ialoadV c_45_41 sc_6.n rfl rfl rfl (by omega) (t_6 hS hd (by omega)) ?_)))))))
    intro z10 ez10 f11
    refine n_iload c_45_42 rfl (n_imul c_45_44 rfl (n_aload_n c_45_45 rfl (n_getR c_45_46 sc_4.n rfl rfl rfl r_4_3 (n_iload c_45_49 rfl (n_ialoadV c_45_51 sc_6.n rfl rfl rfl (by omega) (t_6 hS hd (by omega)) ?_)))))
    intro z12 ez12 f13
    refine n_iadd c_45_52 rfl (n_iload c_45_53 rfl (n_imul c_45_55 rfl (n_istore (L2 := [some (2, 52), some (2, 4), some (2, (p + 2)), some (0, i), some (0, j), some (0, 2), some (0, (((z6 * 2) + z8) * 2)), some (0, (((z10 * 2) + z12) * 2)), none, none, none, none, none, none, none]) c_45_56 rfl rfl (n_aload_n c_45_58 rfl (n_getR c_45_59 sc_4.n rfl rfl rfl r_4_4 (n_iload_n c_45_62 rfl (n_ialoadV c_45_63 sc_7.n rfl rfl rfl (by omega) (t_7 hS hd (by omega)) ?_)))))))
    intro z14 ez14 f15
    refine n_iload c_45_64 rfl (n_imul c_45_66 rfl (n_aload_n c_45_67 rfl (n_getR c_45_68 sc_4.n rfl rfl rfl r_4_4 (n_iload c_45_71 rfl (n_ialoadV c_45_73 sc_7.n rfl rfl rfl (by omega) (t_7 hS hd (by omega)) ?_)))))
    intro z16 ez16 f17
    refine n_iadd c_45_74 rfl (n_iload c_45_75 rfl (n_imul c_45_77 rfl (n_istore (L2 := [some (2, 52), some (2, 4), some (2, (p + 2)), some (0, i), some (0, j), some (0, 2), some (0, (((z6 * 2) + z8) * 2)), some (0, (((z10 * 2) + z12) * 2)), some (0, (((z14 * 2) + z16) * 2)), none, none, none, none, none, none]) c_45_78 rfl rfl (n_iconst c_45_80 (n_istore (L2 := [some (2, 52), some (2, 4), some (2, (p + 2)), some (0, i), some (0, j), some (0, 2), some (0, (((z6 * 2) + z8) * 2)), some (0, (((z10 * 2) + z12) * 2)), some (0, (((z14 * 2) + z16) * 2)), some (0, 0), none, none, none, none, none]) c_45_81 rfl rfl (n_iconst c_45_83 (n_istore (L2 := [some (2, 52), some (2, 4), some (2, (p + 2)), some (0, i), some (0, j), some (0, 2), some (0, (((z6 * 2) + z8) * 2)), some (0, (((z10 * 2) + z12) * 2)), some (0, (((z14 * 2) + z16) * 2)), some (0, 0), some (0, 0), none, none, none, none]) c_45_84 rfl rfl (n_fg (le_s (le_n (le_s (le_n (le_n (le_s (le_s (le_s (le_s (le_s (le_s (le_n (le_n (le_n (le_n le_0))))))))))))))) ?_))))))))
    exact (fillLU_2_c hS hp hpl hi hj 178).1 _ _ _ _ _ _ M hS (by omega) (by omega) (by omega) (by omega) (by omega) (by omega) (by omega) (by omega)
  · intro h18
    exfalso; omega

set_option maxHeartbeats 4000000 in
theorem addWide_2_c {xs : List Int32} {e : Nat} {ac : Int} {M0 M : nM} {r : Int} (hS : Sf 2 ac M0 M) (hr : 0 ≤ r ∧ r ≤ 26) : ∀ nn : Nat, (∀ (M : nM), Sf 2 ac M0 M → 1 < (nn : Int) → nW xs e 42 52 [none, none] [] M (nPV fun M1 => Sf 2 ac M0 M1)) := by
  have hd : (2 : Int) = 2 ∨ (2 : Int) = 3 := by decide
  have hac := hS.2.2.2.2
  intro nn
  induction nn with
  | zero => intros; omega
  | succ nn ih =>
    intro M hS hnn
    exact n_rV c_42_52 rfl hS
set_option maxHeartbeats 4000000 in
theorem addWide_2 {xs : List Int32} {e : Nat} {ac : Int} {M0 M : nM} {r : Int} (hS : Sf 2 ac M0 M) (hr : 0 ≤ r ∧ r ≤ 26) : nW xs e 42 0 [some (2, 50), some (0, r)] [] M (nPV fun M1 => Sf 2 ac M0 M1) := by
  have hd : (2 : Int) = 2 ∨ (2 : Int) = 3 := by decide
  have hac := hS.2.2.2.2
  refine n_aload_n c_42_0 rfl (n_getV (bi := 3) c_42_1 law50.c0.1.n rfl rfl rfl (t_law hS law50).2.2.2 ?_)
  intro z1 ez1 f2
  refine n_bipush c_42_4 rfl ?_
  refine n_if2_ge c_42_6 (by omega) (by omega) ?_ ?_
  · intro h3
    refine n_fg (le_n (le_n le_0)) ?_
    exact (addWide_2_c hS hr 12)  M hS  (by omega)
  · intro h4
    refine n_aload_n c_42_9 rfl (n_getV (bi := 2) c_42_10 law50.c0.1.n rfl rfl rfl (t_law hS law50).2.2.1 ?_)
    intro z5 ez5 f6
    refine n_iload_n c_42_13 rfl (n_i_ishr c_42_14 rfl ?_)
    have f7 := n_shr_r z5 r
    generalize (n_shr z5 r) = z8 at f7 ⊢
    refine n_iconst c_42_15 (n_i_iand c_42_16 rfl ?_)
    have f9 := n_and_y (x := z8) (y := 1) (by omega)
    generalize (n_and z8 1) = z10 at f9 ⊢
    refine n_if0_ne c_42_17 (by omega) ?_ ?_
    · intro h11
      refine n_fg (le_n (le_n le_0)) ?_
      exact (addWide_2_c hS hr 12)  M hS  (by omega)
    · intro h12
      refine n_aload_n c_42_20 rfl (n_getR c_42_21 law50.c0.1.n rfl rfl rfl law50.r (n_aload_n c_42_24 rfl (n_getV (bi := 3) c_42_25 law50.c0.1.n rfl rfl rfl (t_law hS law50).2.2.2 ?_)))
      intro z13 ez13 f14
      refine n_iload_n c_42_28 rfl (n_iastoreV hS c_42_29 law50.c0.2.n rfl (by omega) (w_51 (by omega) (by omega)) ?_)
      intro M15 eM15 hS15
      have g15_0 : M15 50 3 = M 50 3 := by rw [eM15]; exact nu_a (by omega)
      refine n_aload_n c_42_30 rfl (n_dup2 c_42_31 (n_getV (bi := 3) c_42_32 law50.c0.1.n rfl rfl rfl (t_law hS15 law50).2.2.2 ?_))
      intro z16 ez16 f17
      refine n_iconst c_42_35 (n_iadd c_42_36 rfl (n_putV (bi := 3) hS15 c_42_37 law50.c0.1.n rfl rfl rfl rfl (w_50 (by omega) (by omega)) ?_))
      intro M18 eM18 hS18
      have g18_0 : M18 50 3 = (z16 + 1) := by rw [eM18]; exact nu_s _ _ _ _
      refine n_aload_n c_42_40 rfl (n_dup2 c_42_41 (n_getV (bi := 2) c_42_42 law50.c0.1.n rfl rfl rfl (t_law hS18 law50).2.2.1 ?_))
      intro z19 ez19 f20
      refine n_iconst c_42_45 (n_iload_n c_42_46 rfl (n_i_ishl c_42_47 rfl ?_))
      have f21 := n_shl_1 (y := r) (a := 0) (b := 26) (by decide) (by omega)
      generalize (n_shl 1 r) = z22 at f21 ⊢
      refine n_i_ior c_42_48 rfl ?_
      have f23 := n_or_r z19 z22
      generalize (n_or z19 z22) = z24 at f23 ⊢
      refine n_putV (bi := 2) hS18 c_42_49 law50.c0.1.n rfl rfl rfl rfl (w_50 (by omega) (by omega)) ?_
      intro M25 eM25 hS25
      have g25_0 : M25 50 3 = M18 50 3 := by rw [eM25]; exact nu_i (by omega)
      have g25_1 : M25 50 2 = z24 := by rw [eM25]; exact nu_s _ _ _ _
      refine n_fg (le_n (le_n le_0)) ?_
      exact (addWide_2_c hS hr 12)  M25 hS25  (by omega)

set_option maxHeartbeats 4000000 in
theorem takeS0_2_c {xs : List Int32} {e : Nat} {ac : Int} {M0 M : nM} {s : Int} (hS : Sf 2 ac M0 M) (hs : -2147483648 ≤ s ∧ s ≤ 2147483647) : ∀ nn : Nat, (∀ (x4 x5 : Int) (M : nM), Sf 2 ac M0 M → (1 ≤ x4 ∧ x4 ≤ 1) → (0 ≤ x5 ∧ x5 ≤ 1) → (1 - x5) * 2 + 2 < (nn : Int) → nW xs (e + 1) 36 30 [some (2, 50), some (0, 0), some (0, s), some (2, 4), some (0, x4), some (0, x5)] [] M (nPV fun M1 => Sf 2 ac M0 M1)) ∧ (∀ (x4 x5 : Int) (M : nM), Sf 2 ac M0 M → (1 ≤ x4 ∧ x4 ≤ 1) → (0 ≤ x5 ∧ x5 ≤ 0) → (1 - x5) * 2 + 1 < (nn : Int) → nW xs (e + 1) 36 57 [some (2, 50), some (0, 0), some (0, s), some (2, 4), some (0, x4), some (0, x5)] [] M (nPV fun M1 => Sf 2 ac M0 M1)) := by
  have hd : (2 : Int) = 2 ∨ (2 : Int) = 3 := by decide
  have hac := hS.2.2.2.2
  intro nn
  induction nn with
  | zero => refine ⟨?_, ?_⟩ <;> (intros; omega)
  | succ nn ih =>
    refine ⟨?_, ?_⟩
    · intro x4 x5 M hS k4 k5 hnn
      refine n_iload c_36_30 rfl (n_iload c_36_32 rfl ?_)
      refine n_if2_ge c_36_34 (by omega) (by omega) ?_ ?_
      · intro h1
        exact n_rV c_36_63 rfl hS
      · intro h2
        refine n_iload_n c_36_37 rfl (n_iload c_36_38 rfl (n_i_ishr c_36_40 rfl ?_))
        have f3 := n_shr_r s x5
        generalize (n_shr s x5) = z4 at f3 ⊢
        refine n_iconst c_36_41 (n_i_iand c_36_42 rfl ?_)
        have f5 := n_and_y (x := z4) (y := 1) (by omega)
        generalize (n_and z4 1) = z6 at f5 ⊢
        refine n_if0_eq c_36_43 (by omega) ?_ ?_
        · intro h7
          refine n_fg (le_s (le_s (le_s (le_s (le_s (le_s le_0)))))) ?_
          exact ih.2 _ _ M hS (by omega) (by omega) (by omega)
        · intro h8
          refine n_aload_n c_36_46 rfl (n_aload_n c_36_47 rfl (n_iload c_36_48 rfl (n_iload_n c_36_50 rfl (n_v2I c_36_51 rfl sc_4.n rfl rfl rfl rfl (widen0_2 (n := x5) hS (by omega)) ?_))))
          intro z9 M10 hP11
          obtain ⟨eM, f11⟩ := hP11
          subst eM
          refine n_v1V c_36_54 rfl law50.c0.1.n rfl rfl rfl rfl (addWide_2 (r := z9) hS (by omega)) ?_
          intro  M12 hP13
          have hS12 := hP13
          refine n_fg (le_s (le_s (le_s (le_s (le_s (le_s le_0)))))) ?_
          exact ih.2 _ _ M12 hS12 (by omega) (by omega) (by omega)
    · intro x4 x5 M hS k4 k5 hnn
      refine n_iinc (L2 := [some (2, 50), some (0, 0), some (0, s), some (2, 4), some (0, x4), some (0, (x5 + 1))]) c_36_57 rfl rfl rfl (n_goto c_36_60 (n_fg (le_s (le_s (le_s (le_s (le_s (le_s le_0)))))) ?_))
      exact ih.1 _ _ M hS (by omega) (by omega) (by omega)
set_option maxHeartbeats 4000000 in
theorem takeS0_2 {xs : List Int32} {e : Nat} {ac : Int} {M0 M : nM} {s : Int} (hS : Sf 2 ac M0 M) (hs : -2147483648 ≤ s ∧ s ≤ 2147483647) : nW xs (e + 1) 36 0 [some (2, 50), some (0, 0), some (0, s), some (2, 4), none, none] [] M (nPV fun M1 => Sf 2 ac M0 M1) := by
  have hd : (2 : Int) = 2 ∨ (2 : Int) = 3 := by decide
  have hac := hS.2.2.2.2
  refine n_aload_n c_36_0 rfl (n_iload_n c_36_1 rfl (n_putV (bi := 0) hS c_36_2 law50.c0.1.n rfl rfl rfl rfl (w_50 (by omega) (by omega)) ?_))
  intro M1 eM1 hS1
  have g1_0 : M1 50 0 = 0 := by rw [eM1]; exact nu_s _ _ _ _
  refine n_aload_n c_36_5 rfl (n_iload_n c_36_6 rfl (n_putV (bi := 1) hS1 c_36_7 law50.c0.1.n rfl rfl rfl rfl (w_50 (by omega) (by omega)) ?_))
  intro M2 eM2 hS2
  have g2_0 : M2 50 0 = M1 50 0 := by rw [eM2]; exact nu_i (by omega)
  have g2_1 : M2 50 1 = s := by rw [eM2]; exact nu_s _ _ _ _
  refine n_aload_n c_36_10 rfl (n_iconst c_36_11 (n_putV (bi := 2) hS2 c_36_12 law50.c0.1.n rfl rfl rfl rfl (w_50 (by omega) (by omega)) ?_))
  intro M3 eM3 hS3
  have g3_0 : M3 50 0 = M2 50 0 := by rw [eM3]; exact nu_i (by omega)
  have g3_1 : M3 50 1 = M2 50 1 := by rw [eM3]; exact nu_i (by omega)
  have g3_2 : M3 50 2 = 0 := by rw [eM3]; exact nu_s _ _ _ _
  refine n_aload_n c_36_15 rfl (n_iconst c_36_16 (n_putV (bi := 3) hS3 c_36_17 law50.c0.1.n rfl rfl rfl rfl (w_50 (by omega) (by omega)) ?_))
  intro M4 eM4 hS4
  have g4_0 : M4 50 0 = M3 50 0 := by rw [eM4]; exact nu_i (by omega)
  have g4_1 : M4 50 1 = M3 50 1 := by rw [eM4]; exact nu_i (by omega)
  have g4_2 : M4 50 2 = M3 50 2 := by rw [eM4]; exact nu_i (by omega)
  have g4_3 : M4 50 3 = 0 := by rw [eM4]; exact nu_s _ _ _ _
  refine n_aload_n c_36_20 rfl (n_iload_n c_36_21 rfl (n_v1I c_36_22 rfl sc_4.n rfl rfl rfl rfl (power0_2  hS4 ) ?_))
  intro z5 M6 hP7
  obtain ⟨eM, f7⟩ := hP7
  subst eM
  obtain rfl : z5 = 1 := by omega
  refine n_istore (L2 := [some (2, 50), some (0, 0), some (0, s), some (2, 4), some (0, 1), none]) c_36_25 rfl rfl (n_iconst c_36_27 (n_istore (L2 := [some (2, 50), some (0, 0), some (0, s), some (2, 4), some (0, 1), some (0, 0)]) c_36_28 rfl rfl (n_fg (le_s (le_s (le_s (le_s (le_s (le_s le_0)))))) ?_)))
  exact (takeS0_2_c hS hs 22).1 _ _ M4 hS4 (by omega) (by omega) (by omega)

set_option maxHeartbeats 4000000 in
theorem takeS1_2_c {xs : List Int32} {e : Nat} {ac : Int} {M0 M : nM} {s : Int} (hS : Sf 2 ac M0 M) (hs : -2147483648 ≤ s ∧ s ≤ 2147483647) : ∀ nn : Nat, (∀ (x4 x5 : Int) (M : nM), Sf 2 ac M0 M → (2 ≤ x4 ∧ x4 ≤ 2) → (0 ≤ x5 ∧ x5 ≤ 2) → (2 - x5) * 2 + 2 < (nn : Int) → nW xs (e + 1) 36 30 [some (2, 50), some (0, 1), some (0, s), some (2, 4), some (0, x4), some (0, x5)] [] M (nPV fun M1 => Sf 2 ac M0 M1)) ∧ (∀ (x4 x5 : Int) (M : nM), Sf 2 ac M0 M → (2 ≤ x4 ∧ x4 ≤ 2) → (0 ≤ x5 ∧ x5 ≤ 1) → (2 - x5) * 2 + 1 < (nn : Int) → nW xs (e + 1) 36 57 [some (2, 50), some (0, 1), some (0, s), some (2, 4), some (0, x4), some (0, x5)] [] M (nPV fun M1 => Sf 2 ac M0 M1)) := by
  have hd : (2 : Int) = 2 ∨ (2 : Int) = 3 := by decide
  have hac := hS.2.2.2.2
  intro nn
  induction nn with
  | zero => refine ⟨?_, ?_⟩ <;> (intros; omega)
  | succ nn ih =>
    refine ⟨?_, ?_⟩
    · intro x4 x5 M hS k4 k5 hnn
      refine n_iload c_36_30 rfl (n_iload c_36_32 rfl ?_)
      refine n_if2_ge c_36_34 (by omega) (by omega) ?_ ?_
      · intro h1
        exact n_rV c_36_63 rfl hS
      · intro h2
        refine n_iload_n c_36_37 rfl (n_iload c_36_38 rfl (n_i_ishr c_36_40 rfl ?_))
        have f3 := n_shr_r s x5
        generalize (n_shr s x5) = z4 at f3 ⊢
        refine n_iconst c_36_41 (n_i_iand c_36_42 rfl ?_)
        have f5 := n_and_y (x := z4) (y := 1) (by omega)
        generalize (n_and z4 1) = z6 at f5 ⊢
        refine n_if0_eq c_36_43 (by omega) ?_ ?_
        · intro h7
          refine n_fg (le_s (le_s (le_s (le_s (le_s (le_s le_0)))))) ?_
          exact ih.2 _ _ M hS (by omega) (by omega) (by omega)
        · intro h8
          refine n_aload_n c_36_46 rfl (n_aload_n c_36_47 rfl (n_iload c_36_48 rfl (n_iload_n c_36_50 rfl (n_v2I c_36_51 rfl sc_4.n rfl rfl rfl rfl (widen1_2 (n := x5) hS (by omega)) ?_))))
          intro z9 M10 hP11
          obtain ⟨eM, f11⟩ := hP11
          subst eM
          refine n_v1V c_36_54 rfl law50.c0.1.n rfl rfl rfl rfl (addWide_2 (r := z9) hS (by omega)) ?_
          intro  M12 hP13
          have hS12 := hP13
          refine n_fg (le_s (le_s (le_s (le_s (le_s (le_s le_0)))))) ?_
          exact ih.2 _ _ M12 hS12 (by omega) (by omega) (by omega)
    · intro x4 x5 M hS k4 k5 hnn
      refine n_iinc (L2 := [some (2, 50), some (0, 1), some (0, s), some (2, 4), some (0, x4), some (0, (x5 + 1))]) c_36_57 rfl rfl rfl (n_goto c_36_60 (n_fg (le_s (le_s (le_s (le_s (le_s (le_s le_0)))))) ?_))
      exact ih.1 _ _ M hS (by omega) (by omega) (by omega)
set_option maxHeartbeats 4000000 in
theorem takeS1_2 {xs : List Int32} {e : Nat} {ac : Int} {M0 M : nM} {s : Int} (hS : Sf 2 ac M0 M) (hs : -2147483648 ≤ s ∧ s ≤ 2147483647) : nW xs (e + 1) 36 0 [some (2, 50), some (0, 1), some (0, s), some (2, 4), none, none] [] M (nPV fun M1 => Sf 2 ac M0 M1) := by
  have hd : (2 : Int) = 2 ∨ (2 : Int) = 3 := by decide
  have hac := hS.2.2.2.2
  refine n_aload_n c_36_0 rfl (n_iload_n c_36_1 rfl (n_putV (bi := 0) hS c_36_2 law50.c0.1.n rfl rfl rfl rfl (w_50 (by omega) (by omega)) ?_))
  intro M1 eM1 hS1
  have g1_0 : M1 50 0 = 1 := by rw [eM1]; exact nu_s _ _ _ _
  refine n_aload_n c_36_5 rfl (n_iload_n c_36_6 rfl (n_putV (bi := 1) hS1 c_36_7 law50.c0.1.n rfl rfl rfl rfl (w_50 (by omega) (by omega)) ?_))
  intro M2 eM2 hS2
  have g2_0 : M2 50 0 = M1 50 0 := by rw [eM2]; exact nu_i (by omega)
  have g2_1 : M2 50 1 = s := by rw [eM2]; exact nu_s _ _ _ _
  refine n_aload_n c_36_10 rfl (n_iconst c_36_11 (n_putV (bi := 2) hS2 c_36_12 law50.c0.1.n rfl rfl rfl rfl (w_50 (by omega) (by omega)) ?_))
  intro M3 eM3 hS3
  have g3_0 : M3 50 0 = M2 50 0 := by rw [eM3]; exact nu_i (by omega)
  have g3_1 : M3 50 1 = M2 50 1 := by rw [eM3]; exact nu_i (by omega)
  have g3_2 : M3 50 2 = 0 := by rw [eM3]; exact nu_s _ _ _ _
  refine n_aload_n c_36_15 rfl (n_iconst c_36_16 (n_putV (bi := 3) hS3 c_36_17 law50.c0.1.n rfl rfl rfl rfl (w_50 (by omega) (by omega)) ?_))
  intro M4 eM4 hS4
  have g4_0 : M4 50 0 = M3 50 0 := by rw [eM4]; exact nu_i (by omega)
  have g4_1 : M4 50 1 = M3 50 1 := by rw [eM4]; exact nu_i (by omega)
  have g4_2 : M4 50 2 = M3 50 2 := by rw [eM4]; exact nu_i (by omega)
  have g4_3 : M4 50 3 = 0 := by rw [eM4]; exact nu_s _ _ _ _
  refine n_aload_n c_36_20 rfl (n_iload_n c_36_21 rfl (n_v1I c_36_22 rfl sc_4.n rfl rfl rfl rfl (power1_2  hS4 ) ?_))
  intro z5 M6 hP7
  obtain ⟨eM, f7⟩ := hP7
  subst eM
  obtain rfl : z5 = 2 := by omega
  refine n_istore (L2 := [some (2, 50), some (0, 1), some (0, s), some (2, 4), some (0, 2), none]) c_36_25 rfl rfl (n_iconst c_36_27 (n_istore (L2 := [some (2, 50), some (0, 1), some (0, s), some (2, 4), some (0, 2), some (0, 0)]) c_36_28 rfl rfl (n_fg (le_s (le_s (le_s (le_s (le_s (le_s le_0)))))) ?_)))
  exact (takeS1_2_c hS hs 26).1 _ _ M4 hS4 (by omega) (by omega) (by omega)

set_option maxHeartbeats 4000000 in
theorem takeS2_2_c {xs : List Int32} {e : Nat} {ac : Int} {M0 M : nM} {s : Int} (hS : Sf 2 ac M0 M) (hs : -2147483648 ≤ s ∧ s ≤ 2147483647) : ∀ nn : Nat, (∀ (x4 x5 : Int) (M : nM), Sf 2 ac M0 M → (4 ≤ x4 ∧ x4 ≤ 4) → (0 ≤ x5 ∧ x5 ≤ 4) → (4 - x5) * 2 + 2 < (nn : Int) → nW xs (e + 1) 36 30 [some (2, 50), some (0, 2), some (0, s), some (2, 4), some (0, x4), some (0, x5)] [] M (nPV fun M1 => Sf 2 ac M0 M1)) ∧ (∀ (x4 x5 : Int) (M : nM), Sf 2 ac M0 M → (4 ≤ x4 ∧ x4 ≤ 4) → (0 ≤ x5 ∧ x5 ≤ 3) → (4 - x5) * 2 + 1 < (nn : Int) → nW xs (e + 1) 36 57 [some (2, 50), some (0, 2), some (0, s), some (2, 4), some (0, x4), some (0, x5)] [] M (nPV fun M1 => Sf 2 ac M0 M1)) := by
  have hd : (2 : Int) = 2 ∨ (2 : Int) = 3 := by decide
  have hac := hS.2.2.2.2
  intro nn
  induction nn with
  | zero => refine ⟨?_, ?_⟩ <;> (intros; omega)
  | succ nn ih =>
    refine ⟨?_, ?_⟩
    · intro x4 x5 M hS k4 k5 hnn
      refine n_iload c_36_30 rfl (n_iload c_36_32 rfl ?_)
      refine n_if2_ge c_36_34 (by omega) (by omega) ?_ ?_
      · intro h1
        exact n_rV c_36_63 rfl hS
      · intro h2
        refine n_iload_n c_36_37 rfl (n_iload c_36_38 rfl (n_i_ishr c_36_40 rfl ?_))
        have f3 := n_shr_r s x5
        generalize (n_shr s x5) = z4 at f3 ⊢
        refine n_iconst c_36_41 (n_i_iand c_36_42 rfl ?_)
        have f5 := n_and_y (x := z4) (y := 1) (by omega)
        generalize (n_and z4 1) = z6 at f5 ⊢
        refine n_if0_eq c_36_43 (by omega) ?_ ?_
        · intro h7
          refine n_fg (le_s (le_s (le_s (le_s (le_s (le_s le_0)))))) ?_
          exact ih.2 _ _ M hS (by omega) (by omega) (by omega)
        · intro h8
          refine n_aload_n c_36_46 rfl (n_aload_n c_36_47 rfl (n_iload c_36_48 rfl (n_iload_n c_36_50 rfl (n_v2I c_36_51 rfl sc_4.n rfl rfl rfl rfl (widen2_2 (n := x5) hS (by omega)) ?_))))
          intro z9 M10 hP11
          obtain ⟨eM, f11⟩ := hP11
          subst eM
          refine n_v1V c_36_54 rfl law50.c0.1.n rfl rfl rfl rfl (addWide_2 (r := z9) hS (by omega)) ?_
          intro  M12 hP13
          have hS12 := hP13
          refine n_fg (le_s (le_s (le_s (le_s (le_s (le_s le_0)))))) ?_
          exact ih.2 _ _ M12 hS12 (by omega) (by omega) (by omega)
    · intro x4 x5 M hS k4 k5 hnn
      refine n_iinc (L2 := [some (2, 50), some (0, 2), some (0, s), some (2, 4), some (0, x4), some (0, (x5 + 1))]) c_36_57 rfl rfl rfl (n_goto c_36_60 (n_fg (le_s (le_s (le_s (le_s (le_s (le_s le_0)))))) ?_))
      exact ih.1 _ _ M hS (by omega) (by omega) (by omega)
set_option maxHeartbeats 4000000 in
theorem takeS2_2 {xs : List Int32} {e : Nat} {ac : Int} {M0 M : nM} {s : Int} (hS : Sf 2 ac M0 M) (hs : -2147483648 ≤ s ∧ s ≤ 2147483647) : nW xs (e + 1) 36 0 [some (2, 50), some (0, 2), some (0, s), some (2, 4), none, none] [] M (nPV fun M1 => Sf 2 ac M0 M1) := by
  have hd : (2 : Int) = 2 ∨ (2 : Int) = 3 := by decide
  have hac := hS.2.2.2.2
  refine n_aload_n c_36_0 rfl (n_iload_n c_36_1 rfl (n_putV (bi := 0) hS c_36_2 law50.c0.1.n rfl rfl rfl rfl (w_50 (by omega) (by omega)) ?_))
  intro M1 eM1 hS1
  have g1_0 : M1 50 0 = 2 := by rw [eM1]; exact nu_s _ _ _ _
  refine n_aload_n c_36_5 rfl (n_iload_n c_36_6 rfl (n_putV (bi := 1) hS1 c_36_7 law50.c0.1.n rfl rfl rfl rfl (w_50 (by omega) (by omega)) ?_))
  intro M2 eM2 hS2
  have g2_0 : M2 50 0 = M1 50 0 := by rw [eM2]; exact nu_i (by omega)
  have g2_1 : M2 50 1 = s := by rw [eM2]; exact nu_s _ _ _ _
  refine n_aload_n c_36_10 rfl (n_iconst c_36_11 (n_putV (bi := 2) hS2 c_36_12 law50.c0.1.n rfl rfl rfl rfl (w_50 (by omega) (by omega)) ?_))
  intro M3 eM3 hS3
  have g3_0 : M3 50 0 = M2 50 0 := by rw [eM3]; exact nu_i (by omega)
  have g3_1 : M3 50 1 = M2 50 1 := by rw [eM3]; exact nu_i (by omega)
  have g3_2 : M3 50 2 = 0 := by rw [eM3]; exact nu_s _ _ _ _
  refine n_aload_n c_36_15 rfl (n_iconst c_36_16 (n_putV (bi := 3) hS3 c_36_17 law50.c0.1.n rfl rfl rfl rfl (w_50 (by omega) (by omega)) ?_))
  intro M4 eM4 hS4
  have g4_0 : M4 50 0 = M3 50 0 := by rw [eM4]; exact nu_i (by omega)
  have g4_1 : M4 50 1 = M3 50 1 := by rw [eM4]; exact nu_i (by omega)
  have g4_2 : M4 50 2 = M3 50 2 := by rw [eM4]; exact nu_i (by omega)
  have g4_3 : M4 50 3 = 0 := by rw [eM4]; exact nu_s _ _ _ _
  refine n_aload_n c_36_20 rfl (n_iload_n c_36_21 rfl (n_v1I c_36_22 rfl sc_4.n rfl rfl rfl rfl (power2_2  hS4 ) ?_))
  intro z5 M6 hP7
  obtain ⟨eM, f7⟩ := hP7
  subst eM
  obtain rfl : z5 = 4 := by omega
  refine n_istore (L2 := [some (2, 50), some (0, 2), some (0, s), some (2, 4), some (0, 4), none]) c_36_25 rfl rfl (n_iconst c_36_27 (n_istore (L2 := [some (2, 50), some (0, 2), some (0, s), some (2, 4), some (0, 4), some (0, 0)]) c_36_28 rfl rfl (n_fg (le_s (le_s (le_s (le_s (le_s (le_s le_0)))))) ?_)))
  exact (takeS2_2_c hS hs 34).1 _ _ M4 hS4 (by omega) (by omega) (by omega)

/-! The methods, by program. -/
set_option maxHeartbeats 4000000 in
theorem takeS3_2_c {xs : List Int32} {e : Nat} {ac : Int} {M0 M : nM} {s : Int} (hS : Sf 2 ac M0 M) (hs : -2147483648 ≤ s ∧ s ≤ 2147483647) : ∀ nn : Nat, (∀ (x4 x5 : Int) (M : nM), Sf 2 ac M0 M → (8 ≤ x4 ∧ x4 ≤ 8) → (0 ≤ x5 ∧ x5 ≤ 8) → (8 - x5) * 2 + 2 < (nn : Int) → nW xs (e + 1) 36 30 [some (2, 50), some (0, 3), some (0, s), some (2, 4), some (0, x4), some (0, x5)] [] M (nPV fun M1 => Sf 2 ac M0 M1)) ∧ (∀ (x4 x5 : Int) (M : nM), Sf 2 ac M0 M → (8 ≤ x4 ∧ x4 ≤ 8) → (0 ≤ x5 ∧ x5 ≤ 7) → (8 - x5) * 2 + 1 < (nn : Int) → nW xs (e + 1) 36 57 [some (2, 50), some (0, 3), some (0, s), some (2, 4), some (0, x4), some (0, x5)] [] M (nPV fun M1 => Sf 2 ac M0 M1)) := by
  have hd : (2 : Int) = 2 ∨ (2 : Int) = 3 := by decide
  have hac := hS.2.2.2.2
  intro nn
  induction nn with
  | zero => refine ⟨?_, ?_⟩ <;> (intros; omega)
  | succ nn ih =>
    refine ⟨?_, ?_⟩
    · intro x4 x5 M hS k4 k5 hnn
      refine n_iload c_36_30 rfl (n_iload c_36_32 rfl ?_)
      refine n_if2_ge c_36_34 (by omega) (by omega) ?_ ?_
      · intro h1
        exact n_rV c_36_63 rfl hS
      · intro h2
        refine n_iload_n c_36_37 rfl (n_iload c_36_38 rfl (n_i_ishr c_36_40 rfl ?_))
        have f3 := n_shr_r s x5
        generalize (n_shr s x5) = z4 at f3 ⊢
        refine n_iconst c_36_41 (n_i_iand c_36_42 rfl ?_)
        have f5 := n_and_y (x := z4) (y := 1) (by omega)
        generalize (n_and z4 1) = z6 at f5 ⊢
        refine n_if0_eq c_36_43 (by omega) ?_ ?_
        · intro h7
          refine n_fg (le_s (le_s (le_s (le_s (le_s (le_s le_0)))))) ?_
          exact ih.2 _ _ M hS (by omega) (by omega) (by omega)
        · intro h8
          refine n_aload_n c_36_46 rfl (n_aload_n c_36_47 rfl (n_iload c_36_48 rfl (n_iload_n c_36_50 rfl (n_v2I c_36_51 rfl sc_4.n rfl rfl rfl rfl (widen3_2 (n := x5) hS (by omega)) ?_))))
          intro z9 M10 hP11
          obtain ⟨eM, f11⟩ := hP11
          subst eM
          refine n_v1V c_36_54 rfl law50.c0.1.n rfl rfl rfl rfl (addWide_2 (r := z9) hS (by omega)) ?_
          intro  M12 hP13
          have hS12 := hP13
          refine n_fg (le_s (le_s (le_s (le_s (le_s (le_s le_0)))))) ?_
          exact ih.2 _ _ M12 hS12 (by omega) (by omega) (by omega)
    · intro x4 x5 M hS k4 k5 hnn
      refine n_iinc (L2 := [some (2, 50), some (0, 3), some (0, s), some (2, 4), some (0, x4), some (0, (x5 + 1))]) c_36_57 rfl rfl rfl (n_goto c_36_60 (n_fg (le_s (le_s (le_s (le_s (le_s (le_s le_0)))))) ?_))
      exact ih.1 _ _ M hS (by omega) (by omega) (by omega)
set_option maxHeartbeats 4000000 in
theorem takeS3_2 {xs : List Int32} {e : Nat} {ac : Int} {M0 M : nM} {s : Int} (hS : Sf 2 ac M0 M) (hs : -2147483648 ≤ s ∧ s ≤ 2147483647) : nW xs (e + 1) 36 0 [some (2, 50), some (0, 3), some (0, s), some (2, 4), none, none] [] M (nPV fun M1 => Sf 2 ac M0 M1) := by
  have hd : (2 : Int) = 2 ∨ (2 : Int) = 3 := by decide
  have hac := hS.2.2.2.2
  refine n_aload_n c_36_0 rfl (n_iload_n c_36_1 rfl (n_putV (bi := 0) hS c_36_2 law50.c0.1.n rfl rfl rfl rfl (w_50 (by omega) (by omega)) ?_))
  intro M1 eM1 hS1
  have g1_0 : M1 50 0 = 3 := by rw [eM1]; exact nu_s _ _ _ _
  refine n_aload_n c_36_5 rfl (n_iload_n c_36_6 rfl (n_putV (bi := 1) hS1 c_36_7 law50.c0.1.n rfl rfl rfl rfl (w_50 (by omega) (by omega)) ?_))
  intro M2 eM2 hS2
  have g2_0 : M2 50 0 = M1 50 0 := by rw [eM2]; exact nu_i (by omega)
  have g2_1 : M2 50 1 = s := by rw [eM2]; exact nu_s _ _ _ _
  refine n_aload_n c_36_10 rfl (n_iconst c_36_11 (n_putV (bi := 2) hS2 c_36_12 law50.c0.1.n rfl rfl rfl rfl (w_50 (by omega) (by omega)) ?_))
  intro M3 eM3 hS3
  have g3_0 : M3 50 0 = M2 50 0 := by rw [eM3]; exact nu_i (by omega)
  have g3_1 : M3 50 1 = M2 50 1 := by rw [eM3]; exact nu_i (by omega)
  have g3_2 : M3 50 2 = 0 := by rw [eM3]; exact nu_s _ _ _ _
  refine n_aload_n c_36_15 rfl (n_iconst c_36_16 (n_putV (bi := 3) hS3 c_36_17 law50.c0.1.n rfl rfl rfl rfl (w_50 (by omega) (by omega)) ?_))
  intro M4 eM4 hS4
  have g4_0 : M4 50 0 = M3 50 0 := by rw [eM4]; exact nu_i (by omega)
  have g4_1 : M4 50 1 = M3 50 1 := by rw [eM4]; exact nu_i (by omega)
  have g4_2 : M4 50 2 = M3 50 2 := by rw [eM4]; exact nu_i (by omega)
  have g4_3 : M4 50 3 = 0 := by rw [eM4]; exact nu_s _ _ _ _
  refine n_aload_n c_36_20 rfl (n_iload_n c_36_21 rfl (n_v1I c_36_22 rfl sc_4.n rfl rfl rfl rfl (power3_2  hS4 ) ?_))
  intro z5 M6 hP7
  obtain ⟨eM, f7⟩ := hP7
  subst eM
  obtain rfl : z5 = 8 := by omega
  refine n_istore (L2 := [some (2, 50), some (0, 3), some (0, s), some (2, 4), some (0, 8), none]) c_36_25 rfl rfl (n_iconst c_36_27 (n_istore (L2 := [some (2, 50), some (0, 3), some (0, s), some (2, 4), some (0, 8), some (0, 0)]) c_36_28 rfl rfl (n_fg (le_s (le_s (le_s (le_s (le_s (le_s le_0)))))) ?_)))
  exact (takeS3_2_c hS hs 50).1 _ _ M4 hS4 (by omega) (by omega) (by omega)

set_option maxHeartbeats 4000000 in
theorem takeS_2 {xs : List Int32} {e : Nat} {ac : Int} {M0 M : nM} {k s : Int} (hS : Sf 2 ac M0 M) (hk : 0 ≤ k ∧ k ≤ 3) (hs : -2147483648 ≤ s ∧ s ≤ 2147483647) : nW xs (e + 1) 36 0 [some (2, 50), some (0, k), some (0, s), some (2, 4), none, none] [] M (nPV fun M1 => Sf 2 ac M0 M1) := by
  rcases (show k = 0 ∨ k = 1 ∨ k = 2 ∨ k = 3 by omega) with rfl | rfl | rfl | rfl
  · exact n_post (takeS0_2 hS (by omega)) (fun w M1 h => h)
  · exact n_post (takeS1_2 hS (by omega)) (fun w M1 h => h)
  · exact n_post (takeS2_2 hS (by omega)) (fun w M1 h => h)
  · exact n_post (takeS3_2 hS (by omega)) (fun w M1 h => h)

set_option maxHeartbeats 4000000 in
theorem tried_2 {xs : List Int32} {e : Nat} {ac : Int} {M0 M : nM} {q a n : Int} (hS : Sf 2 ac M0 M) (hq : LawAt q) (ha : -2147483648 ≤ a ∧ a ≤ 2147483647) (hn : -2147483648 ≤ n ∧ n ≤ 2147483647) : nW xs (e + 1) 41 0 [some (2, q), some (0, a), some (0, n)] [] M (nPI fun z M1 => M = M1 ∧ (0 ≤ z ∧ z ≤ 27)) := by
  have hd : (2 : Int) = 2 ∨ (2 : Int) = 3 := by decide
  have hac := hS.2.2.2.2
  refine n_iload_n c_41_0 rfl (n_iload_n c_41_1 rfl ?_)
  refine n_if2_lt c_41_2 (by omega) (by omega) ?_ ?_
  · intro h1
    refine n_aload_n c_41_12 rfl (n_getV (bi := 3) c_41_13 hq.c0.1.n rfl rfl rfl (t_law hS hq).2.2.2 ?_)
    intro z2 ez2 f3
    refine n_iconst c_41_16 (n_s2I c_41_17 rfl rfl rfl rfl (imin_2 (x := z2) (y := 1) hS (by omega) (by omega)) ?_)
    intro z4 M5 hP6
    obtain ⟨eM, f6, f6p0⟩ := hP6
    subst eM
    exact n_rI c_41_20 rfl ⟨rfl, by omega⟩
  · intro h7
    refine n_aload_n c_41_5 rfl (n_getV (bi := 3) c_41_6 hq.c0.1.n rfl rfl rfl (t_law hS hq).2.2.2 ?_)
    intro z8 ez8 f9
    refine n_goto c_41_9 ?_
    exact n_rI c_41_20 rfl ⟨rfl, by omega⟩

set_option maxHeartbeats 4000000 in
theorem hasAllRows_2 {xs : List Int32} {e : Nat} {ac : Int} {M0 M : nM} {q : Int} (hS : Sf 2 ac M0 M) (hq : LawAt q) : nW xs (e + 1) 37 0 [some (2, q), some (2, 4)] [] M (nPI fun z M1 => M = M1 ∧ (0 ≤ z ∧ z ≤ 1)) := by
  have hd : (2 : Int) = 2 ∨ (2 : Int) = 3 := by decide
  have hac := hS.2.2.2.2
  refine n_aload_n c_37_0 rfl (n_getV (bi := 3) c_37_1 hq.c0.1.n rfl rfl rfl (t_law hS hq).2.2.2 ?_)
  intro z1 ez1 f2
  refine n_aload_n c_37_4 rfl (n_aload_n c_37_5 rfl (n_getV (bi := 0) c_37_6 hq.c0.1.n rfl rfl rfl (t_law hS hq).1 ?_))
  intro z3 ez3 f4
  refine n_v1I c_37_9 rfl sc_4.n rfl rfl rfl rfl (powerU_2 (n := z3) hS (by omega)) ?_
  intro z5 M6 hP7
  obtain ⟨eM, f7⟩ := hP7
  subst eM
  refine n_if2_ne c_37_12 (by omega) (by omega) ?_ ?_
  · intro h8
    refine n_iconst c_37_19 ?_
    exact n_rZ c_37_20 rfl (by omega) ⟨rfl, by omega⟩
  · intro h9
    refine n_iconst c_37_15 (n_goto c_37_16 ?_)
    exact n_rZ c_37_20 rfl (by omega) ⟨rfl, by omega⟩

set_option maxHeartbeats 4000000 in
theorem isKeptBy_2_c {xs : List Int32} {e : Nat} {ac : Int} {M0 M : nM} {q p : Int} (hS : Sf 2 ac M0 M) (hq : LawAt q) (hp : ActAt p) (hpl : p < 55 + 3 * ac) : ∀ nn : Nat, (∀ (x4 x5 x6 : Int) (M : nM), Sf 2 ac M0 M → (0 ≤ x4 ∧ x4 ≤ 27) → (0 ≤ x5 ∧ x5 ≤ 27) → (0 ≤ x6 ∧ x6 ≤ 27) → (27 - x6) * 871 + 871 < (nn : Int) → nW xs (e + 2) 38 25 [some (2, q), some (2, p), some (2, 4), some (2, 52), some (0, x4), some (0, x5), some (0, x6), none, none] [] M (nPI fun z M1 => Sf 2 ac M0 M1 ∧ (0 ≤ z ∧ z ≤ 1))) ∧ (∀ (x4 x5 x6 x7 : Int) (M : nM), Sf 2 ac M0 M → (1 ≤ x4 ∧ x4 ≤ 27) → (0 ≤ x5 ∧ x5 ≤ 27) → (0 ≤ x6 ∧ x6 ≤ 26) → (0 ≤ x7 ∧ x7 ≤ 27) → (27 - x6) * 871 + (27 - x7) * 30 + 30 < (nn : Int) → nW xs (e + 2) 38 35 [some (2, q), some (2, p), some (2, 4), some (2, 52), some (0, x4), some (0, x5), some (0, x6), some (0, x7), none] [] M (nPI fun z M1 => Sf 2 ac M0 M1 ∧ (0 ≤ z ∧ z ≤ 1))) ∧ (∀ (x4 x5 x6 x7 x8 : Int) (M : nM), Sf 2 ac M0 M → (1 ≤ x4 ∧ x4 ≤ 27) → (1 ≤ x5 ∧ x5 ≤ 27) → (0 ≤ x6 ∧ x6 ≤ 26) → (0 ≤ x7 ∧ x7 ≤ 26) → (0 ≤ x8 ∧ x8 ≤ 27) → (27 - x6) * 871 + (27 - x7) * 30 + (27 - x8) * 1 + 1 < (nn : Int) → nW xs (e + 2) 38 68 [some (2, q), some (2, p), some (2, 4), some (2, 52), some (0, x4), some (0, x5), some (0, x6), some (0, x7), some (0, x8)] [] M (nPI fun z M1 => Sf 2 ac M0 M1 ∧ (0 ≤ z ∧ z ≤ 1))) := by
  have hd : (2 : Int) = 2 ∨ (2 : Int) = 3 := by decide
  have hac := hS.2.2.2.2
  intro nn
  induction nn with
  | zero => refine ⟨?_, ?_, ?_⟩ <;> (intros; omega)
  | succ nn ih =>
    refine ⟨?_, ?_, ?_⟩
    · intro x4 x5 x6 M hS k4 k5 k6 hnn
      refine n_iload c_38_25 rfl (n_iload c_38_27 rfl ?_)
      refine n_if2_ge c_38_29 (by omega) (by omega) ?_ ?_
      · intro h1
        refine n_iconst c_38_119 ?_
        exact n_rZ c_38_120 rfl (by omega) ⟨hS, by omega⟩
      · intro h2
        refine n_iconst c_38_32 (n_istore (L2 := [some (2, q), some (2, p), some (2, 4), some (2, 52), some (0, x4), some (0, x5), some (0, x6), some (0, 0), none]) c_38_33 rfl rfl (n_fg (le_s (le_s (le_s (le_s (le_s (le_s (le_s (le_s (le_n le_0))))))))) ?_))
        exact ih.2.1 _ _ _ _ M hS (by omega) (by omega) (by omega) (by omega) (by omega)
    · intro x4 x5 x6 x7 M hS k4 k5 k6 k7 hnn
      refine n_iload c_38_35 rfl (n_iload c_38_37 rfl ?_)
      refine n_if2_ge c_38_39 (by omega) (by omega) ?_ ?_
      · intro h1
        refine n_iinc (L2 := [some (2, q), some (2, p), some (2, 4), some (2, 52), some (0, x4), some (0, x5), some (0, (x6 + 1)), some (0, x7), none]) c_38_113 rfl rfl rfl (n_goto c_38_116 (n_fg (le_s (le_s (le_s (le_s (le_s (le_s (le_s (le_n (le_n le_0))))))))) ?_))
        exact ih.1 _ _ _ M hS (by omega) (by omega) (by omega) (by omega)
      · intro h2
        refine n_aload_n c_38_42 rfl (n_aload_n c_38_43 rfl (n_aload_n c_38_44 rfl (n_getR c_38_45 hp.c0.1.n rfl rfl rfl hp.r.1 (n_aload_n c_38_48 rfl (n_getR c_38_49 hq.c0.1.n rfl rfl rfl hq.r (n_iload c_38_52 rfl (n_ialoadV c_38_54 hq.c0.2.n rfl rfl rfl (by omega) (t_lawr hS hq (by omega)) ?_)))))))
        intro z3 ez3 f4
        refine n_aload_n c_38_55 rfl (n_getR c_38_56 hq.c0.1.n rfl rfl rfl hq.r (n_iload c_38_59 rfl (n_ialoadV c_38_61 hq.c0.2.n rfl rfl rfl (by omega) (t_lawr hS hq (by omega)) ?_)))
        intro z5 ez5 f6
        refine n_v4V c_38_62 rfl sc_52.n rfl rfl rfl rfl (fillLT_2 (p := p) (i := z3) (j := z5) hS hp hpl (by omega) (by omega)) ?_
        intro  M7 hP8
        have hS7 := hP8
        refine n_iconst c_38_65 (n_istore (L2 := [some (2, q), some (2, p), some (2, 4), some (2, 52), some (0, x4), some (0, x5), some (0, x6), some (0, x7), some (0, 0)]) c_38_66 rfl rfl (n_fg (le_s (le_s (le_s (le_s (le_s (le_s (le_s (le_s (le_s le_0))))))))) ?_))
        exact ih.2.2 _ _ _ _ _ M7 hS7 (by omega) (by omega) (by omega) (by omega) (by omega) (by omega)
    · intro x4 x5 x6 x7 x8 M hS k4 k5 k6 k7 k8 hnn
      refine n_iload c_38_68 rfl (n_aload_n c_38_70 rfl (n_getV (bi := 3) c_38_71 hq.c0.1.n rfl rfl rfl (t_law hS hq).2.2.2 ?_))
      intro z1 ez1 f2
      refine n_if2_ge c_38_74 (by omega) (by omega) ?_ ?_
      · intro h3
        refine n_iinc (L2 := [some (2, q), some (2, p), some (2, 4), some (2, 52), some (0, x4), some (0, x5), some (0, x6), some (0, (x7 + 1)), some (0, x8)]) c_38_107 rfl rfl rfl (n_goto c_38_110 (n_fg (le_s (le_s (le_s (le_s (le_s (le_s (le_s (le_s (le_n le_0))))))))) ?_))
        exact ih.2.1 _ _ _ _ M hS (by omega) (by omega) (by omega) (by omega) (by omega)
      · intro h4
        refine n_aload_n c_38_77 rfl (n_getV (bi := 2) c_38_78 hq.c0.1.n rfl rfl rfl (t_law hS hq).2.2.1 ?_)
        intro z5 ez5 f6
        refine n_aload_n c_38_81 rfl (n_getR c_38_82 sc_52.n rfl rfl rfl r_52_0 (n_aload_n c_38_85 rfl (n_getR c_38_86 hq.c0.1.n rfl rfl rfl hq.r (n_iload c_38_89 rfl (n_ialoadV c_38_91 hq.c0.2.n rfl rfl rfl (by omega) (t_lawr hS hq (by omega)) ?_)))))
        intro z7 ez7 f8
        refine n_ialoadV c_38_92 sc_53.n rfl rfl rfl (by omega) (t_53 hS (by omega)) ?_
        intro z9 ez9 f10
        refine n_i_ishr c_38_93 rfl ?_
        have f11 := n_shr_r z5 z9
        generalize (n_shr z5 z9) = z12 at f11 ⊢
        refine n_iconst c_38_94 (n_i_iand c_38_95 rfl ?_)
        have f13 := n_and_y (x := z12) (y := 1) (by omega)
        generalize (n_and z12 1) = z14 at f13 ⊢
        refine n_if0_ne c_38_96 (by omega) ?_ ?_
        · intro h15
          refine n_iinc (L2 := [some (2, q), some (2, p), some (2, 4), some (2, 52), some (0, x4), some (0, x5), some (0, x6), some (0, x7), some (0, (x8 + 1))]) c_38_101 rfl rfl rfl (n_goto c_38_104 (n_fg (le_s (le_s (le_s (le_s (le_s (le_s (le_s (le_s (le_s le_0))))))))) ?_))
          exact ih.2.2 _ _ _ _ _ M hS (by omega) (by omega) (by omega) (by omega) (by omega) (by omega)
        · intro h16
          refine n_iconst c_38_99 ?_
          exact n_rZ c_38_100 rfl (by omega) ⟨hS, by omega⟩
set_option maxHeartbeats 4000000 in
theorem isKeptBy_2 {xs : List Int32} {e : Nat} {ac : Int} {M0 M : nM} {q p : Int} (hS : Sf 2 ac M0 M) (hq : LawAt q) (hp : ActAt p) (hpl : p < 55 + 3 * ac) : nW xs (e + 2) 38 0 [some (2, q), some (2, p), some (2, 4), some (2, 52), none, none, none, none, none] [] M (nPI fun z M1 => Sf 2 ac M0 M1 ∧ (0 ≤ z ∧ z ≤ 1)) := by
  have hd : (2 : Int) = 2 ∨ (2 : Int) = 3 := by decide
  have hac := hS.2.2.2.2
  refine n_aload_n c_38_0 rfl (n_aload_n c_38_1 rfl (n_getV (bi := 0) c_38_2 hp.c0.1.n rfl rfl rfl (t_actl hS hp hpl).1 ?_))
  intro z1 ez1 f2
  refine n_iconst c_38_5 (n_v2I c_38_6 rfl hq.c0.1.n rfl rfl rfl rfl (tried_2 (q := q) (a := z1) (n := 3) hS hq (by omega) (by omega)) ?_)
  intro z3 M4 hP5
  obtain ⟨eM, f5⟩ := hP5
  subst eM
  refine n_istore (L2 := [some (2, q), some (2, p), some (2, 4), some (2, 52), some (0, z3), none, none, none, none]) c_38_9 rfl rfl (n_aload_n c_38_11 rfl (n_aload_n c_38_12 rfl (n_getV (bi := 0) c_38_13 hp.c0.1.n rfl rfl rfl (t_actl hS hp hpl).1 ?_)))
  intro z6 ez6 f7
  refine n_iconst c_38_16 (n_v2I c_38_17 rfl hq.c0.1.n rfl rfl rfl rfl (tried_2 (q := q) (a := z6) (n := 2) hS hq (by omega) (by omega)) ?_)
  intro z8 M9 hP10
  obtain ⟨eM, f10⟩ := hP10
  subst eM
  refine n_istore (L2 := [some (2, q), some (2, p), some (2, 4), some (2, 52), some (0, z3), some (0, z8), none, none, none]) c_38_20 rfl rfl (n_iconst c_38_22 (n_istore (L2 := [some (2, q), some (2, p), some (2, 4), some (2, 52), some (0, z3), some (0, z8), some (0, 0), none, none]) c_38_23 rfl rfl (n_fg (le_s (le_s (le_s (le_s (le_s (le_s (le_s (le_n (le_n le_0))))))))) ?_)))
  exact (isKeptBy_2_c hS hq hp hpl 50528).1 _ _ _ M hS (by omega) (by omega) (by omega) (by omega)

set_option maxHeartbeats 4000000 in
theorem growsBy_2_c {xs : List Int32} {e : Nat} {ac : Int} {M0 M : nM} {p : Int} (hS : Sf 2 ac M0 M) (hp : ActAt p) (hpl : p < 55 + 3 * ac) : ∀ nn : Nat, (∀ (x4 x5 x6 x7 : Int) (M : nM), Sf 2 ac M0 M → (0 ≤ x4 ∧ x4 ≤ 27) → (0 ≤ x5 ∧ x5 ≤ 27) → (0 ≤ x6 ∧ x6 ≤ 27) → (0 ≤ x7 ∧ x7 ≤ 27) → (27 - x7) * 871 + 871 < (nn : Int) → nW xs (e + 2) 39 31 [some (2, 50), some (2, p), some (2, 4), some (2, 52), some (0, x4), some (0, x5), some (0, x6), some (0, x7), none, none] [] M (nPI fun z M1 => Sf 2 ac M0 M1 ∧ (0 ≤ z ∧ z ≤ 1))) ∧ (∀ (x4 x5 x6 x7 x8 : Int) (M : nM), Sf 2 ac M0 M → (0 ≤ x4 ∧ x4 ≤ 27) → (1 ≤ x5 ∧ x5 ≤ 27) → (0 ≤ x6 ∧ x6 ≤ 27) → (0 ≤ x7 ∧ x7 ≤ 26) → (0 ≤ x8 ∧ x8 ≤ 27) → (27 - x7) * 871 + (27 - x8) * 30 + 30 < (nn : Int) → nW xs (e + 2) 39 41 [some (2, 50), some (2, p), some (2, 4), some (2, 52), some (0, x4), some (0, x5), some (0, x6), some (0, x7), some (0, x8), none] [] M (nPI fun z M1 => Sf 2 ac M0 M1 ∧ (0 ≤ z ∧ z ≤ 1))) ∧ (∀ (x4 x5 x6 x7 x8 x9 : Int) (M : nM), Sf 2 ac M0 M → (0 ≤ x4 ∧ x4 ≤ 27) → (1 ≤ x5 ∧ x5 ≤ 27) → (1 ≤ x6 ∧ x6 ≤ 27) → (0 ≤ x7 ∧ x7 ≤ 26) → (0 ≤ x8 ∧ x8 ≤ 26) → (0 ≤ x9 ∧ x9 ≤ 27) → (27 - x7) * 871 + (27 - x8) * 30 + (27 - x9) * 1 + 1 < (nn : Int) → nW xs (e + 2) 39 74 [some (2, 50), some (2, p), some (2, 4), some (2, 52), some (0, x4), some (0, x5), some (0, x6), some (0, x7), some (0, x8), some (0, x9)] [] M (nPI fun z M1 => Sf 2 ac M0 M1 ∧ (0 ≤ z ∧ z ≤ 1))) := by
  have hd : (2 : Int) = 2 ∨ (2 : Int) = 3 := by decide
  have hac := hS.2.2.2.2
  intro nn
  induction nn with
  | zero => refine ⟨?_, ?_, ?_⟩ <;> (intros; omega)
  | succ nn ih =>
    refine ⟨?_, ?_, ?_⟩
    · intro x4 x5 x6 x7 M hS k4 k5 k6 k7 hnn
      refine n_iload c_39_31 rfl (n_iload c_39_33 rfl ?_)
      refine n_if2_ge c_39_35 (by omega) (by omega) ?_ ?_
      · intro h1
        refine n_aload_n c_39_115 rfl (n_getV (bi := 3) c_39_116 law50.c0.1.n rfl rfl rfl (t_law hS law50).2.2.2 ?_)
        intro z2 ez2 f3
        refine n_iload c_39_119 rfl ?_
        refine n_if2_le c_39_121 (by omega) (by omega) ?_ ?_
        · intro h4
          refine n_iconst c_39_128 ?_
          exact n_rZ c_39_129 rfl (by omega) ⟨hS, by omega⟩
        · intro h5
          refine n_iconst c_39_124 (n_goto c_39_125 ?_)
          exact n_rZ c_39_129 rfl (by omega) ⟨hS, by omega⟩
      · intro h6
        refine n_iconst c_39_38 (n_istore (L2 := [some (2, 50), some (2, p), some (2, 4), some (2, 52), some (0, x4), some (0, x5), some (0, x6), some (0, x7), some (0, 0), none]) c_39_39 rfl rfl (n_fg (le_s (le_s (le_s (le_s (le_s (le_s (le_s (le_s (le_s (le_n le_0)))))))))) ?_))
        exact ih.2.1 _ _ _ _ _ M hS (by omega) (by omega) (by omega) (by omega) (by omega) (by omega)
    · intro x4 x5 x6 x7 x8 M hS k4 k5 k6 k7 k8 hnn
      refine n_iload c_39_41 rfl (n_iload c_39_43 rfl ?_)
      refine n_if2_ge c_39_45 (by omega) (by omega) ?_ ?_
      · intro h1
        refine n_iinc (L2 := [some (2, 50), some (2, p), some (2, 4), some (2, 52), some (0, x4), some (0, x5), some (0, x6), some (0, (x7 + 1)), some (0, x8), none]) c_39_109 rfl rfl rfl (n_goto c_39_112 (n_fg (le_s (le_s (le_s (le_s (le_s (le_s (le_s (le_s (le_n (le_n le_0)))))))))) ?_))
        exact ih.1 _ _ _ _ M hS (by omega) (by omega) (by omega) (by omega) (by omega)
      · intro h2
        refine n_aload_n c_39_48 rfl (n_aload_n c_39_49 rfl (n_aload_n c_39_50 rfl (n_getR c_39_51 hp.c0.1.n rfl rfl rfl hp.r.1 (n_aload_n c_39_54 rfl (n_getR c_39_55 law50.c0.1.n rfl rfl rfl law50.r (n_iload c_39_58 rfl (n_ialoadV c_39_60 law50.c0.2.n rfl rfl rfl (by omega) (t_lawr hS law50 (by omega)) ?_)))))))
        intro z3 ez3 f4
        refine n_aload_n c_39_61 rfl (n_getR c_39_62 law50.c0.1.n rfl rfl rfl law50.r (n_iload c_39_65 rfl (n_ialoadV c_39_67 law50.c0.2.n rfl rfl rfl (by omega) (t_lawr hS law50 (by omega)) ?_)))
        intro z5 ez5 f6
        refine n_v4V c_39_68 rfl sc_52.n rfl rfl rfl rfl (fillLT_2 (p := p) (i := z3) (j := z5) hS hp hpl (by omega) (by omega)) ?_
        intro  M7 hP8
        have hS7 := hP8
        refine n_iconst c_39_71 (n_istore (L2 := [some (2, 50), some (2, p), some (2, 4), some (2, 52), some (0, x4), some (0, x5), some (0, x6), some (0, x7), some (0, x8), some (0, 0)]) c_39_72 rfl rfl (n_fg (le_s (le_s (le_s (le_s (le_s (le_s (le_s (le_s (le_s (le_s le_0)))))))))) ?_))
        exact ih.2.2 _ _ _ _ _ _ M7 hS7 (by omega) (by omega) (by omega) (by omega) (by omega) (by omega) (by omega)
    · intro x4 x5 x6 x7 x8 x9 M hS k4 k5 k6 k7 k8 k9 hnn
      refine n_iload c_39_74 rfl (n_iload c_39_76 rfl ?_)
      refine n_if2_ge c_39_78 (by omega) (by omega) ?_ ?_
      · intro h1
        refine n_iinc (L2 := [some (2, 50), some (2, p), some (2, 4), some (2, 52), some (0, x4), some (0, x5), some (0, x6), some (0, x7), some (0, (x8 + 1)), some (0, x9)]) c_39_103 rfl rfl rfl (n_goto c_39_106 (n_fg (le_s (le_s (le_s (le_s (le_s (le_s (le_s (le_s (le_s (le_n le_0)))))))))) ?_))
        exact ih.2.1 _ _ _ _ _ M hS (by omega) (by omega) (by omega) (by omega) (by omega) (by omega)
      · intro h2
        refine n_aload_n c_39_81 rfl (n_aload_n c_39_82 rfl (n_getR c_39_83 sc_52.n rfl rfl rfl r_52_0 (n_aload_n c_39_86 rfl (n_getR c_39_87 law50.c0.1.n rfl rfl rfl law50.r (n_iload c_39_90 rfl (n_ialoadV c_39_92 law50.c0.2.n rfl rfl rfl (by omega) (t_lawr hS law50 (by omega)) ?_))))))
        intro z3 ez3 f4
        refine n_ialoadV c_39_93 sc_53.n rfl rfl rfl (by omega) (t_53 hS (by omega)) ?_
        intro z5 ez5 f6
        refine n_v1V c_39_94 rfl law50.c0.1.n rfl rfl rfl rfl (addWide_2 (r := z5) hS (by omega)) ?_
        intro  M7 hP8
        have hS7 := hP8
        refine n_iinc (L2 := [some (2, 50), some (2, p), some (2, 4), some (2, 52), some (0, x4), some (0, x5), some (0, x6), some (0, x7), some (0, x8), some (0, (x9 + 1))]) c_39_97 rfl rfl rfl (n_goto c_39_100 (n_fg (le_s (le_s (le_s (le_s (le_s (le_s (le_s (le_s (le_s (le_s le_0)))))))))) ?_))
        exact ih.2.2 _ _ _ _ _ _ M7 hS7 (by omega) (by omega) (by omega) (by omega) (by omega) (by omega) (by omega)
set_option maxHeartbeats 4000000 in
theorem growsBy_2 {xs : List Int32} {e : Nat} {ac : Int} {M0 M : nM} {p : Int} (hS : Sf 2 ac M0 M) (hp : ActAt p) (hpl : p < 55 + 3 * ac) : nW xs (e + 2) 39 0 [some (2, 50), some (2, p), some (2, 4), some (2, 52), none, none, none, none, none, none] [] M (nPI fun z M1 => Sf 2 ac M0 M1 ∧ (0 ≤ z ∧ z ≤ 1)) := by
  have hd : (2 : Int) = 2 ∨ (2 : Int) = 3 := by decide
  have hac := hS.2.2.2.2
  refine n_aload_n c_39_0 rfl (n_getV (bi := 3) c_39_1 law50.c0.1.n rfl rfl rfl (t_law hS law50).2.2.2 ?_)
  intro z1 ez1 f2
  refine n_istore (L2 := [some (2, 50), some (2, p), some (2, 4), some (2, 52), some (0, z1), none, none, none, none, none]) c_39_4 rfl rfl (n_aload_n c_39_6 rfl (n_aload_n c_39_7 rfl (n_getV (bi := 0) c_39_8 hp.c0.1.n rfl rfl rfl (t_actl hS hp hpl).1 ?_)))
  intro z3 ez3 f4
  refine n_iconst c_39_11 (n_v2I c_39_12 rfl law50.c0.1.n rfl rfl rfl rfl (tried_2 (q := 50) (a := z3) (n := 3) hS law50 (by omega) (by omega)) ?_)
  intro z5 M6 hP7
  obtain ⟨eM, f7⟩ := hP7
  subst eM
  refine n_istore (L2 := [some (2, 50), some (2, p), some (2, 4), some (2, 52), some (0, z1), some (0, z5), none, none, none, none]) c_39_15 rfl rfl (n_aload_n c_39_17 rfl (n_aload_n c_39_18 rfl (n_getV (bi := 0) c_39_19 hp.c0.1.n rfl rfl rfl (t_actl hS hp hpl).1 ?_)))
  intro z8 ez8 f9
  refine n_iconst c_39_22 (n_v2I c_39_23 rfl law50.c0.1.n rfl rfl rfl rfl (tried_2 (q := 50) (a := z8) (n := 2) hS law50 (by omega) (by omega)) ?_)
  intro z10 M11 hP12
  obtain ⟨eM, f12⟩ := hP12
  subst eM
  refine n_istore (L2 := [some (2, 50), some (2, p), some (2, 4), some (2, 52), some (0, z1), some (0, z5), some (0, z10), none, none, none]) c_39_26 rfl rfl (n_iconst c_39_28 (n_istore (L2 := [some (2, 50), some (2, p), some (2, 4), some (2, 52), some (0, z1), some (0, z5), some (0, z10), some (0, 0), none, none]) c_39_29 rfl rfl (n_fg (le_s (le_s (le_s (le_s (le_s (le_s (le_s (le_s (le_n (le_n le_0)))))))))) ?_)))
  exact (growsBy_2_c hS hp hpl 50528).1 _ _ _ _ M hS (by omega) (by omega) (by omega) (by omega) (by omega)

set_option maxHeartbeats 4000000 in
theorem narrowSet_2_c {xs : List Int32} {e : Nat} {ac : Int} {M0 M : nM} (hS : Sf 2 ac M0 M)  : ∀ nn : Nat, (∀ (x2 x3 x4 : Int), (0 ≤ x2 ∧ x2 ≤ 255) → (1 ≤ x3 ∧ x3 ≤ 8) → (0 ≤ x4 ∧ x4 ≤ 8) → (8 - x4) * 2 + 2 < (nn : Int) → nW xs (e + 1) 40 14 [some (2, 50), some (2, 4), some (0, x2), some (0, x3), some (0, x4)] [] M (nPI fun z M1 => M = M1 ∧ (-2147483648 ≤ z ∧ z ≤ 2147483647))) ∧ (∀ (x2 x3 x4 : Int), (0 ≤ x2 ∧ x2 ≤ 255) → (1 ≤ x3 ∧ x3 ≤ 8) → (0 ≤ x4 ∧ x4 ≤ 7) → (8 - x4) * 2 + 1 < (nn : Int) → nW xs (e + 1) 40 47 [some (2, 50), some (2, 4), some (0, x2), some (0, x3), some (0, x4)] [] M (nPI fun z M1 => M = M1 ∧ (-2147483648 ≤ z ∧ z ≤ 2147483647))) := by
  have hd : (2 : Int) = 2 ∨ (2 : Int) = 3 := by decide
  have hac := hS.2.2.2.2
  intro nn
  induction nn with
  | zero => refine ⟨?_, ?_⟩ <;> (intros; omega)
  | succ nn ih =>
    refine ⟨?_, ?_⟩
    · intro x2 x3 x4 k2 k3 k4 hnn
      refine n_iload c_40_14 rfl (n_iload_n c_40_16 rfl ?_)
      refine n_if2_ge c_40_17 (by omega) (by omega) ?_ ?_
      · intro h1
        refine n_iload_n c_40_53 rfl ?_
        exact n_rI c_40_54 rfl ⟨rfl, by omega⟩
      · intro h2
        refine n_aload_n c_40_20 rfl (n_getV (bi := 2) c_40_21 law50.c0.1.n rfl rfl rfl (t_law hS law50).2.2.1 ?_)
        intro z3 ez3 f4
        refine n_aload_n c_40_24 rfl (n_iload c_40_25 rfl (n_aload_n c_40_27 rfl (n_getV (bi := 0) c_40_28 law50.c0.1.n rfl rfl rfl (t_law hS law50).1 ?_)))
        intro z5 ez5 f6
        refine n_v2I c_40_31 rfl sc_4.n rfl rfl rfl rfl (widenW_2 (n := x4) (p := z5) hS (by omega) (by omega)) ?_
        intro z7 M8 hP9
        obtain ⟨eM, f9⟩ := hP9
        subst eM
        refine n_i_ishr c_40_34 rfl ?_
        have f10 := n_shr_r z3 z7
        generalize (n_shr z3 z7) = z11 at f10 ⊢
        refine n_iconst c_40_35 (n_i_iand c_40_36 rfl ?_)
        have f12 := n_and_y (x := z11) (y := 1) (by omega)
        generalize (n_and z11 1) = z13 at f12 ⊢
        refine n_if0_eq c_40_37 (by omega) ?_ ?_
        · intro h14
          refine n_fg (le_s (le_s (le_s (le_s (le_s le_0))))) ?_
          exact ih.2 _ _ _ (by omega) (by omega) (by omega) (by omega)
        · intro h15
          refine n_iload_n c_40_40 rfl (n_iconst c_40_41 (n_iload c_40_42 rfl (n_i_ishl c_40_44 rfl ?_)))
          have f16 := n_shl_1 (y := x4) (a := 0) (b := 7) (by decide) (by omega)
          generalize (n_shl 1 x4) = z17 at f16 ⊢
          refine n_i_ior c_40_45 rfl ?_
          have f18 := n_or_k (x := x2) (y := z17) (n := 8) (by decide) (by omega) (by omega)
          generalize (n_or x2 z17) = z19 at f18 ⊢
          refine n_istore_n (L2 := [some (2, 50), some (2, 4), some (0, z19), some (0, x3), some (0, x4)]) c_40_46 rfl rfl (n_fg (le_s (le_s (le_s (le_s (le_s le_0))))) ?_)
          exact ih.2 _ _ _ (by omega) (by omega) (by omega) (by omega)
    · intro x2 x3 x4 k2 k3 k4 hnn
      refine n_iinc (L2 := [some (2, 50), some (2, 4), some (0, x2), some (0, x3), some (0, (x4 + 1))]) c_40_47 rfl rfl rfl (n_goto c_40_50 (n_fg (le_s (le_s (le_s (le_s (le_s le_0))))) ?_))
      exact ih.1 _ _ _ (by omega) (by omega) (by omega) (by omega)
set_option maxHeartbeats 4000000 in
theorem narrowSet_2 {xs : List Int32} {e : Nat} {ac : Int} {M0 M : nM} (hS : Sf 2 ac M0 M)  : nW xs (e + 1) 40 0 [some (2, 50), some (2, 4), none, none, none] [] M (nPI fun z M1 => M = M1 ∧ (-2147483648 ≤ z ∧ z ≤ 2147483647)) := by
  have hd : (2 : Int) = 2 ∨ (2 : Int) = 3 := by decide
  have hac := hS.2.2.2.2
  refine n_iconst c_40_0 (n_istore_n (L2 := [some (2, 50), some (2, 4), some (0, 0), none, none]) c_40_1 rfl rfl (n_aload_n c_40_2 rfl (n_aload_n c_40_3 rfl (n_getV (bi := 0) c_40_4 law50.c0.1.n rfl rfl rfl (t_law hS law50).1 ?_))))
  intro z1 ez1 f2
  refine n_v1I c_40_7 rfl sc_4.n rfl rfl rfl rfl (powerU_2 (n := z1) hS (by omega)) ?_
  intro z3 M4 hP5
  obtain ⟨eM, f5⟩ := hP5
  subst eM
  refine n_istore_n (L2 := [some (2, 50), some (2, 4), some (0, 0), some (0, z3), none]) c_40_10 rfl rfl (n_iconst c_40_11 (n_istore (L2 := [some (2, 50), some (2, 4), some (0, 0), some (0, z3), some (0, 0)]) c_40_12 rfl rfl (n_fg (le_s (le_s (le_s (le_s (le_s le_0))))) ?_)))
  exact (narrowSet_2_c hS  50).1 _ _ _ (by omega) (by omega) (by omega) (by omega)

set_option maxHeartbeats 4000000 in
theorem nthBit46_2_c {xs : List Int32} {e : Nat} {ac : Int} {M0 M : nM} {w n : Int} (hS : Sf 2 ac M0 M) (hw : -9223372036854775808 ≤ w ∧ w ≤ 9223372036854775807) (hn : -2147483648 ≤ n ∧ n ≤ 2147483647) : ∀ nn : Nat, (∀ (x4 x5 : Int), (-2147483648 ≤ x4 ∧ x4 ≤ 2147483647) → (0 ≤ x5 ∧ x5 ≤ 64) → (64 - x5) * 2 + 2 < (nn : Int) → nW xs e 34 6 [none, some (1, w), none, none, some (0, x4), some (0, x5)] [] M (nPI fun z M1 => M = M1 ∧ (-2147483648 ≤ z ∧ z ≤ 2147483647))) ∧ (∀ (x4 x5 : Int), (-2147483648 ≤ x4 ∧ x4 ≤ 2147483647) → (0 ≤ x5 ∧ x5 ≤ 63) → (64 - x5) * 2 + 1 < (nn : Int) → nW xs e 34 35 [none, some (1, w), none, none, some (0, x4), some (0, x5)] [] M (nPI fun z M1 => M = M1 ∧ (-2147483648 ≤ z ∧ z ≤ 2147483647))) := by
  have hd : (2 : Int) = 2 ∨ (2 : Int) = 3 := by decide
  have hac := hS.2.2.2.2
  intro nn
  induction nn with
  | zero => refine ⟨?_, ?_⟩ <;> (intros; omega)
  | succ nn ih =>
    refine ⟨?_, ?_⟩
    · intro x4 x5 k4 k5 hnn
      refine n_iload c_34_6 rfl (n_bipush c_34_8 rfl ?_)
      refine n_if2_ge c_34_10 (by omega) (by omega) ?_ ?_
      · intro h1
        refine n_iconst c_34_41 ?_
        exact n_rI c_34_42 rfl ⟨rfl, by omega⟩
      · intro h2
        refine n_lload_n c_34_13 rfl (n_iload c_34_14 rfl (n_i_lushr c_34_16 rfl ?_))
        have f3 := n_lushr_r w x5
        generalize (n_lushr w x5) = z4 at f3 ⊢
        refine n_lconst (n := 1) c_34_17 rfl (n_i_land c_34_18 rfl ?_)
        have f5 := n_land_r z4 1
        generalize (n_land z4 1) = z6 at f5 ⊢
        refine n_lconst (n := 0) c_34_19 rfl (n_lcmp c_34_20 ?_)
        refine n_lif_eq c_34_21 (by omega) (by omega) ?_ ?_
        · intro h7
          refine n_fg (le_n (le_s (le_n (le_n (le_s (le_s le_0)))))) ?_
          exact ih.2 _ _ (by omega) (by omega) (by omega)
        · intro h8
          refine n_iload c_34_24 rfl ?_
          refine n_if0_ne c_34_26 (by omega) ?_ ?_
          · intro h9
            refine n_iincW (L2 := [none, some (1, w), none, none, some (0, n_wr (x4 + (-1))), some (0, x5)]) c_34_32 rfl rfl ?_
            have f10 := n_wr_r (x4 + (-1))
            generalize n_wr (x4 + (-1)) = z11 at f10 ⊢
            refine n_fg (le_n (le_s (le_n (le_n (le_s (le_s le_0)))))) ?_
            exact ih.2 _ _ (by omega) (by omega) (by omega)
          · intro h12
            refine n_iload c_34_29 rfl ?_
            exact n_rI c_34_31 rfl ⟨rfl, by omega⟩
    · intro x4 x5 k4 k5 hnn
      refine n_iinc (L2 := [none, some (1, w), none, none, some (0, x4), some (0, (x5 + 1))]) c_34_35 rfl rfl rfl (n_goto c_34_38 (n_fg (le_n (le_s (le_n (le_n (le_s (le_s le_0)))))) ?_))
      exact ih.1 _ _ (by omega) (by omega) (by omega)
set_option maxHeartbeats 4000000 in
theorem nthBit46_2 {xs : List Int32} {e : Nat} {ac : Int} {M0 M : nM} {w n : Int} (hS : Sf 2 ac M0 M) (hw : -9223372036854775808 ≤ w ∧ w ≤ 9223372036854775807) (hn : -2147483648 ≤ n ∧ n ≤ 2147483647) : nW xs e 34 0 [some (2, 46), some (1, w), none, some (0, n), none, none] [] M (nPI fun z M1 => M = M1 ∧ (-2147483648 ≤ z ∧ z ≤ 2147483647)) := by
  have hd : (2 : Int) = 2 ∨ (2 : Int) = 3 := by decide
  have hac := hS.2.2.2.2
  refine n_iload_n c_34_0 rfl (n_istore (L2 := [some (2, 46), some (1, w), none, some (0, n), some (0, n), none]) c_34_1 rfl rfl (n_iconst c_34_3 (n_istore (L2 := [some (2, 46), some (1, w), none, some (0, n), some (0, n), some (0, 0)]) c_34_4 rfl rfl (n_fg (le_n (le_s (le_n (le_n (le_s (le_s le_0)))))) ?_))))
  exact (nthBit46_2_c hS hw hn 274).1 _ _ (by omega) (by omega) (by omega)

set_option maxHeartbeats 4000000 in
theorem nth46_2_c {xs : List Int32} {e : Nat} {ac : Int} {M0 M : nM} {i : Int} (hS : Sf 2 ac M0 M) (hi : -2147483648 ≤ i ∧ i ≤ 2147483647) : ∀ nn : Nat, (311 < (nn : Int) → nW xs (e + 1) 33 12 [none, none, none, none, none] [] M (nPI fun z M1 => M = M1 ∧ (-2147483648 ≤ z ∧ z ≤ 2147483647))) ∧ (∀ (x2 x3 : Int), (-127 ≤ x2 ∧ x2 ≤ 2147483646) → (0 ≤ x3 ∧ x3 ≤ 308) → (308 - x3) * 1 + 1 < (nn : Int) → nW xs (e + 1) 33 18 [some (2, 46), none, some (0, x2), some (0, x3), none] [] M (nPI fun z M1 => M = M1 ∧ (-2147483648 ≤ z ∧ z ≤ 2147483647))) := by
  have hd : (2 : Int) = 2 ∨ (2 : Int) = 3 := by decide
  have hac := hS.2.2.2.2
  intro nn
  induction nn with
  | zero => refine ⟨?_, ?_⟩ <;> (intros; omega)
  | succ nn ih =>
    refine ⟨?_, ?_⟩
    · intro hnn
      refine n_iconst c_33_12 ?_
      exact n_rI c_33_13 rfl ⟨rfl, by omega⟩
    · intro x2 x3 k2 k3 hnn
      refine n_iload_n c_33_18 rfl (n_aload_n c_33_19 rfl (n_getR c_33_20 sc_46.n rfl rfl rfl r_46_0 (n_alen c_33_23 sc_47.n rfl ?_)))
      refine n_if2_ge c_33_24 (by omega) (by omega) ?_ ?_
      · intro h1
        refine n_iconst c_33_72 ?_
        exact n_rI c_33_73 rfl ⟨rfl, by omega⟩
      · intro h2
        refine n_aload_n c_33_27 rfl (n_getR c_33_28 sc_46.n rfl rfl rfl r_46_0 (n_iload_n c_33_31 rfl (n_laloadV c_33_32 sc_47.n rfl rfl rfl (by omega) (t_47 hS (by omega)) ?_)))
        intro z3 ez3 f4
        refine n_s1I c_33_33 rfl rfl rfl rfl (lbits_2 (x := z3) hS (by omega)) ?_
        intro z5 M6 hP7
        obtain ⟨eM, f7⟩ := hP7
        subst eM
        refine n_istore (L2 := [some (2, 46), none, some (0, x2), some (0, x3), some (0, z5)]) c_33_36 rfl rfl (n_iload_n c_33_38 rfl (n_iload c_33_39 rfl ?_))
        refine n_if2_ge c_33_41 (by omega) (by omega) ?_ ?_
        · intro h8
          refine n_iload_n c_33_61 rfl (n_iload c_33_62 rfl (n_isub c_33_64 rfl (n_istore_n (L2 := [some (2, 46), none, some (0, (x2 - z5)), some (0, x3), some (0, z5)]) c_33_65 rfl rfl (n_iinc (L2 := [some (2, 46), none, some (0, (x2 - z5)), some (0, (x3 + 1)), some (0, z5)]) c_33_66 rfl rfl rfl (n_goto c_33_69 (n_fg (le_s (le_n (le_s (le_s (le_n le_0))))) ?_))))))
          exact ih.2 _ _ (by omega) (by omega) (by omega)
        · intro h9
          refine n_iload_n c_33_44 rfl (n_bipush c_33_45 rfl (n_imul c_33_47 rfl (n_aload_n c_33_48 rfl (n_aload_n c_33_49 rfl (n_getR c_33_50 sc_46.n rfl rfl rfl r_46_0 (n_iload_n c_33_53 rfl (n_laloadV c_33_54 sc_47.n rfl rfl rfl (by omega) (t_47 hS (by omega)) ?_)))))))
          intro z10 ez10 f11
          refine n_iload_n c_33_55 rfl (n_v2I c_33_56 rfl sc_46.n rfl rfl rfl rfl (nthBit46_2 (w := z10) (n := x2) hS (by omega) (by omega)) ?_)
          intro z12 M13 hP14
          obtain ⟨eM, f14⟩ := hP14
          subst eM
          refine n_iadd c_33_59 rfl (n_wrap ?_)
          have f15 := n_wr_r ((x3 * 64) + z12)
          generalize n_wr ((x3 * 64) + z12) = z16 at f15 ⊢
          exact n_rI c_33_60 rfl ⟨rfl, by omega⟩
set_option maxHeartbeats 4000000 in
theorem nth46_2 {xs : List Int32} {e : Nat} {ac : Int} {M0 M : nM} {i : Int} (hS : Sf 2 ac M0 M) (hi : -2147483648 ≤ i ∧ i ≤ 2147483647) : nW xs (e + 1) 33 0 [some (2, 46), some (0, i), none, none, none] [] M (nPI fun z M1 => M = M1 ∧ (-2147483648 ≤ z ∧ z ≤ 2147483647)) := by
  have hd : (2 : Int) = 2 ∨ (2 : Int) = 3 := by decide
  have hac := hS.2.2.2.2
  refine n_iload_n c_33_0 rfl ?_
  refine n_if0_lt c_33_1 (by omega) ?_ ?_
  · intro h1
    refine n_fg (le_n (le_n (le_n (le_n (le_n le_0))))) ?_
    exact (nth46_2_c hS hi 632).1   (by omega)
  · intro h2
    refine n_iload_n c_33_4 rfl (n_aload_n c_33_5 rfl (n_getV (bi := 1) c_33_6 sc_46.n rfl rfl rfl (t_46_1 hS) ?_))
    intro z3 ez3 f4
    refine n_if2_lt c_33_9 (by omega) (by omega) ?_ ?_
    · intro h5
      refine n_iload_n c_33_14 rfl (n_istore_n (L2 := [some (2, 46), some (0, i), some (0, i), none, none]) c_33_15 rfl rfl (n_iconst c_33_16 (n_istore_n (L2 := [some (2, 46), some (0, i), some (0, i), some (0, 0), none]) c_33_17 rfl rfl (n_fg (le_s (le_n (le_s (le_s (le_n le_0))))) ?_))))
      exact (nth46_2_c hS hi 632).2 _ _ (by omega) (by omega) (by omega)
    · intro h6
      refine n_fg (le_n (le_n (le_n (le_n (le_n le_0))))) ?_
      exact (nth46_2_c hS hi 632).1   (by omega)

set_option maxHeartbeats 4000000 in
theorem clear48_2 {xs : List Int32} {e : Nat} {ac : Int} {M0 M : nM} (hS : Sf 2 ac M0 M)  : nW xs (e + 1) 31 0 [some (2, 48)] [] M (nPV fun M1 => Sf 2 ac M0 M1) := by
  have hd : (2 : Int) = 2 ∨ (2 : Int) = 3 := by decide
  have hac := hS.2.2.2.2
  refine n_aload_n c_31_0 rfl (n_getR c_31_1 sc_48.n rfl rfl rfl r_48_0 (n_lconst (n := 0) c_31_4 rfl (n_s2V c_31_5 rfl rfl rfl rfl (fill49_2 (v := 0) hS (by omega)) ?_)))
  intro  M1 hP2
  have hS1 := hP2
  refine n_aload_n c_31_8 rfl (n_iconst c_31_9 (n_putV (bi := 1) hS1 c_31_10 sc_48.n rfl rfl rfl rfl (w_48_1 (by omega)) ?_))
  intro M3 eM3 hS3
  have g3_0 : M3 48 1 = 0 := by rw [eM3]; exact nu_s _ _ _ _
  exact n_rV c_31_13 rfl hS3

set_option maxHeartbeats 4000000 in
theorem add48_2_c {xs : List Int32} {e : Nat} {ac : Int} {M0 M : nM} {n : Int} (hS : Sf 2 ac M0 M) (hn : -2147483648 ≤ n ∧ n ≤ 2147483647) : ∀ nn : Nat, (∀ (M : nM), Sf 2 ac M0 M → 1 < (nn : Int) → nW xs e 32 43 [none, none, none] [] M (nPV fun M1 => Sf 2 ac M0 M1)) := by
  have hd : (2 : Int) = 2 ∨ (2 : Int) = 3 := by decide
  have hac := hS.2.2.2.2
  intro nn
  induction nn with
  | zero => intros; omega
  | succ nn ih =>
    intro M hS hnn
    exact n_rV c_32_43 rfl hS
set_option maxHeartbeats 4000000 in
theorem add48_2 {xs : List Int32} {e : Nat} {ac : Int} {M0 M : nM} {n : Int} (hS : Sf 2 ac M0 M) (hn : -2147483648 ≤ n ∧ n ≤ 2147483647) : nW xs e 32 0 [some (2, 48), some (0, n), none] [] M (nPV fun M1 => Sf 2 ac M0 M1) := by
  have hd : (2 : Int) = 2 ∨ (2 : Int) = 3 := by decide
  have hac := hS.2.2.2.2
  refine n_iload_n c_32_0 rfl (n_bipush c_32_1 rfl (n_i_ishr c_32_3 rfl ?_))
  have f1 := n_shr_r n 6
  generalize (n_shr n 6) = z2 at f1 ⊢
  refine n_istore_n (L2 := [some (2, 48), some (0, n), some (0, z2)]) c_32_4 rfl rfl (n_iload_n c_32_5 rfl ?_)
  refine n_if0_lt c_32_6 (by omega) ?_ ?_
  · intro h3
    refine n_fg (le_n (le_n (le_n le_0))) ?_
    exact (add48_2_c hS hn 12)  M hS  (by omega)
  · intro h4
    refine n_iload_n c_32_9 rfl (n_aload_n c_32_10 rfl (n_getR c_32_11 sc_48.n rfl rfl rfl r_48_0 (n_alen c_32_14 sc_49.n rfl ?_)))
    refine n_if2_ge c_32_15 (by omega) (by omega) ?_ ?_
    · intro h5
      refine n_fg (le_n (le_n (le_n le_0))) ?_
      exact (add48_2_c hS hn 12)  M hS  (by omega)
    · intro h6
      refine n_aload_n c_32_18 rfl (n_getR c_32_19 sc_48.n rfl rfl rfl r_48_0 (n_iload_n c_32_22 rfl (n_dup202 c_32_23 (n_laloadV c_32_24 sc_49.n rfl rfl rfl (by omega) (t_49 hS (by omega)) ?_))))
      intro z7 ez7 f8
      refine n_lconst (n := 1) c_32_25 rfl (n_iload_n c_32_26 rfl (n_bipush c_32_27 rfl (n_i_iand c_32_29 rfl ?_)))
      have f9 := n_and_y (x := n) (y := 63) (by omega)
      generalize (n_and n 63) = z10 at f9 ⊢
      refine n_i_lshl c_32_30 rfl ?_
      have f11 := n_lshl_r 1 z10
      generalize (n_lshl 1 z10) = z12 at f11 ⊢
      refine n_i_lor c_32_31 rfl ?_
      have f13 := n_lor_r z7 z12
      generalize (n_lor z7 z12) = z14 at f13 ⊢
      refine n_lastoreV hS c_32_32 sc_49.n rfl (by omega) (w_49 (by omega) (by omega)) ?_
      intro M15 eM15 hS15
      refine n_aload_n c_32_33 rfl (n_dup2 c_32_34 (n_getV (bi := 1) c_32_35 sc_48.n rfl rfl rfl (t_48_1 hS15) ?_))
      intro z16 ez16 f17
      refine n_iconst c_32_38 (n_iadd c_32_39 rfl (n_wrap ?_))
      have f18 := n_wr_r (z16 + 1)
      generalize n_wr (z16 + 1) = z19 at f18 ⊢
      refine n_putV (bi := 1) hS15 c_32_40 sc_48.n rfl rfl rfl rfl (w_48_1 (by omega)) ?_
      intro M20 eM20 hS20
      have g20_0 : M20 48 1 = z19 := by rw [eM20]; exact nu_s _ _ _ _
      refine n_fg (le_n (le_n (le_n le_0))) ?_
      exact (add48_2_c hS hn 12)  M20 hS20  (by omega)

set_option maxHeartbeats 4000000 in
theorem nthBit48_2_c {xs : List Int32} {e : Nat} {ac : Int} {M0 M : nM} {w n : Int} (hS : Sf 2 ac M0 M) (hw : -9223372036854775808 ≤ w ∧ w ≤ 9223372036854775807) (hn : -2147483648 ≤ n ∧ n ≤ 2147483647) : ∀ nn : Nat, (∀ (x4 x5 : Int), (-2147483648 ≤ x4 ∧ x4 ≤ 2147483647) → (0 ≤ x5 ∧ x5 ≤ 64) → (64 - x5) * 2 + 2 < (nn : Int) → nW xs e 34 6 [none, some (1, w), none, none, some (0, x4), some (0, x5)] [] M (nPI fun z M1 => M = M1 ∧ (-2147483648 ≤ z ∧ z ≤ 2147483647))) ∧ (∀ (x4 x5 : Int), (-2147483648 ≤ x4 ∧ x4 ≤ 2147483647) → (0 ≤ x5 ∧ x5 ≤ 63) → (64 - x5) * 2 + 1 < (nn : Int) → nW xs e 34 35 [none, some (1, w), none, none, some (0, x4), some (0, x5)] [] M (nPI fun z M1 => M = M1 ∧ (-2147483648 ≤ z ∧ z ≤ 2147483647))) := by
  have hd : (2 : Int) = 2 ∨ (2 : Int) = 3 := by decide
  have hac := hS.2.2.2.2
  intro nn
  induction nn with
  | zero => refine ⟨?_, ?_⟩ <;> (intros; omega)
  | succ nn ih =>
    refine ⟨?_, ?_⟩
    · intro x4 x5 k4 k5 hnn
      refine n_iload c_34_6 rfl (n_bipush c_34_8 rfl ?_)
      refine n_if2_ge c_34_10 (by omega) (by omega) ?_ ?_
      · intro h1
        refine n_iconst c_34_41 ?_
        exact n_rI c_34_42 rfl ⟨rfl, by omega⟩
      · intro h2
        refine n_lload_n c_34_13 rfl (n_iload c_34_14 rfl (n_i_lushr c_34_16 rfl ?_))
        have f3 := n_lushr_r w x5
        generalize (n_lushr w x5) = z4 at f3 ⊢
        refine n_lconst (n := 1) c_34_17 rfl (n_i_land c_34_18 rfl ?_)
        have f5 := n_land_r z4 1
        generalize (n_land z4 1) = z6 at f5 ⊢
        refine n_lconst (n := 0) c_34_19 rfl (n_lcmp c_34_20 ?_)
        refine n_lif_eq c_34_21 (by omega) (by omega) ?_ ?_
        · intro h7
          refine n_fg (le_n (le_s (le_n (le_n (le_s (le_s le_0)))))) ?_
          exact ih.2 _ _ (by omega) (by omega) (by omega)
        · intro h8
          refine n_iload c_34_24 rfl ?_
          refine n_if0_ne c_34_26 (by omega) ?_ ?_
          · intro h9
            refine n_iincW (L2 := [none, some (1, w), none, none, some (0, n_wr (x4 + (-1))), some (0, x5)]) c_34_32 rfl rfl ?_
            have f10 := n_wr_r (x4 + (-1))
            generalize n_wr (x4 + (-1)) = z11 at f10 ⊢
            refine n_fg (le_n (le_s (le_n (le_n (le_s (le_s le_0)))))) ?_
            exact ih.2 _ _ (by omega) (by omega) (by omega)
          · intro h12
            refine n_iload c_34_29 rfl ?_
            exact n_rI c_34_31 rfl ⟨rfl, by omega⟩
    · intro x4 x5 k4 k5 hnn
      refine n_iinc (L2 := [none, some (1, w), none, none, some (0, x4), some (0, (x5 + 1))]) c_34_35 rfl rfl rfl (n_goto c_34_38 (n_fg (le_n (le_s (le_n (le_n (le_s (le_s le_0)))))) ?_))
      exact ih.1 _ _ (by omega) (by omega) (by omega)
set_option maxHeartbeats 4000000 in
theorem nthBit48_2 {xs : List Int32} {e : Nat} {ac : Int} {M0 M : nM} {w n : Int} (hS : Sf 2 ac M0 M) (hw : -9223372036854775808 ≤ w ∧ w ≤ 9223372036854775807) (hn : -2147483648 ≤ n ∧ n ≤ 2147483647) : nW xs e 34 0 [some (2, 48), some (1, w), none, some (0, n), none, none] [] M (nPI fun z M1 => M = M1 ∧ (-2147483648 ≤ z ∧ z ≤ 2147483647)) := by
  have hd : (2 : Int) = 2 ∨ (2 : Int) = 3 := by decide
  have hac := hS.2.2.2.2
  refine n_iload_n c_34_0 rfl (n_istore (L2 := [some (2, 48), some (1, w), none, some (0, n), some (0, n), none]) c_34_1 rfl rfl (n_iconst c_34_3 (n_istore (L2 := [some (2, 48), some (1, w), none, some (0, n), some (0, n), some (0, 0)]) c_34_4 rfl rfl (n_fg (le_n (le_s (le_n (le_n (le_s (le_s le_0)))))) ?_))))
  exact (nthBit48_2_c hS hw hn 274).1 _ _ (by omega) (by omega) (by omega)

set_option maxHeartbeats 4000000 in
theorem nth48_2_c {xs : List Int32} {e : Nat} {ac : Int} {M0 M : nM} {i : Int} (hS : Sf 2 ac M0 M) (hi : -2147483648 ≤ i ∧ i ≤ 2147483647) : ∀ nn : Nat, (106 < (nn : Int) → nW xs (e + 1) 33 12 [none, none, none, none, none] [] M (nPI fun z M1 => M = M1 ∧ (-2147483648 ≤ z ∧ z ≤ 2147483647))) ∧ (∀ (x2 x3 : Int), (-127 ≤ x2 ∧ x2 ≤ 2147483646) → (0 ≤ x3 ∧ x3 ≤ 103) → (103 - x3) * 1 + 1 < (nn : Int) → nW xs (e + 1) 33 18 [some (2, 48), none, some (0, x2), some (0, x3), none] [] M (nPI fun z M1 => M = M1 ∧ (-2147483648 ≤ z ∧ z ≤ 2147483647))) := by
  have hd : (2 : Int) = 2 ∨ (2 : Int) = 3 := by decide
  have hac := hS.2.2.2.2
  intro nn
  induction nn with
  | zero => refine ⟨?_, ?_⟩ <;> (intros; omega)
  | succ nn ih =>
    refine ⟨?_, ?_⟩
    · intro hnn
      refine n_iconst c_33_12 ?_
      exact n_rI c_33_13 rfl ⟨rfl, by omega⟩
    · intro x2 x3 k2 k3 hnn
      refine n_iload_n c_33_18 rfl (n_aload_n c_33_19 rfl (n_getR c_33_20 sc_48.n rfl rfl rfl r_48_0 (n_alen c_33_23 sc_49.n rfl ?_)))
      refine n_if2_ge c_33_24 (by omega) (by omega) ?_ ?_
      · intro h1
        refine n_iconst c_33_72 ?_
        exact n_rI c_33_73 rfl ⟨rfl, by omega⟩
      · intro h2
        refine n_aload_n c_33_27 rfl (n_getR c_33_28 sc_48.n rfl rfl rfl r_48_0 (n_iload_n c_33_31 rfl (n_laloadV c_33_32 sc_49.n rfl rfl rfl (by omega) (t_49 hS (by omega)) ?_)))
        intro z3 ez3 f4
        refine n_s1I c_33_33 rfl rfl rfl rfl (lbits_2 (x := z3) hS (by omega)) ?_
        intro z5 M6 hP7
        obtain ⟨eM, f7⟩ := hP7
        subst eM
        refine n_istore (L2 := [some (2, 48), none, some (0, x2), some (0, x3), some (0, z5)]) c_33_36 rfl rfl (n_iload_n c_33_38 rfl (n_iload c_33_39 rfl ?_))
        refine n_if2_ge c_33_41 (by omega) (by omega) ?_ ?_
        · intro h8
          refine n_iload_n c_33_61 rfl (n_iload c_33_62 rfl (n_isub c_33_64 rfl (n_istore_n (L2 := [some (2, 48), none, some (0, (x2 - z5)), some (0, x3), some (0, z5)]) c_33_65 rfl rfl (n_iinc (L2 := [some (2, 48), none, some (0, (x2 - z5)), some (0, (x3 + 1)), some (0, z5)]) c_33_66 rfl rfl rfl (n_goto c_33_69 (n_fg (le_s (le_n (le_s (le_s (le_n le_0))))) ?_))))))
          exact ih.2 _ _ (by omega) (by omega) (by omega)
        · intro h9
          refine n_iload_n c_33_44 rfl (n_bipush c_33_45 rfl (n_imul c_33_47 rfl (n_aload_n c_33_48 rfl (n_aload_n c_33_49 rfl (n_getR c_33_50 sc_48.n rfl rfl rfl r_48_0 (n_iload_n c_33_53 rfl (n_laloadV c_33_54 sc_49.n rfl rfl rfl (by omega) (t_49 hS (by omega)) ?_)))))))
          intro z10 ez10 f11
          refine n_iload_n c_33_55 rfl (n_v2I c_33_56 rfl sc_48.n rfl rfl rfl rfl (nthBit48_2 (w := z10) (n := x2) hS (by omega) (by omega)) ?_)
          intro z12 M13 hP14
          obtain ⟨eM, f14⟩ := hP14
          subst eM
          refine n_iadd c_33_59 rfl (n_wrap ?_)
          have f15 := n_wr_r ((x3 * 64) + z12)
          generalize n_wr ((x3 * 64) + z12) = z16 at f15 ⊢
          exact n_rI c_33_60 rfl ⟨rfl, by omega⟩
set_option maxHeartbeats 4000000 in
theorem nth48_2 {xs : List Int32} {e : Nat} {ac : Int} {M0 M : nM} {i : Int} (hS : Sf 2 ac M0 M) (hi : -2147483648 ≤ i ∧ i ≤ 2147483647) : nW xs (e + 1) 33 0 [some (2, 48), some (0, i), none, none, none] [] M (nPI fun z M1 => M = M1 ∧ (-2147483648 ≤ z ∧ z ≤ 2147483647)) := by
  have hd : (2 : Int) = 2 ∨ (2 : Int) = 3 := by decide
  have hac := hS.2.2.2.2
  refine n_iload_n c_33_0 rfl ?_
  refine n_if0_lt c_33_1 (by omega) ?_ ?_
  · intro h1
    refine n_fg (le_n (le_n (le_n (le_n (le_n le_0))))) ?_
    exact (nth48_2_c hS hi 222).1   (by omega)
  · intro h2
    refine n_iload_n c_33_4 rfl (n_aload_n c_33_5 rfl (n_getV (bi := 1) c_33_6 sc_48.n rfl rfl rfl (t_48_1 hS) ?_))
    intro z3 ez3 f4
    refine n_if2_lt c_33_9 (by omega) (by omega) ?_ ?_
    · intro h5
      refine n_iload_n c_33_14 rfl (n_istore_n (L2 := [some (2, 48), some (0, i), some (0, i), none, none]) c_33_15 rfl rfl (n_iconst c_33_16 (n_istore_n (L2 := [some (2, 48), some (0, i), some (0, i), some (0, 0), none]) c_33_17 rfl rfl (n_fg (le_s (le_n (le_s (le_s (le_n le_0))))) ?_))))
      exact (nth48_2_c hS hi 222).2 _ _ (by omega) (by omega) (by omega)
    · intro h6
      refine n_fg (le_n (le_n (le_n (le_n (le_n le_0))))) ?_
      exact (nth48_2_c hS hi 222).1   (by omega)

set_option maxHeartbeats 4000000 in
theorem fmod1_2 {xs : List Int32} {e : Nat} {ac : Int} {M0 M : nM} (hS : Sf 2 ac M0 M)  : nW xs e 204 0 [some (0, (-1)), some (0, 2), none] [] M (nPI fun z M1 => M = M1 ∧ (1 ≤ z ∧ z ≤ 1)) := by
  have hd : (2 : Int) = 2 ∨ (2 : Int) = 3 := by decide
  have hac := hS.2.2.2.2
  refine n_iload_n c_204_0 rfl (n_iload_n c_204_1 rfl (n_iremT (z := (-1)) c_204_2 (by omega) (by omega) (by omega) (by decide) ?_))
  refine n_istore_n (L2 := [some (0, (-1)), some (0, 2), some (0, (-1))]) c_204_3 rfl rfl (n_iload_n c_204_4 rfl (n_iload_n c_204_5 rfl (n_i_ixor (z := (-3)) c_204_6 (by decide) ?_)))
  refine n_if0_ge c_204_7 (by omega) ?_ ?_
  · intro h1
    exfalso; omega
  · intro h2
    refine n_iload_n c_204_10 rfl ?_
    refine n_if0_eq c_204_11 (by omega) ?_ ?_
    · intro h3
      exfalso; omega
    · intro h4
      refine n_iload_n c_204_14 rfl (n_iload_n c_204_15 rfl (n_iadd c_204_16 rfl ?_))
      exact n_rI c_204_17 rfl ⟨rfl, by omega⟩

set_option maxHeartbeats 4000000 in
theorem fmod2_2_c {xs : List Int32} {e : Nat} {ac : Int} {M0 M : nM} (hS : Sf 2 ac M0 M)  : ∀ nn : Nat, (∀ (x2 : Int), (0 ≤ x2 ∧ x2 ≤ 0) → 1 < (nn : Int) → nW xs e 204 18 [none, none, some (0, x2)] [] M (nPI fun z M1 => M = M1 ∧ (0 ≤ z ∧ z ≤ 0))) := by
  have hd : (2 : Int) = 2 ∨ (2 : Int) = 3 := by decide
  have hac := hS.2.2.2.2
  intro nn
  induction nn with
  | zero => intros; omega
  | succ nn ih =>
    intro x2 k2 hnn
    refine n_iload_n c_204_18 rfl ?_
    exact n_rI c_204_19 rfl ⟨rfl, by omega⟩
set_option maxHeartbeats 4000000 in
theorem fmod2_2 {xs : List Int32} {e : Nat} {ac : Int} {M0 M : nM} (hS : Sf 2 ac M0 M)  : nW xs e 204 0 [some (0, 0), some (0, 2), none] [] M (nPI fun z M1 => M = M1 ∧ (0 ≤ z ∧ z ≤ 0)) := by
  have hd : (2 : Int) = 2 ∨ (2 : Int) = 3 := by decide
  have hac := hS.2.2.2.2
  refine n_iload_n c_204_0 rfl (n_iload_n c_204_1 rfl (n_iremT (z := 0) c_204_2 (by omega) (by omega) (by omega) (by decide) ?_))
  refine n_istore_n (L2 := [some (0, 0), some (0, 2), some (0, 0)]) c_204_3 rfl rfl (n_iload_n c_204_4 rfl (n_iload_n c_204_5 rfl (n_i_ixor (z := 2) c_204_6 (by decide) ?_)))
  refine n_if0_ge c_204_7 (by omega) ?_ ?_
  · intro h1
    refine n_fg (le_n (le_n (le_s le_0))) ?_
    exact (fmod2_2_c hS  12) _ (by omega) (by omega)
  · intro h2
    exfalso; omega

set_option maxHeartbeats 4000000 in
theorem fmod3_2_c {xs : List Int32} {e : Nat} {ac : Int} {M0 M : nM} (hS : Sf 2 ac M0 M)  : ∀ nn : Nat, (∀ (x2 : Int), (1 ≤ x2 ∧ x2 ≤ 1) → 1 < (nn : Int) → nW xs e 204 18 [none, none, some (0, x2)] [] M (nPI fun z M1 => M = M1 ∧ (1 ≤ z ∧ z ≤ 1))) := by
  have hd : (2 : Int) = 2 ∨ (2 : Int) = 3 := by decide
  have hac := hS.2.2.2.2
  intro nn
  induction nn with
  | zero => intros; omega
  | succ nn ih =>
    intro x2 k2 hnn
    refine n_iload_n c_204_18 rfl ?_
    exact n_rI c_204_19 rfl ⟨rfl, by omega⟩
set_option maxHeartbeats 4000000 in
theorem fmod3_2 {xs : List Int32} {e : Nat} {ac : Int} {M0 M : nM} (hS : Sf 2 ac M0 M)  : nW xs e 204 0 [some (0, 1), some (0, 2), none] [] M (nPI fun z M1 => M = M1 ∧ (1 ≤ z ∧ z ≤ 1)) := by
  have hd : (2 : Int) = 2 ∨ (2 : Int) = 3 := by decide
  have hac := hS.2.2.2.2
  refine n_iload_n c_204_0 rfl (n_iload_n c_204_1 rfl (n_iremT (z := 1) c_204_2 (by omega) (by omega) (by omega) (by decide) ?_))
  refine n_istore_n (L2 := [some (0, 1), some (0, 2), some (0, 1)]) c_204_3 rfl rfl (n_iload_n c_204_4 rfl (n_iload_n c_204_5 rfl (n_i_ixor (z := 3) c_204_6 (by decide) ?_)))
  refine n_if0_ge c_204_7 (by omega) ?_ ?_
  · intro h1
    refine n_fg (le_n (le_n (le_s le_0))) ?_
    exact (fmod3_2_c hS  12) _ (by omega) (by omega)
  · intro h2
    exfalso; omega

set_option maxHeartbeats 4000000 in
theorem fmod4_2_c {xs : List Int32} {e : Nat} {ac : Int} {M0 M : nM} (hS : Sf 2 ac M0 M)  : ∀ nn : Nat, (∀ (x2 : Int), (0 ≤ x2 ∧ x2 ≤ 0) → 1 < (nn : Int) → nW xs e 204 18 [none, none, some (0, x2)] [] M (nPI fun z M1 => M = M1 ∧ (0 ≤ z ∧ z ≤ 0))) := by
  have hd : (2 : Int) = 2 ∨ (2 : Int) = 3 := by decide
  have hac := hS.2.2.2.2
  intro nn
  induction nn with
  | zero => intros; omega
  | succ nn ih =>
    intro x2 k2 hnn
    refine n_iload_n c_204_18 rfl ?_
    exact n_rI c_204_19 rfl ⟨rfl, by omega⟩
set_option maxHeartbeats 4000000 in
theorem fmod4_2 {xs : List Int32} {e : Nat} {ac : Int} {M0 M : nM} (hS : Sf 2 ac M0 M)  : nW xs e 204 0 [some (0, 2), some (0, 2), none] [] M (nPI fun z M1 => M = M1 ∧ (0 ≤ z ∧ z ≤ 0)) := by
  have hd : (2 : Int) = 2 ∨ (2 : Int) = 3 := by decide
  have hac := hS.2.2.2.2
  refine n_iload_n c_204_0 rfl (n_iload_n c_204_1 rfl (n_iremT (z := 0) c_204_2 (by omega) (by omega) (by omega) (by decide) ?_))
  refine n_istore_n (L2 := [some (0, 2), some (0, 2), some (0, 0)]) c_204_3 rfl rfl (n_iload_n c_204_4 rfl (n_iload_n c_204_5 rfl (n_i_ixor (z := 0) c_204_6 (by decide) ?_)))
  refine n_if0_ge c_204_7 (by omega) ?_ ?_
  · intro h1
    refine n_fg (le_n (le_n (le_s le_0))) ?_
    exact (fmod4_2_c hS  12) _ (by omega) (by omega)
  · intro h2
    exfalso; omega

set_option maxHeartbeats 4000000 in
theorem fmodU_2 {xs : List Int32} {e : Nat} {ac : Int} {M0 M : nM} {x : Int} (hS : Sf 2 ac M0 M) (hx : -1 ≤ x ∧ x ≤ 2) : nW xs e 204 0 [some (0, x), some (0, 2), none] [] M (nPI fun z M1 => M = M1 ∧ (0 ≤ z ∧ z ≤ 1)) := by
  rcases (show x = (-1) ∨ x = 0 ∨ x = 1 ∨ x = 2 by omega) with rfl | rfl | rfl | rfl
  · exact n_post (fmod1_2 hS ) (fun w M1 h => by obtain ⟨z, rfl, h1, h2⟩ := h; exact ⟨z, rfl, h1, by omega⟩)
  · exact n_post (fmod2_2 hS ) (fun w M1 h => by obtain ⟨z, rfl, h1, h2⟩ := h; exact ⟨z, rfl, h1, by omega⟩)
  · exact n_post (fmod3_2 hS ) (fun w M1 h => by obtain ⟨z, rfl, h1, h2⟩ := h; exact ⟨z, rfl, h1, by omega⟩)
  · exact n_post (fmod4_2 hS ) (fun w M1 h => by obtain ⟨z, rfl, h1, h2⟩ := h; exact ⟨z, rfl, h1, by omega⟩)

set_option maxHeartbeats 4000000 in
theorem begin_2 {xs : List Int32} {e : Nat} {ac : Int} {M0 M : nM} {n c : Int} (hS : Sf 2 ac M0 M) (hn : 0 ≤ n ∧ n ≤ 3) (hc : 0 ≤ c ∧ c ≤ 3) : nW xs e 27 0 [some (2, 44), some (0, n), some (0, c), some (2, 4)] [] M (nPV fun M1 => Sf 2 ac M0 M1 ∧ (M1 44 2 = c ∧ M1 44 0 = n ∧ M1 44 5 = 2)) := by
  have hd : (2 : Int) = 2 ∨ (2 : Int) = 3 := by decide
  have hac := hS.2.2.2.2
  refine n_aload_n c_27_0 rfl (n_aload_n c_27_1 rfl (n_getV (bi := 0) c_27_2 sc_4.n rfl rfl rfl (t_4_0 hS) ?_))
  intro z1 ez1 f2
  obtain rfl : z1 = 2 := by omega
  refine n_putV (bi := 5) hS c_27_5 sc_44.n rfl rfl rfl rfl (w_44_5 (by omega)) ?_
  intro M3 eM3 hS3
  have g3_0 : M3 44 5 = 2 := by rw [eM3]; exact nu_s _ _ _ _
  refine n_aload_n c_27_8 rfl (n_iload_n c_27_9 rfl (n_putV (bi := 0) hS3 c_27_10 sc_44.n rfl rfl rfl rfl (w_44_0 (by omega)) ?_))
  intro M4 eM4 hS4
  have g4_0 : M4 44 5 = M3 44 5 := by rw [eM4]; exact nu_i (by omega)
  have g4_1 : M4 44 0 = n := by rw [eM4]; exact nu_s _ _ _ _
  refine n_aload_n c_27_13 rfl (n_iload_n c_27_14 rfl (n_putV (bi := 1) hS4 c_27_15 sc_44.n rfl rfl rfl rfl (w_44_1 (by omega)) ?_))
  intro M5 eM5 hS5
  have g5_0 : M5 44 5 = M4 44 5 := by rw [eM5]; exact nu_i (by omega)
  have g5_1 : M5 44 0 = M4 44 0 := by rw [eM5]; exact nu_i (by omega)
  have g5_2 : M5 44 1 = c := by rw [eM5]; exact nu_s _ _ _ _
  refine n_aload_n c_27_18 rfl (n_iload_n c_27_19 rfl (n_putV (bi := 2) hS5 c_27_20 sc_44.n rfl rfl rfl rfl (w_44_2 (by omega)) ?_))
  intro M6 eM6 hS6
  have g6_0 : M6 44 5 = M5 44 5 := by rw [eM6]; exact nu_i (by omega)
  have g6_1 : M6 44 0 = M5 44 0 := by rw [eM6]; exact nu_i (by omega)
  have g6_2 : M6 44 1 = M5 44 1 := by rw [eM6]; exact nu_i (by omega)
  have g6_3 : M6 44 2 = c := by rw [eM6]; exact nu_s _ _ _ _
  refine n_aload_n c_27_23 rfl (n_iconst c_27_24 (n_putZV (bi := 3) hS6 c_27_25 sc_44.n rfl rfl rfl (by omega) rfl (w_44_3 (by omega)) ?_))
  intro M7 eM7 hS7
  have g7_0 : M7 44 5 = M6 44 5 := by rw [eM7]; exact nu_i (by omega)
  have g7_1 : M7 44 0 = M6 44 0 := by rw [eM7]; exact nu_i (by omega)
  have g7_2 : M7 44 1 = M6 44 1 := by rw [eM7]; exact nu_i (by omega)
  have g7_3 : M7 44 2 = M6 44 2 := by rw [eM7]; exact nu_i (by omega)
  have g7_4 : M7 44 3 = 0 := by rw [eM7]; exact nu_s _ _ _ _
  exact n_rV c_27_28 rfl ⟨hS7, by omega⟩

set_option maxHeartbeats 4000000 in
theorem repeat_2_c {xs : List Int32} {e : Nat} {ac : Int} {M0 M : nM} (hS : Sf 2 ac M0 M)  : ∀ nn : Nat, (∀ (x2 x3 : Int) (M : nM), Sf 2 ac M0 M → (1 ≤ x2 ∧ x2 ≤ 8) → (1 ≤ x3 ∧ x3 ≤ 8) → (x2 ≤ x3) → (8 - x3) * 1 + 1 < (nn : Int) → nW xs (e + 1) 28 11 [some (2, 44), some (2, 4), some (0, x2), some (0, x3)] [] M (nPV fun M1 => Sf 2 ac M0 M1)) := by
  have hd : (2 : Int) = 2 ∨ (2 : Int) = 3 := by decide
  have hac := hS.2.2.2.2
  intro nn
  induction nn with
  | zero => intros; omega
  | succ nn ih =>
    intro x2 x3 M hS k2 k3 v0 hnn
    refine n_iload_n c_28_11 rfl (n_aload_n c_28_12 rfl (n_getV (bi := 1) c_28_13 sc_4.n rfl rfl rfl (t_4_1 hS) ?_))
    intro z1 ez1 f2
    obtain rfl : z1 = 8 := by omega
    refine n_if2_ge c_28_16 (by omega) (by omega) ?_ ?_
    · intro h3
      exact n_rV c_28_39 rfl hS
    · intro h4
      refine n_aload_n c_28_19 rfl (n_getR c_28_20 sc_44.n rfl rfl rfl r_44_4 (n_iload_n c_28_23 rfl (n_aload_n c_28_24 rfl (n_getR c_28_25 sc_44.n rfl rfl rfl r_44_4 (n_iload_n c_28_28 rfl (n_iload_n c_28_29 rfl (n_isub c_28_30 rfl (n_ialoadV c_28_31 sc_45.n rfl rfl rfl (by omega) (t_45 hS (by omega)) ?_))))))))
      intro z5 ez5 f6
      refine n_iastoreV hS c_28_32 sc_45.n rfl (by omega) (w_45 (by omega) (by omega)) ?_
      intro M7 eM7 hS7
      refine n_iinc (L2 := [some (2, 44), some (2, 4), some (0, x2), some (0, (x3 + 1))]) c_28_33 rfl rfl rfl (n_goto c_28_36 (n_fg (le_s (le_s (le_s (le_s le_0)))) ?_))
      exact ih _ _ M7 hS7 (by omega) (by omega) (by omega) (by omega)
set_option maxHeartbeats 4000000 in
theorem repeat_2 {xs : List Int32} {e : Nat} {ac : Int} {M0 M : nM} (hS : Sf 2 ac M0 M)  : nW xs (e + 1) 28 0 [some (2, 44), some (2, 4), none, none] [] M (nPV fun M1 => Sf 2 ac M0 M1) := by
  have hd : (2 : Int) = 2 ∨ (2 : Int) = 3 := by decide
  have hac := hS.2.2.2.2
  refine n_aload_n c_28_0 rfl (n_aload_n c_28_1 rfl (n_getV (bi := 0) c_28_2 sc_44.n rfl rfl rfl (t_44_0 hS) ?_))
  intro z1 ez1 f2
  refine n_v1I c_28_5 rfl sc_4.n rfl rfl rfl rfl (powerU_2 (n := z1) hS (by omega)) ?_
  intro z3 M4 hP5
  obtain ⟨eM, f5⟩ := hP5
  subst eM
  refine n_istore_n (L2 := [some (2, 44), some (2, 4), some (0, z3), none]) c_28_8 rfl rfl (n_iload_n c_28_9 rfl (n_istore_n (L2 := [some (2, 44), some (2, 4), some (0, z3), some (0, z3)]) c_28_10 rfl rfl (n_fg (le_s (le_s (le_s (le_s le_0)))) ?_)))
  exact (repeat_2_c hS  28) _ _ M hS (by omega) (by omega) (by omega) (by omega)

set_option maxHeartbeats 4000000 in
theorem beFree1_2 {xs : List Int32} {e : Nat} {ac : Int} {M0 M : nM} (hS : Sf 2 ac M0 M)  : nW xs (e + 2) 20 0 [some (2, 44), some (0, 1), some (2, 4), none] [] M (nPV fun M1 => Sf 2 ac M0 M1) := by
  have hd : (2 : Int) = 2 ∨ (2 : Int) = 3 := by decide
  have hac := hS.2.2.2.2
  refine n_aload_n c_20_0 rfl (n_iload_n c_20_1 rfl (n_iconst c_20_2 (n_aload_n c_20_3 rfl (n_v3V c_20_4 rfl sc_44.n rfl rfl rfl rfl (begin_2 (n := 1) (c := 0) hS (by omega) (by omega)) ?_))))
  intro  M1 hP2
  obtain ⟨hS1, f2p0⟩ := hP2
  refine n_aload_n c_20_7 rfl (n_iload_n c_20_8 rfl (n_v1I c_20_9 rfl sc_4.n rfl rfl rfl rfl (power1_2  hS1 ) ?_))
  intro z3 M4 hP5
  obtain ⟨eM, f5⟩ := hP5
  subst eM
  obtain rfl : z3 = 2 := by omega
  refine n_iconst c_20_12 (n_isub c_20_13 rfl (n_istore_n (L2 := [some (2, 44), some (0, 1), some (2, 4), some (0, (2 - 1))]) c_20_14 rfl rfl (n_iload_n c_20_15 rfl ?_)))
  refine n_if0_lt c_20_16 (by omega) ?_ ?_
  · intro h6
    exfalso; omega
  · intro h7
    refine n_aload_n c_20_19 rfl (n_getR c_20_20 sc_44.n rfl rfl rfl r_44_4 (n_iload_n c_20_23 rfl (n_aload_n c_20_24 rfl (n_dup2 c_20_25 (n_getV (bi := 2) c_20_26 sc_44.n rfl rfl rfl (t_44_2 hS1) ?_)))))
    intro z8 ez8 f9
    obtain rfl : z8 = 0 := by omega
    refine n_dup_x102 c_20_29 (n_iconst c_20_30 (n_iadd c_20_31 rfl (n_putV (bi := 2) hS1 c_20_32 sc_44.n rfl rfl rfl rfl (w_44_2 (by omega)) ?_)))
    intro M10 eM10 hS10
    have g10_0 : M10 44 0 = M1 44 0 := by rw [eM10]; exact nu_i (by omega)
    have g10_1 : M10 44 5 = M1 44 5 := by rw [eM10]; exact nu_i (by omega)
    have g10_2 : M10 44 2 = (0 + 1) := by rw [eM10]; exact nu_s _ _ _ _
    refine n_iastoreV hS10 c_20_35 sc_45.n rfl (by omega) (w_45 (by omega) (by omega)) ?_
    intro M11 eM11 hS11
    have g11_0 : M11 44 0 = M10 44 0 := by rw [eM11]; exact nu_a (by omega)
    have g11_1 : M11 44 5 = M10 44 5 := by rw [eM11]; exact nu_a (by omega)
    have g11_2 : M11 44 2 = M10 44 2 := by rw [eM11]; exact nu_a (by omega)
    refine n_iinc (L2 := [some (2, 44), some (0, 1), some (2, 4), some (0, ((2 - 1) + (-1)))]) c_20_36 rfl rfl rfl (n_goto c_20_39 (n_iload_n c_20_15 rfl ?_))
    refine n_if0_lt c_20_16 (by omega) ?_ ?_
    · intro h12
      exfalso; omega
    · intro h13
      refine n_aload_n c_20_19 rfl (n_getR c_20_20 sc_44.n rfl rfl rfl r_44_4 (n_iload_n c_20_23 rfl (n_aload_n c_20_24 rfl (n_dup2 c_20_25 (n_getV (bi := 2) c_20_26 sc_44.n rfl rfl rfl (t_44_2 hS11) ?_)))))
      intro z14 ez14 f15
      obtain rfl : z14 = 1 := by omega
      refine n_dup_x102 c_20_29 (n_iconst c_20_30 (n_iadd c_20_31 rfl (n_putV (bi := 2) hS11 c_20_32 sc_44.n rfl rfl rfl rfl (w_44_2 (by omega)) ?_)))
      intro M16 eM16 hS16
      have g16_0 : M16 44 0 = M11 44 0 := by rw [eM16]; exact nu_i (by omega)
      have g16_1 : M16 44 5 = M11 44 5 := by rw [eM16]; exact nu_i (by omega)
      have g16_2 : M16 44 2 = (1 + 1) := by rw [eM16]; exact nu_s _ _ _ _
      refine n_iastoreV hS16 c_20_35 sc_45.n rfl (by omega) (w_45 (by omega) (by omega)) ?_
      intro M17 eM17 hS17
      have g17_0 : M17 44 0 = M16 44 0 := by rw [eM17]; exact nu_a (by omega)
      have g17_1 : M17 44 5 = M16 44 5 := by rw [eM17]; exact nu_a (by omega)
      have g17_2 : M17 44 2 = M16 44 2 := by rw [eM17]; exact nu_a (by omega)
      refine n_iinc (L2 := [some (2, 44), some (0, 1), some (2, 4), some (0, (((2 - 1) + (-1)) + (-1)))]) c_20_36 rfl rfl rfl (n_goto c_20_39 (n_iload_n c_20_15 rfl ?_))
      refine n_if0_lt c_20_16 (by omega) ?_ ?_
      · intro h18
        refine n_aload_n c_20_42 rfl (n_aload_n c_20_43 rfl (n_v1V c_20_44 rfl sc_44.n rfl rfl rfl rfl (repeat_2  hS17 ) ?_))
        intro  M19 hP20
        have hS19 := hP20
        exact n_rV c_20_47 rfl hS19
      · intro h21
        exfalso; omega

set_option maxHeartbeats 4000000 in
theorem beFree2_2 {xs : List Int32} {e : Nat} {ac : Int} {M0 M : nM} (hS : Sf 2 ac M0 M)  : nW xs (e + 2) 20 0 [some (2, 44), some (0, 2), some (2, 4), none] [] M (nPV fun M1 => Sf 2 ac M0 M1) := by
  have hd : (2 : Int) = 2 ∨ (2 : Int) = 3 := by decide
  have hac := hS.2.2.2.2
  refine n_aload_n c_20_0 rfl (n_iload_n c_20_1 rfl (n_iconst c_20_2 (n_aload_n c_20_3 rfl (n_v3V c_20_4 rfl sc_44.n rfl rfl rfl rfl (begin_2 (n := 2) (c := 0) hS (by omega) (by omega)) ?_))))
  intro  M1 hP2
  obtain ⟨hS1, f2p0⟩ := hP2
  refine n_aload_n c_20_7 rfl (n_iload_n c_20_8 rfl (n_v1I c_20_9 rfl sc_4.n rfl rfl rfl rfl (power2_2  hS1 ) ?_))
  intro z3 M4 hP5
  obtain ⟨eM, f5⟩ := hP5
  subst eM
  obtain rfl : z3 = 4 := by omega
  refine n_iconst c_20_12 (n_isub c_20_13 rfl (n_istore_n (L2 := [some (2, 44), some (0, 2), some (2, 4), some (0, (4 - 1))]) c_20_14 rfl rfl (n_iload_n c_20_15 rfl ?_)))
  refine n_if0_lt c_20_16 (by omega) ?_ ?_
  · intro h6
    exfalso; omega
  · intro h7
    refine n_aload_n c_20_19 rfl (n_getR c_20_20 sc_44.n rfl rfl rfl r_44_4 (n_iload_n c_20_23 rfl (n_aload_n c_20_24 rfl (n_dup2 c_20_25 (n_getV (bi := 2) c_20_26 sc_44.n rfl rfl rfl (t_44_2 hS1) ?_)))))
    intro z8 ez8 f9
    obtain rfl : z8 = 0 := by omega
    refine n_dup_x102 c_20_29 (n_iconst c_20_30 (n_iadd c_20_31 rfl (n_putV (bi := 2) hS1 c_20_32 sc_44.n rfl rfl rfl rfl (w_44_2 (by omega)) ?_)))
    intro M10 eM10 hS10
    have g10_0 : M10 44 0 = M1 44 0 := by rw [eM10]; exact nu_i (by omega)
    have g10_1 : M10 44 5 = M1 44 5 := by rw [eM10]; exact nu_i (by omega)
    have g10_2 : M10 44 2 = (0 + 1) := by rw [eM10]; exact nu_s _ _ _ _
    refine n_iastoreV hS10 c_20_35 sc_45.n rfl (by omega) (w_45 (by omega) (by omega)) ?_
    intro M11 eM11 hS11
    have g11_0 : M11 44 0 = M10 44 0 := by rw [eM11]; exact nu_a (by omega)
    have g11_1 : M11 44 5 = M10 44 5 := by rw [eM11]; exact nu_a (by omega)
    have g11_2 : M11 44 2 = M10 44 2 := by rw [eM11]; exact nu_a (by omega)
    refine n_iinc (L2 := [some (2, 44), some (0, 2), some (2, 4), some (0, ((4 - 1) + (-1)))]) c_20_36 rfl rfl rfl (n_goto c_20_39 (n_iload_n c_20_15 rfl ?_))
    refine n_if0_lt c_20_16 (by omega) ?_ ?_
    · intro h12
      exfalso; omega
    · intro h13
      refine n_aload_n c_20_19 rfl (n_getR c_20_20 sc_44.n rfl rfl rfl r_44_4 (n_iload_n c_20_23 rfl (n_aload_n c_20_24 rfl (n_dup2 c_20_25 (n_getV (bi := 2) c_20_26 sc_44.n rfl rfl rfl (t_44_2 hS11) ?_)))))
      intro z14 ez14 f15
      obtain rfl : z14 = 1 := by omega
      refine n_dup_x102 c_20_29 (n_iconst c_20_30 (n_iadd c_20_31 rfl (n_putV (bi := 2) hS11 c_20_32 sc_44.n rfl rfl rfl rfl (w_44_2 (by omega)) ?_)))
      intro M16 eM16 hS16
      have g16_0 : M16 44 0 = M11 44 0 := by rw [eM16]; exact nu_i (by omega)
      have g16_1 : M16 44 5 = M11 44 5 := by rw [eM16]; exact nu_i (by omega)
      have g16_2 : M16 44 2 = (1 + 1) := by rw [eM16]; exact nu_s _ _ _ _
      refine n_iastoreV hS16 c_20_35 sc_45.n rfl (by omega) (w_45 (by omega) (by omega)) ?_
      intro M17 eM17 hS17
      have g17_0 : M17 44 0 = M16 44 0 := by rw [eM17]; exact nu_a (by omega)
      have g17_1 : M17 44 5 = M16 44 5 := by rw [eM17]; exact nu_a (by omega)
      have g17_2 : M17 44 2 = M16 44 2 := by rw [eM17]; exact nu_a (by omega)
      refine n_iinc (L2 := [some (2, 44), some (0, 2), some (2, 4), some (0, (((4 - 1) + (-1)) + (-1)))]) c_20_36 rfl rfl rfl (n_goto c_20_39 (n_iload_n c_20_15 rfl ?_))
      refine n_if0_lt c_20_16 (by omega) ?_ ?_
      · intro h18
        exfalso; omega
      · intro h19
        refine n_aload_n c_20_19 rfl (n_getR c_20_20 sc_44.n rfl rfl rfl r_44_4 (n_iload_n c_20_23 rfl (n_aload_n c_20_24 rfl (n_dup2 c_20_25 (n_getV (bi := 2) c_20_26 sc_44.n rfl rfl rfl (t_44_2 hS17) ?_)))))
        intro z20 ez20 f21
        obtain rfl : z20 = 2 := by omega
        refine n_dup_x102 c_20_29 (n_iconst c_20_30 (n_iadd c_20_31 rfl (n_putV (bi := 2) hS17 c_20_32 sc_44.n rfl rfl rfl rfl (w_44_2 (by omega)) ?_)))
        intro M22 eM22 hS22
        have g22_0 : M22 44 0 = M17 44 0 := by rw [eM22]; exact nu_i (by omega)
        have g22_1 : M22 44 5 = M17 44 5 := by rw [eM22]; exact nu_i (by omega)
        have g22_2 : M22 44 2 = (2 + 1) := by rw [eM22]; exact nu_s _ _ _ _
        refine n_iastoreV hS22 c_20_35 sc_45.n rfl (by omega) (w_45 (by omega) (by omega)) ?_
        intro M23 eM23 hS23
        have g23_0 : M23 44 0 = M22 44 0 := by rw [eM23]; exact nu_a (by omega)
        have g23_1 : M23 44 5 = M22 44 5 := by rw [eM23]; exact nu_a (by omega)
        have g23_2 : M23 44 2 = M22 44 2 := by rw [eM23]; exact nu_a (by omega)
        refine n_iinc (L2 := [some (2, 44), some (0, 2), some (2, 4), some (0, ((((4 - 1) + (-1)) + (-1)) + (-1)))]) c_20_36 rfl rfl rfl (n_goto c_20_39 (n_iload_n c_20_15 rfl ?_))
        refine n_if0_lt c_20_16 (by omega) ?_ ?_
        · intro h24
          exfalso; omega
        · intro h25
          refine n_aload_n c_20_19 rfl (n_getR c_20_20 sc_44.n rfl rfl rfl r_44_4 (n_iload_n c_20_23 rfl (n_aload_n c_20_24 rfl (n_dup2 c_20_25 (n_getV (bi := 2) c_20_26 sc_44.n rfl rfl rfl (t_44_2 hS23) ?_)))))
          intro z26 ez26 f27
          obtain rfl : z26 = 3 := by omega
          refine n_dup_x102 c_20_29 (n_iconst c_20_30 (n_iadd c_20_31 rfl (n_putV (bi := 2) hS23 c_20_32 sc_44.n rfl rfl rfl rfl (w_44_2 (by omega)) ?_)))
          intro M28 eM28 hS28
          have g28_0 : M28 44 0 = M23 44 0 := by rw [eM28]; exact nu_i (by omega)
          have g28_1 : M28 44 5 = M23 44 5 := by rw [eM28]; exact nu_i (by omega)
          have g28_2 : M28 44 2 = (3 + 1) := by rw [eM28]; exact nu_s _ _ _ _
          refine n_iastoreV hS28 c_20_35 sc_45.n rfl (by omega) (w_45 (by omega) (by omega)) ?_
          intro M29 eM29 hS29
          have g29_0 : M29 44 0 = M28 44 0 := by rw [eM29]; exact nu_a (by omega)
          have g29_1 : M29 44 5 = M28 44 5 := by rw [eM29]; exact nu_a (by omega)
          have g29_2 : M29 44 2 = M28 44 2 := by rw [eM29]; exact nu_a (by omega)
          refine n_iinc (L2 := [some (2, 44), some (0, 2), some (2, 4), some (0, (((((4 - 1) + (-1)) + (-1)) + (-1)) + (-1)))]) c_20_36 rfl rfl rfl (n_goto c_20_39 (n_iload_n c_20_15 rfl ?_))
          refine n_if0_lt c_20_16 (by omega) ?_ ?_
          · intro h30
            refine n_aload_n c_20_42 rfl (n_aload_n c_20_43 rfl (n_v1V c_20_44 rfl sc_44.n rfl rfl rfl rfl (repeat_2  hS29 ) ?_))
            intro  M31 hP32
            have hS31 := hP32
            exact n_rV c_20_47 rfl hS31
          · intro h33
            exfalso; omega

set_option maxHeartbeats 4000000 in
theorem beFree3_2 {xs : List Int32} {e : Nat} {ac : Int} {M0 M : nM} (hS : Sf 2 ac M0 M)  : nW xs (e + 2) 20 0 [some (2, 44), some (0, 3), some (2, 4), none] [] M (nPV fun M1 => Sf 2 ac M0 M1) := by
  have hd : (2 : Int) = 2 ∨ (2 : Int) = 3 := by decide
  have hac := hS.2.2.2.2
  refine n_aload_n c_20_0 rfl (n_iload_n c_20_1 rfl (n_iconst c_20_2 (n_aload_n c_20_3 rfl (n_v3V c_20_4 rfl sc_44.n rfl rfl rfl rfl (begin_2 (n := 3) (c := 0) hS (by omega) (by omega)) ?_))))
  intro  M1 hP2
  obtain ⟨hS1, f2p0⟩ := hP2
  refine n_aload_n c_20_7 rfl (n_iload_n c_20_8 rfl (n_v1I c_20_9 rfl sc_4.n rfl rfl rfl rfl (power3_2  hS1 ) ?_))
  intro z3 M4 hP5
  obtain ⟨eM, f5⟩ := hP5
  subst eM
  obtain rfl : z3 = 8 := by omega
  refine n_iconst c_20_12 (n_isub c_20_13 rfl (n_istore_n (L2 := [some (2, 44), some (0, 3), some (2, 4), some (0, (8 - 1))]) c_20_14 rfl rfl (n_iload_n c_20_15 rfl ?_)))
  refine n_if0_lt c_20_16 (by omega) ?_ ?_
  · intro h6
    exfalso; omega
  · intro h7
    refine n_aload_n c_20_19 rfl (n_getR c_20_20 sc_44.n rfl rfl rfl r_44_4 (n_iload_n c_20_23 rfl (n_aload_n c_20_24 rfl (n_dup2 c_20_25 (n_getV (bi := 2) c_20_26 sc_44.n rfl rfl rfl (t_44_2 hS1) ?_)))))
    intro z8 ez8 f9
    obtain rfl : z8 = 0 := by omega
    refine n_dup_x102 c_20_29 (n_iconst c_20_30 (n_iadd c_20_31 rfl (n_putV (bi := 2) hS1 c_20_32 sc_44.n rfl rfl rfl rfl (w_44_2 (by omega)) ?_)))
    intro M10 eM10 hS10
    have g10_0 : M10 44 0 = M1 44 0 := by rw [eM10]; exact nu_i (by omega)
    have g10_1 : M10 44 5 = M1 44 5 := by rw [eM10]; exact nu_i (by omega)
    have g10_2 : M10 44 2 = (0 + 1) := by rw [eM10]; exact nu_s _ _ _ _
    refine n_iastoreV hS10 c_20_35 sc_45.n rfl (by omega) (w_45 (by omega) (by omega)) ?_
    intro M11 eM11 hS11
    have g11_0 : M11 44 0 = M10 44 0 := by rw [eM11]; exact nu_a (by omega)
    have g11_1 : M11 44 5 = M10 44 5 := by rw [eM11]; exact nu_a (by omega)
    have g11_2 : M11 44 2 = M10 44 2 := by rw [eM11]; exact nu_a (by omega)
    refine n_iinc (L2 := [some (2, 44), some (0, 3), some (2, 4), some (0, ((8 - 1) + (-1)))]) c_20_36 rfl rfl rfl (n_goto c_20_39 (n_iload_n c_20_15 rfl ?_))
    refine n_if0_lt c_20_16 (by omega) ?_ ?_
    · intro h12
      exfalso; omega
    · intro h13
      refine n_aload_n c_20_19 rfl (n_getR c_20_20 sc_44.n rfl rfl rfl r_44_4 (n_iload_n c_20_23 rfl (n_aload_n c_20_24 rfl (n_dup2 c_20_25 (n_getV (bi := 2) c_20_26 sc_44.n rfl rfl rfl (t_44_2 hS11) ?_)))))
      intro z14 ez14 f15
      obtain rfl : z14 = 1 := by omega
      refine n_dup_x102 c_20_29 (n_iconst c_20_30 (n_iadd c_20_31 rfl (n_putV (bi := 2) hS11 c_20_32 sc_44.n rfl rfl rfl rfl (w_44_2 (by omega)) ?_)))
      intro M16 eM16 hS16
      have g16_0 : M16 44 0 = M11 44 0 := by rw [eM16]; exact nu_i (by omega)
      have g16_1 : M16 44 5 = M11 44 5 := by rw [eM16]; exact nu_i (by omega)
      have g16_2 : M16 44 2 = (1 + 1) := by rw [eM16]; exact nu_s _ _ _ _
      refine n_iastoreV hS16 c_20_35 sc_45.n rfl (by omega) (w_45 (by omega) (by omega)) ?_
      intro M17 eM17 hS17
      have g17_0 : M17 44 0 = M16 44 0 := by rw [eM17]; exact nu_a (by omega)
      have g17_1 : M17 44 5 = M16 44 5 := by rw [eM17]; exact nu_a (by omega)
      have g17_2 : M17 44 2 = M16 44 2 := by rw [eM17]; exact nu_a (by omega)
      refine n_iinc (L2 := [some (2, 44), some (0, 3), some (2, 4), some (0, (((8 - 1) + (-1)) + (-1)))]) c_20_36 rfl rfl rfl (n_goto c_20_39 (n_iload_n c_20_15 rfl ?_))
      refine n_if0_lt c_20_16 (by omega) ?_ ?_
      · intro h18
        exfalso; omega
      · intro h19
        refine n_aload_n c_20_19 rfl (n_getR c_20_20 sc_44.n rfl rfl rfl r_44_4 (n_iload_n c_20_23 rfl (n_aload_n c_20_24 rfl (n_dup2 c_20_25 (n_getV (bi := 2) c_20_26 sc_44.n rfl rfl rfl (t_44_2 hS17) ?_)))))
        intro z20 ez20 f21
        obtain rfl : z20 = 2 := by omega
        refine n_dup_x102 c_20_29 (n_iconst c_20_30 (n_iadd c_20_31 rfl (n_putV (bi := 2) hS17 c_20_32 sc_44.n rfl rfl rfl rfl (w_44_2 (by omega)) ?_)))
        intro M22 eM22 hS22
        have g22_0 : M22 44 0 = M17 44 0 := by rw [eM22]; exact nu_i (by omega)
        have g22_1 : M22 44 5 = M17 44 5 := by rw [eM22]; exact nu_i (by omega)
        have g22_2 : M22 44 2 = (2 + 1) := by rw [eM22]; exact nu_s _ _ _ _
        refine n_iastoreV hS22 c_20_35 sc_45.n rfl (by omega) (w_45 (by omega) (by omega)) ?_
        intro M23 eM23 hS23
        have g23_0 : M23 44 0 = M22 44 0 := by rw [eM23]; exact nu_a (by omega)
        have g23_1 : M23 44 5 = M22 44 5 := by rw [eM23]; exact nu_a (by omega)
        have g23_2 : M23 44 2 = M22 44 2 := by rw [eM23]; exact nu_a (by omega)
        refine n_iinc (L2 := [some (2, 44), some (0, 3), some (2, 4), some (0, ((((8 - 1) + (-1)) + (-1)) + (-1)))]) c_20_36 rfl rfl rfl (n_goto c_20_39 (n_iload_n c_20_15 rfl ?_))
        refine n_if0_lt c_20_16 (by omega) ?_ ?_
        · intro h24
          exfalso; omega
        · intro h25
          refine n_aload_n c_20_19 rfl (n_getR c_20_20 sc_44.n rfl rfl rfl r_44_4 (n_iload_n c_20_23 rfl (n_aload_n c_20_24 rfl (n_dup2 c_20_25 (n_getV (bi := 2) c_20_26 sc_44.n rfl rfl rfl (t_44_2 hS23) ?_)))))
          intro z26 ez26 f27
          obtain rfl : z26 = 3 := by omega
          refine n_dup_x102 c_20_29 (n_iconst c_20_30 (n_iadd c_20_31 rfl (n_putV (bi := 2) hS23 c_20_32 sc_44.n rfl rfl rfl rfl (w_44_2 (by omega)) ?_)))
          intro M28 eM28 hS28
          have g28_0 : M28 44 0 = M23 44 0 := by rw [eM28]; exact nu_i (by omega)
          have g28_1 : M28 44 5 = M23 44 5 := by rw [eM28]; exact nu_i (by omega)
          have g28_2 : M28 44 2 = (3 + 1) := by rw [eM28]; exact nu_s _ _ _ _
          refine n_iastoreV hS28 c_20_35 sc_45.n rfl (by omega) (w_45 (by omega) (by omega)) ?_
          intro M29 eM29 hS29
          have g29_0 : M29 44 0 = M28 44 0 := by rw [eM29]; exact nu_a (by omega)
          have g29_1 : M29 44 5 = M28 44 5 := by rw [eM29]; exact nu_a (by omega)
          have g29_2 : M29 44 2 = M28 44 2 := by rw [eM29]; exact nu_a (by omega)
          refine n_iinc (L2 := [some (2, 44), some (0, 3), some (2, 4), some (0, (((((8 - 1) + (-1)) + (-1)) + (-1)) + (-1)))]) c_20_36 rfl rfl rfl (n_goto c_20_39 (n_iload_n c_20_15 rfl ?_))
          refine n_if0_lt c_20_16 (by omega) ?_ ?_
          · intro h30
            exfalso; omega
          · intro h31
            refine n_aload_n c_20_19 rfl (n_getR c_20_20 sc_44.n rfl rfl rfl r_44_4 (n_iload_n c_20_23 rfl (n_aload_n c_20_24 rfl (n_dup2 c_20_25 (n_getV (bi := 2) c_20_26 sc_44.n rfl rfl rfl (t_44_2 hS29) ?_)))))
            intro z32 ez32 f33
            obtain rfl : z32 = 4 := by omega
            refine n_dup_x102 c_20_29 (n_iconst c_20_30 (n_iadd c_20_31 rfl (n_putV (bi := 2) hS29 c_20_32 sc_44.n rfl rfl rfl rfl (w_44_2 (by omega)) ?_)))
            intro M34 eM34 hS34
            have g34_0 : M34 44 0 = M29 44 0 := by rw [eM34]; exact nu_i (by omega)
            have g34_1 : M34 44 5 = M29 44 5 := by rw [eM34]; exact nu_i (by omega)
            have g34_2 : M34 44 2 = (4 + 1) := by rw [eM34]; exact nu_s _ _ _ _
            refine n_iastoreV hS34 c_20_35 sc_45.n rfl (by omega) (w_45 (by omega) (by omega)) ?_
            intro M35 eM35 hS35
            have g35_0 : M35 44 0 = M34 44 0 := by rw [eM35]; exact nu_a (by omega)
            have g35_1 : M35 44 5 = M34 44 5 := by rw [eM35]; exact nu_a (by omega)
            have g35_2 : M35 44 2 = M34 44 2 := by rw [eM35]; exact nu_a (by omega)
            refine n_iinc (L2 := [some (2, 44), some (0, 3), some (2, 4), some (0, ((((((8 - 1) + (-1)) + (-1)) + (-1)) + (-1)) + (-1)))]) c_20_36 rfl rfl rfl (n_goto c_20_39 (n_iload_n c_20_15 rfl ?_))
            refine n_if0_lt c_20_16 (by omega) ?_ ?_
            · intro h36
              exfalso; omega
            · intro h37
              refine n_aload_n c_20_19 rfl (n_getR c_20_20 sc_44.n rfl rfl rfl r_44_4 (n_iload_n c_20_23 rfl (n_aload_n c_20_24 rfl (n_dup2 c_20_25 (n_getV (bi := 2) c_20_26 sc_44.n rfl rfl rfl (t_44_2 hS35) ?_)))))
              intro z38 ez38 f39
              obtain rfl : z38 = 5 := by omega
              refine n_dup_x102 c_20_29 (n_iconst c_20_30 (n_iadd c_20_31 rfl (n_putV (bi := 2) hS35 c_20_32 sc_44.n rfl rfl rfl rfl (w_44_2 (by omega)) ?_)))
              intro M40 eM40 hS40
              have g40_0 : M40 44 0 = M35 44 0 := by rw [eM40]; exact nu_i (by omega)
              have g40_1 : M40 44 5 = M35 44 5 := by rw [eM40]; exact nu_i (by omega)
              have g40_2 : M40 44 2 = (5 + 1) := by rw [eM40]; exact nu_s _ _ _ _
              refine n_iastoreV hS40 c_20_35 sc_45.n rfl (by omega) (w_45 (by omega) (by omega)) ?_
              intro M41 eM41 hS41
              have g41_0 : M41 44 0 = M40 44 0 := by rw [eM41]; exact nu_a (by omega)
              have g41_1 : M41 44 5 = M40 44 5 := by rw [eM41]; exact nu_a (by omega)
              have g41_2 : M41 44 2 = M40 44 2 := by rw [eM41]; exact nu_a (by omega)
              refine n_iinc (L2 := [some (2, 44), some (0, 3), some (2, 4), some (0, (((((((8 - 1) + (-1)) + (-1)) + (-1)) + (-1)) + (-1)) + (-1)))]) c_20_36 rfl rfl rfl (n_goto c_20_39 (n_iload_n c_20_15 rfl ?_))
              refine n_if0_lt c_20_16 (by omega) ?_ ?_
              · intro h42
                exfalso; omega
              · intro h43
                refine n_aload_n c_20_19 rfl (n_getR c_20_20 sc_44.n rfl rfl rfl r_44_4 (n_iload_n c_20_23 rfl (n_aload_n c_20_24 rfl (n_dup2 c_20_25 (n_getV (bi := 2) c_20_26 sc_44.n rfl rfl rfl (t_44_2 hS41) ?_)))))
                intro z44 ez44 f45
                obtain rfl : z44 = 6 := by omega
                refine n_dup_x102 c_20_29 (n_iconst c_20_30 (n_iadd c_20_31 rfl (n_putV (bi := 2) hS41 c_20_32 sc_44.n rfl rfl rfl rfl (w_44_2 (by omega)) ?_)))
                intro M46 eM46 hS46
                have g46_0 : M46 44 0 = M41 44 0 := by rw [eM46]; exact nu_i (by omega)
                have g46_1 : M46 44 5 = M41 44 5 := by rw [eM46]; exact nu_i (by omega)
                have g46_2 : M46 44 2 = (6 + 1) := by rw [eM46]; exact nu_s _ _ _ _
                refine n_iastoreV hS46 c_20_35 sc_45.n rfl (by omega) (w_45 (by omega) (by omega)) ?_
                intro M47 eM47 hS47
                have g47_0 : M47 44 0 = M46 44 0 := by rw [eM47]; exact nu_a (by omega)
                have g47_1 : M47 44 5 = M46 44 5 := by rw [eM47]; exact nu_a (by omega)
                have g47_2 : M47 44 2 = M46 44 2 := by rw [eM47]; exact nu_a (by omega)
                refine n_iinc (L2 := [some (2, 44), some (0, 3), some (2, 4), some (0, ((((((((8 - 1) + (-1)) + (-1)) + (-1)) + (-1)) + (-1)) + (-1)) + (-1)))]) c_20_36 rfl rfl rfl (n_goto c_20_39 (n_iload_n c_20_15 rfl ?_))
                refine n_if0_lt c_20_16 (by omega) ?_ ?_
                · intro h48
                  exfalso; omega
                · intro h49
                  refine n_aload_n c_20_19 rfl (n_getR c_20_20 sc_44.n rfl rfl rfl r_44_4 (n_iload_n c_20_23 rfl (n_aload_n c_20_24 rfl (n_dup2 c_20_25 (n_getV (bi := 2) c_20_26 sc_44.n rfl rfl rfl (t_44_2 hS47) ?_)))))
                  intro z50 ez50 f51
                  obtain rfl : z50 = 7 := by omega
                  refine n_dup_x102 c_20_29 (n_iconst c_20_30 (n_iadd c_20_31 rfl (n_putV (bi := 2) hS47 c_20_32 sc_44.n rfl rfl rfl rfl (w_44_2 (by omega)) ?_)))
                  intro M52 eM52 hS52
                  have g52_0 : M52 44 0 = M47 44 0 := by rw [eM52]; exact nu_i (by omega)
                  have g52_1 : M52 44 5 = M47 44 5 := by rw [eM52]; exact nu_i (by omega)
                  have g52_2 : M52 44 2 = (7 + 1) := by rw [eM52]; exact nu_s _ _ _ _
                  refine n_iastoreV hS52 c_20_35 sc_45.n rfl (by omega) (w_45 (by omega) (by omega)) ?_
                  intro M53 eM53 hS53
                  have g53_0 : M53 44 0 = M52 44 0 := by rw [eM53]; exact nu_a (by omega)
                  have g53_1 : M53 44 5 = M52 44 5 := by rw [eM53]; exact nu_a (by omega)
                  have g53_2 : M53 44 2 = M52 44 2 := by rw [eM53]; exact nu_a (by omega)
                  refine n_iinc (L2 := [some (2, 44), some (0, 3), some (2, 4), some (0, (((((((((8 - 1) + (-1)) + (-1)) + (-1)) + (-1)) + (-1)) + (-1)) + (-1)) + (-1)))]) c_20_36 rfl rfl rfl (n_goto c_20_39 (n_iload_n c_20_15 rfl ?_))
                  refine n_if0_lt c_20_16 (by omega) ?_ ?_
                  · intro h54
                    refine n_aload_n c_20_42 rfl (n_aload_n c_20_43 rfl (n_v1V c_20_44 rfl sc_44.n rfl rfl rfl rfl (repeat_2  hS53 ) ?_))
                    intro  M55 hP56
                    have hS55 := hP56
                    exact n_rV c_20_47 rfl hS55
                  · intro h57
                    exfalso; omega

set_option maxHeartbeats 4000000 in
theorem beFree_2 {xs : List Int32} {e : Nat} {ac : Int} {M0 M : nM} {n : Int} (hS : Sf 2 ac M0 M) (hn : 1 ≤ n ∧ n ≤ 3) : nW xs (e + 2) 20 0 [some (2, 44), some (0, n), some (2, 4), none] [] M (nPV fun M1 => Sf 2 ac M0 M1) := by
  rcases (show n = 1 ∨ n = 2 ∨ n = 3 by omega) with rfl | rfl | rfl
  · exact n_post (beFree1_2 hS ) (fun w M1 h => h)
  · exact n_post (beFree2_2 hS ) (fun w M1 h => h)
  · exact n_post (beFree3_2 hS ) (fun w M1 h => h)

set_option maxHeartbeats 4000000 in
theorem beHalf_2 {xs : List Int32} {e : Nat} {ac : Int} {M0 M : nM} (hS : Sf 2 ac M0 M)  : nW xs (e + 2) 21 0 [some (2, 44), some (2, 4), none, none] [] M (nPV fun M1 => Sf 2 ac M0 M1) := by
  have hd : (2 : Int) = 2 ∨ (2 : Int) = 3 := by decide
  have hac := hS.2.2.2.2
  refine n_aload_n c_21_0 rfl (n_iconst c_21_1 (n_aload_n c_21_2 rfl (n_getV (bi := 0) c_21_3 sc_4.n rfl rfl rfl (t_4_0 hS) ?_)))
  intro z1 ez1 f2
  obtain rfl : z1 = 2 := by omega
  refine n_aload_n c_21_6 rfl (n_v3V c_21_7 rfl sc_44.n rfl rfl rfl rfl (begin_2 (n := 2) (c := 2) hS (by omega) (by omega)) ?_)
  intro  M3 hP4
  obtain ⟨hS3, f4p0⟩ := hP4
  refine n_aload_n c_21_10 rfl (n_iconst c_21_11 (n_putZV (bi := 3) hS3 c_21_12 sc_44.n rfl rfl rfl (by omega) rfl (w_44_3 (by omega)) ?_))
  intro M5 eM5 hS5
  have g5_0 : M5 44 2 = M3 44 2 := by rw [eM5]; exact nu_i (by omega)
  have g5_1 : M5 44 0 = M3 44 0 := by rw [eM5]; exact nu_i (by omega)
  have g5_2 : M5 44 5 = M3 44 5 := by rw [eM5]; exact nu_i (by omega)
  have g5_3 : M5 44 3 = 1 := by rw [eM5]; exact nu_s _ _ _ _
  refine n_aload_n c_21_15 rfl (n_getV (bi := 5) c_21_16 sc_44.n rfl rfl rfl (t_44_5 hS5) ?_)
  intro z6 ez6 f7
  obtain rfl : z6 = 2 := by omega
  refine n_iconst c_21_19 (n_isub c_21_20 rfl (n_istore_n (L2 := [some (2, 44), some (2, 4), some (0, (2 - 1)), none]) c_21_21 rfl rfl (n_iload_n c_21_22 rfl ?_)))
  refine n_if0_lt c_21_23 (by omega) ?_ ?_
  · intro h8
    exfalso; omega
  · intro h9
    refine n_aload_n c_21_26 rfl (n_getR c_21_27 sc_44.n rfl rfl rfl r_44_4 (n_iload_n c_21_30 rfl (n_aload_n c_21_31 rfl (n_getV (bi := 5) c_21_32 sc_44.n rfl rfl rfl (t_44_5 hS5) ?_))))
    intro z10 ez10 f11
    obtain rfl : z10 = 2 := by omega
    refine n_imul c_21_35 rfl (n_iload_n c_21_36 rfl (n_iadd c_21_37 rfl (n_iload_n c_21_38 rfl (n_iastoreV hS5 c_21_39 sc_45.n rfl (by omega) (w_45 (by omega) (by omega)) ?_))))
    intro M12 eM12 hS12
    have g12_0 : M12 44 2 = M5 44 2 := by rw [eM12]; exact nu_a (by omega)
    have g12_1 : M12 44 0 = M5 44 0 := by rw [eM12]; exact nu_a (by omega)
    have g12_2 : M12 44 5 = M5 44 5 := by rw [eM12]; exact nu_a (by omega)
    have g12_3 : M12 44 3 = M5 44 3 := by rw [eM12]; exact nu_a (by omega)
    refine n_iload_n c_21_40 rfl (n_iconst c_21_41 (n_isub c_21_42 rfl (n_istore_n (L2 := [some (2, 44), some (2, 4), some (0, (2 - 1)), some (0, ((2 - 1) - 1))]) c_21_43 rfl rfl (n_iload_n c_21_44 rfl ?_))))
    refine n_if0_lt c_21_45 (by omega) ?_ ?_
    · intro h13
      exfalso; omega
    · intro h14
      refine n_aload_n c_21_48 rfl (n_getR c_21_49 sc_44.n rfl rfl rfl r_44_4 (n_iload_n c_21_52 rfl (n_aload_n c_21_53 rfl (n_getV (bi := 5) c_21_54 sc_44.n rfl rfl rfl (t_44_5 hS12) ?_))))
      intro z15 ez15 f16
      obtain rfl : z15 = 2 := by omega
      refine n_imul c_21_57 rfl (n_iload_n c_21_58 rfl (n_iadd c_21_59 rfl (n_aload_n c_21_60 rfl (n_getV (bi := 2) c_21_61 sc_44.n rfl rfl rfl (t_44_2 hS12) ?_))))
      intro z17 ez17 f18
      obtain rfl : z17 = 2 := by omega
      refine n_iastoreV hS12 c_21_64 sc_45.n rfl (by omega) (w_45 (by omega) (by omega)) ?_
      intro M19 eM19 hS19
      have g19_0 : M19 44 2 = M12 44 2 := by rw [eM19]; exact nu_a (by omega)
      have g19_1 : M19 44 0 = M12 44 0 := by rw [eM19]; exact nu_a (by omega)
      have g19_2 : M19 44 5 = M12 44 5 := by rw [eM19]; exact nu_a (by omega)
      have g19_3 : M19 44 3 = M12 44 3 := by rw [eM19]; exact nu_a (by omega)
      refine n_aload_n c_21_65 rfl (n_getR c_21_66 sc_44.n rfl rfl rfl r_44_4 (n_iload_n c_21_69 rfl (n_aload_n c_21_70 rfl (n_getV (bi := 5) c_21_71 sc_44.n rfl rfl rfl (t_44_5 hS19) ?_))))
      intro z20 ez20 f21
      obtain rfl : z20 = 2 := by omega
      refine n_imul c_21_74 rfl (n_iload_n c_21_75 rfl (n_iadd c_21_76 rfl (n_aload_n c_21_77 rfl (n_getV (bi := 2) c_21_78 sc_44.n rfl rfl rfl (t_44_2 hS19) ?_))))
      intro z22 ez22 f23
      obtain rfl : z22 = 2 := by omega
      refine n_iastoreV hS19 c_21_81 sc_45.n rfl (by omega) (w_45 (by omega) (by omega)) ?_
      intro M24 eM24 hS24
      have g24_0 : M24 44 2 = M19 44 2 := by rw [eM24]; exact nu_a (by omega)
      have g24_1 : M24 44 0 = M19 44 0 := by rw [eM24]; exact nu_a (by omega)
      have g24_2 : M24 44 5 = M19 44 5 := by rw [eM24]; exact nu_a (by omega)
      have g24_3 : M24 44 3 = M19 44 3 := by rw [eM24]; exact nu_a (by omega)
      refine n_aload_n c_21_82 rfl (n_dup2 c_21_83 (n_getV (bi := 2) c_21_84 sc_44.n rfl rfl rfl (t_44_2 hS24) ?_))
      intro z25 ez25 f26
      obtain rfl : z25 = 2 := by omega
      refine n_iconst c_21_87 (n_iadd c_21_88 rfl (n_putV (bi := 2) hS24 c_21_89 sc_44.n rfl rfl rfl rfl (w_44_2 (by omega)) ?_))
      intro M27 eM27 hS27
      have g27_0 : M27 44 0 = M24 44 0 := by rw [eM27]; exact nu_i (by omega)
      have g27_1 : M27 44 5 = M24 44 5 := by rw [eM27]; exact nu_i (by omega)
      have g27_2 : M27 44 3 = M24 44 3 := by rw [eM27]; exact nu_i (by omega)
      have g27_3 : M27 44 2 = (2 + 1) := by rw [eM27]; exact nu_s _ _ _ _
      refine n_iinc (L2 := [some (2, 44), some (2, 4), some (0, (2 - 1)), some (0, (((2 - 1) - 1) + (-1)))]) c_21_92 rfl rfl rfl (n_goto c_21_95 (n_iload_n c_21_44 rfl ?_))
      refine n_if0_lt c_21_45 (by omega) ?_ ?_
      · intro h28
        refine n_iinc (L2 := [some (2, 44), some (2, 4), some (0, ((2 - 1) + (-1))), some (0, (((2 - 1) - 1) + (-1)))]) c_21_98 rfl rfl rfl (n_goto c_21_101 (n_iload_n c_21_22 rfl ?_))
        refine n_if0_lt c_21_23 (by omega) ?_ ?_
        · intro h29
          exfalso; omega
        · intro h30
          refine n_aload_n c_21_26 rfl (n_getR c_21_27 sc_44.n rfl rfl rfl r_44_4 (n_iload_n c_21_30 rfl (n_aload_n c_21_31 rfl (n_getV (bi := 5) c_21_32 sc_44.n rfl rfl rfl (t_44_5 hS27) ?_))))
          intro z31 ez31 f32
          obtain rfl : z31 = 2 := by omega
          refine n_imul c_21_35 rfl (n_iload_n c_21_36 rfl (n_iadd c_21_37 rfl (n_iload_n c_21_38 rfl (n_iastoreV hS27 c_21_39 sc_45.n rfl (by omega) (w_45 (by omega) (by omega)) ?_))))
          intro M33 eM33 hS33
          have g33_0 : M33 44 0 = M27 44 0 := by rw [eM33]; exact nu_a (by omega)
          have g33_1 : M33 44 5 = M27 44 5 := by rw [eM33]; exact nu_a (by omega)
          have g33_2 : M33 44 3 = M27 44 3 := by rw [eM33]; exact nu_a (by omega)
          have g33_3 : M33 44 2 = M27 44 2 := by rw [eM33]; exact nu_a (by omega)
          refine n_iload_n c_21_40 rfl (n_iconst c_21_41 (n_isub c_21_42 rfl (n_istore_n (L2 := [some (2, 44), some (2, 4), some (0, ((2 - 1) + (-1))), some (0, (((2 - 1) + (-1)) - 1))]) c_21_43 rfl rfl (n_iload_n c_21_44 rfl ?_))))
          refine n_if0_lt c_21_45 (by omega) ?_ ?_
          · intro h34
            refine n_iinc (L2 := [some (2, 44), some (2, 4), some (0, (((2 - 1) + (-1)) + (-1))), some (0, (((2 - 1) + (-1)) - 1))]) c_21_98 rfl rfl rfl (n_goto c_21_101 (n_iload_n c_21_22 rfl ?_))
            refine n_if0_lt c_21_23 (by omega) ?_ ?_
            · intro h35
              refine n_aload_n c_21_104 rfl (n_aload_n c_21_105 rfl (n_v1V c_21_106 rfl sc_44.n rfl rfl rfl rfl (repeat_2  hS33 ) ?_))
              intro  M36 hP37
              have hS36 := hP37
              exact n_rV c_21_109 rfl hS36
            · intro h38
              exfalso; omega
          · intro h39
            exfalso; omega
      · intro h40
        exfalso; omega

set_option maxHeartbeats 4000000 in
theorem beMost_2_c {xs : List Int32} {e : Nat} {ac : Int} {M0 M : nM} (hS : Sf 2 ac M0 M)  : ∀ nn : Nat, (∀ (x2 : Int) (M : nM), Sf 2 ac M0 M → (-1 ≤ x2 ∧ x2 ≤ 7) → (M 44 2 ≤ 2) → (x2 - (-1)) * 1 + 1 < (nn : Int) → nW xs (e + 1) 22 17 [some (2, 44), some (2, 4), some (0, x2), none, none, none] [] M (nPV fun M1 => Sf 2 ac M0 M1)) := by
  have hd : (2 : Int) = 2 ∨ (2 : Int) = 3 := by decide
  have hac := hS.2.2.2.2
  intro nn
  induction nn with
  | zero => intros; omega
  | succ nn ih =>
    intro x2 M hS k2 v0 hnn
    rcases (show x2 = (-1) ∨ x2 = 0 ∨ x2 = 1 ∨ x2 = 2 ∨ x2 = 3 ∨ x2 = 4 ∨ x2 = 5 ∨ x2 = 6 ∨ x2 = 7 by omega) with rfl | rfl | rfl | rfl | rfl | rfl | rfl | rfl | rfl
    · skip
      refine n_iload_n c_22_17 rfl ?_
      refine n_if0_lt c_22_18 (by omega) ?_ ?_
      · intro h1
        exact n_rV c_22_107 rfl hS
      · intro h2
        exfalso; omega
    · skip
      refine n_iload_n c_22_17 rfl ?_
      refine n_if0_lt c_22_18 (by omega) ?_ ?_
      · intro h3
        exfalso; omega
      · intro h4
        refine n_aload_n c_22_21 rfl (n_getR c_22_22 sc_4.n rfl rfl rfl r_4_2 (n_iload_n c_22_25 rfl (n_ialoadV c_22_26 sc_5.n rfl rfl rfl (by omega) (t_5k (z := 0) hS (by omega) (by omega) (by omega)) ?_)))
        intro z5 ez5 f6
        refine n_istore_n (L2 := [some (2, 44), some (2, 4), some (0, 0), some (0, z5), none, none]) c_22_27 rfl rfl (n_aload_n c_22_28 rfl (n_getR c_22_29 sc_4.n rfl rfl rfl r_4_3 (n_iload_n c_22_32 rfl (n_ialoadV c_22_33 sc_6.n rfl rfl rfl (by omega) (t_6k (z := 0) hS (by omega) (by omega) (by omega)) ?_))))
        intro z7 ez7 f8
        refine n_istore (L2 := [some (2, 44), some (2, 4), some (0, 0), some (0, z5), some (0, z7), none]) c_22_34 rfl rfl (n_aload_n c_22_36 rfl (n_getR c_22_37 sc_4.n rfl rfl rfl r_4_4 (n_iload_n c_22_40 rfl (n_ialoadV c_22_41 sc_7.n rfl rfl rfl (by omega) (t_7k (z := 0) hS (by omega) (by omega) (by omega)) ?_))))
        intro z9 ez9 f10
        refine n_istore (L2 := [some (2, 44), some (2, 4), some (0, 0), some (0, z5), some (0, z7), some (0, z9)]) c_22_42 rfl rfl (n_iload_n c_22_44 rfl (n_iload c_22_45 rfl ?_))
        refine n_if2_eq c_22_47 (by omega) (by omega) ?_ ?_
        · intro h11
          refine n_aload_n c_22_56 rfl (n_getR c_22_57 sc_44.n rfl rfl rfl r_44_4 (n_iload_n c_22_60 rfl (n_iload_n c_22_61 rfl (n_iastoreV hS c_22_62 sc_45.n rfl (by omega) (w_45 (by omega) (by omega)) ?_))))
          intro M12 eM12 hS12
          have g12_0 : M12 44 2 = M 44 2 := by rw [eM12]; exact nu_a (by omega)
          refine n_goto c_22_63 (n_iinc (L2 := [some (2, 44), some (2, 4), some (0, (0 + (-1))), some (0, z5), some (0, z7), some (0, z9)]) c_22_101 rfl rfl rfl (n_goto c_22_104 (n_fg (le_s (le_s (le_s (le_n (le_n (le_n le_0)))))) ?_)))
          exact ih _ M12 hS12 (by omega) (by omega) (by omega)
        · intro h13
          exfalso; omega
    · skip
      refine n_iload_n c_22_17 rfl ?_
      refine n_if0_lt c_22_18 (by omega) ?_ ?_
      · intro h14
        exfalso; omega
      · intro h15
        refine n_aload_n c_22_21 rfl (n_getR c_22_22 sc_4.n rfl rfl rfl r_4_2 (n_iload_n c_22_25 rfl (n_ialoadV c_22_26 sc_5.n rfl rfl rfl (by omega) (t_5k (z := 0) hS (by omega) (by omega) (by omega)) ?_)))
        intro z16 ez16 f17
        refine n_istore_n (L2 := [some (2, 44), some (2, 4), some (0, 1), some (0, z16), none, none]) c_22_27 rfl rfl (n_aload_n c_22_28 rfl (n_getR c_22_29 sc_4.n rfl rfl rfl r_4_3 (n_iload_n c_22_32 rfl (n_ialoadV c_22_33 sc_6.n rfl rfl rfl (by omega) (t_6k (z := 0) hS (by omega) (by omega) (by omega)) ?_))))
        intro z18 ez18 f19
        refine n_istore (L2 := [some (2, 44), some (2, 4), some (0, 1), some (0, z16), some (0, z18), none]) c_22_34 rfl rfl (n_aload_n c_22_36 rfl (n_getR c_22_37 sc_4.n rfl rfl rfl r_4_4 (n_iload_n c_22_40 rfl (n_ialoadV c_22_41 sc_7.n rfl rfl rfl (by omega) (t_7k (z := 1) hS (by omega) (by omega) (by omega)) ?_))))
        intro z20 ez20 f21
        refine n_istore (L2 := [some (2, 44), some (2, 4), some (0, 1), some (0, z16), some (0, z18), some (0, z20)]) c_22_42 rfl rfl (n_iload_n c_22_44 rfl (n_iload c_22_45 rfl ?_))
        refine n_if2_eq c_22_47 (by omega) (by omega) ?_ ?_
        · intro h22
          refine n_aload_n c_22_56 rfl (n_getR c_22_57 sc_44.n rfl rfl rfl r_44_4 (n_iload_n c_22_60 rfl (n_iload_n c_22_61 rfl (n_iastoreV hS c_22_62 sc_45.n rfl (by omega) (w_45 (by omega) (by omega)) ?_))))
          intro M23 eM23 hS23
          have g23_0 : M23 44 2 = M 44 2 := by rw [eM23]; exact nu_a (by omega)
          refine n_goto c_22_63 (n_iinc (L2 := [some (2, 44), some (2, 4), some (0, (1 + (-1))), some (0, z16), some (0, z18), some (0, z20)]) c_22_101 rfl rfl rfl (n_goto c_22_104 (n_fg (le_s (le_s (le_s (le_n (le_n (le_n le_0)))))) ?_)))
          exact ih _ M23 hS23 (by omega) (by omega) (by omega)
        · intro h24
          exfalso; omega
    · skip
      refine n_iload_n c_22_17 rfl ?_
      refine n_if0_lt c_22_18 (by omega) ?_ ?_
      · intro h25
        exfalso; omega
      · intro h26
        refine n_aload_n c_22_21 rfl (n_getR c_22_22 sc_4.n rfl rfl rfl r_4_2 (n_iload_n c_22_25 rfl (n_ialoadV c_22_26 sc_5.n rfl rfl rfl (by omega) (t_5k (z := 0) hS (by omega) (by omega) (by omega)) ?_)))
        intro z27 ez27 f28
        refine n_istore_n (L2 := [some (2, 44), some (2, 4), some (0, 2), some (0, z27), none, none]) c_22_27 rfl rfl (n_aload_n c_22_28 rfl (n_getR c_22_29 sc_4.n rfl rfl rfl r_4_3 (n_iload_n c_22_32 rfl (n_ialoadV c_22_33 sc_6.n rfl rfl rfl (by omega) (t_6k (z := 1) hS (by omega) (by omega) (by omega)) ?_))))
        intro z29 ez29 f30
        refine n_istore (L2 := [some (2, 44), some (2, 4), some (0, 2), some (0, z27), some (0, z29), none]) c_22_34 rfl rfl (n_aload_n c_22_36 rfl (n_getR c_22_37 sc_4.n rfl rfl rfl r_4_4 (n_iload_n c_22_40 rfl (n_ialoadV c_22_41 sc_7.n rfl rfl rfl (by omega) (t_7k (z := 0) hS (by omega) (by omega) (by omega)) ?_))))
        intro z31 ez31 f32
        refine n_istore (L2 := [some (2, 44), some (2, 4), some (0, 2), some (0, z27), some (0, z29), some (0, z31)]) c_22_42 rfl rfl (n_iload_n c_22_44 rfl (n_iload c_22_45 rfl ?_))
        refine n_if2_eq c_22_47 (by omega) (by omega) ?_ ?_
        · intro h33
          exfalso; omega
        · intro h34
          refine n_iload_n c_22_50 rfl (n_iload c_22_51 rfl ?_)
          refine n_if2_ne c_22_53 (by omega) (by omega) ?_ ?_
          · intro h35
            exfalso; omega
          · intro h36
            refine n_aload_n c_22_56 rfl (n_getR c_22_57 sc_44.n rfl rfl rfl r_44_4 (n_iload_n c_22_60 rfl (n_iload_n c_22_61 rfl (n_iastoreV hS c_22_62 sc_45.n rfl (by omega) (w_45 (by omega) (by omega)) ?_))))
            intro M37 eM37 hS37
            have g37_0 : M37 44 2 = M 44 2 := by rw [eM37]; exact nu_a (by omega)
            refine n_goto c_22_63 (n_iinc (L2 := [some (2, 44), some (2, 4), some (0, (2 + (-1))), some (0, z27), some (0, z29), some (0, z31)]) c_22_101 rfl rfl rfl (n_goto c_22_104 (n_fg (le_s (le_s (le_s (le_n (le_n (le_n le_0)))))) ?_)))
            exact ih _ M37 hS37 (by omega) (by omega) (by omega)
    · skip
      refine n_iload_n c_22_17 rfl ?_
      refine n_if0_lt c_22_18 (by omega) ?_ ?_
      · intro h38
        exfalso; omega
      · intro h39
        refine n_aload_n c_22_21 rfl (n_getR c_22_22 sc_4.n rfl rfl rfl r_4_2 (n_iload_n c_22_25 rfl (n_ialoadV c_22_26 sc_5.n rfl rfl rfl (by omega) (t_5k (z := 0) hS (by omega) (by omega) (by omega)) ?_)))
        intro z40 ez40 f41
        refine n_istore_n (L2 := [some (2, 44), some (2, 4), some (0, 3), some (0, z40), none, none]) c_22_27 rfl rfl (n_aload_n c_22_28 rfl (n_getR c_22_29 sc_4.n rfl rfl rfl r_4_3 (n_iload_n c_22_32 rfl (n_ialoadV c_22_33 sc_6.n rfl rfl rfl (by omega) (t_6k (z := 1) hS (by omega) (by omega) (by omega)) ?_))))
        intro z42 ez42 f43
        refine n_istore (L2 := [some (2, 44), some (2, 4), some (0, 3), some (0, z40), some (0, z42), none]) c_22_34 rfl rfl (n_aload_n c_22_36 rfl (n_getR c_22_37 sc_4.n rfl rfl rfl r_4_4 (n_iload_n c_22_40 rfl (n_ialoadV c_22_41 sc_7.n rfl rfl rfl (by omega) (t_7k (z := 1) hS (by omega) (by omega) (by omega)) ?_))))
        intro z44 ez44 f45
        refine n_istore (L2 := [some (2, 44), some (2, 4), some (0, 3), some (0, z40), some (0, z42), some (0, z44)]) c_22_42 rfl rfl (n_iload_n c_22_44 rfl (n_iload c_22_45 rfl ?_))
        refine n_if2_eq c_22_47 (by omega) (by omega) ?_ ?_
        · intro h46
          exfalso; omega
        · intro h47
          refine n_iload_n c_22_50 rfl (n_iload c_22_51 rfl ?_)
          refine n_if2_ne c_22_53 (by omega) (by omega) ?_ ?_
          · intro h48
            refine n_iload c_22_66 rfl (n_iload c_22_68 rfl ?_)
            refine n_if2_ne c_22_70 (by omega) (by omega) ?_ ?_
            · intro h49
              exfalso; omega
            · intro h50
              refine n_aload_n c_22_73 rfl (n_getR c_22_74 sc_44.n rfl rfl rfl r_44_4 (n_iload_n c_22_77 rfl (n_iload c_22_78 rfl (n_iastoreV hS c_22_80 sc_45.n rfl (by omega) (w_45 (by omega) (by omega)) ?_))))
              intro M51 eM51 hS51
              have g51_0 : M51 44 2 = M 44 2 := by rw [eM51]; exact nu_a (by omega)
              refine n_goto c_22_81 (n_iinc (L2 := [some (2, 44), some (2, 4), some (0, (3 + (-1))), some (0, z40), some (0, z42), some (0, z44)]) c_22_101 rfl rfl rfl (n_goto c_22_104 (n_fg (le_s (le_s (le_s (le_n (le_n (le_n le_0)))))) ?_)))
              exact ih _ M51 hS51 (by omega) (by omega) (by omega)
          · intro h52
            exfalso; omega
    · skip
      refine n_iload_n c_22_17 rfl ?_
      refine n_if0_lt c_22_18 (by omega) ?_ ?_
      · intro h53
        exfalso; omega
      · intro h54
        refine n_aload_n c_22_21 rfl (n_getR c_22_22 sc_4.n rfl rfl rfl r_4_2 (n_iload_n c_22_25 rfl (n_ialoadV c_22_26 sc_5.n rfl rfl rfl (by omega) (t_5k (z := 1) hS (by omega) (by omega) (by omega)) ?_)))
        intro z55 ez55 f56
        refine n_istore_n (L2 := [some (2, 44), some (2, 4), some (0, 4), some (0, z55), none, none]) c_22_27 rfl rfl (n_aload_n c_22_28 rfl (n_getR c_22_29 sc_4.n rfl rfl rfl r_4_3 (n_iload_n c_22_32 rfl (n_ialoadV c_22_33 sc_6.n rfl rfl rfl (by omega) (t_6k (z := 0) hS (by omega) (by omega) (by omega)) ?_))))
        intro z57 ez57 f58
        refine n_istore (L2 := [some (2, 44), some (2, 4), some (0, 4), some (0, z55), some (0, z57), none]) c_22_34 rfl rfl (n_aload_n c_22_36 rfl (n_getR c_22_37 sc_4.n rfl rfl rfl r_4_4 (n_iload_n c_22_40 rfl (n_ialoadV c_22_41 sc_7.n rfl rfl rfl (by omega) (t_7k (z := 0) hS (by omega) (by omega) (by omega)) ?_))))
        intro z59 ez59 f60
        refine n_istore (L2 := [some (2, 44), some (2, 4), some (0, 4), some (0, z55), some (0, z57), some (0, z59)]) c_22_42 rfl rfl (n_iload_n c_22_44 rfl (n_iload c_22_45 rfl ?_))
        refine n_if2_eq c_22_47 (by omega) (by omega) ?_ ?_
        · intro h61
          exfalso; omega
        · intro h62
          refine n_iload_n c_22_50 rfl (n_iload c_22_51 rfl ?_)
          refine n_if2_ne c_22_53 (by omega) (by omega) ?_ ?_
          · intro h63
            refine n_iload c_22_66 rfl (n_iload c_22_68 rfl ?_)
            refine n_if2_ne c_22_70 (by omega) (by omega) ?_ ?_
            · intro h64
              exfalso; omega
            · intro h65
              refine n_aload_n c_22_73 rfl (n_getR c_22_74 sc_44.n rfl rfl rfl r_44_4 (n_iload_n c_22_77 rfl (n_iload c_22_78 rfl (n_iastoreV hS c_22_80 sc_45.n rfl (by omega) (w_45 (by omega) (by omega)) ?_))))
              intro M66 eM66 hS66
              have g66_0 : M66 44 2 = M 44 2 := by rw [eM66]; exact nu_a (by omega)
              refine n_goto c_22_81 (n_iinc (L2 := [some (2, 44), some (2, 4), some (0, (4 + (-1))), some (0, z55), some (0, z57), some (0, z59)]) c_22_101 rfl rfl rfl (n_goto c_22_104 (n_fg (le_s (le_s (le_s (le_n (le_n (le_n le_0)))))) ?_)))
              exact ih _ M66 hS66 (by omega) (by omega) (by omega)
          · intro h67
            exfalso; omega
    · skip
      refine n_iload_n c_22_17 rfl ?_
      refine n_if0_lt c_22_18 (by omega) ?_ ?_
      · intro h68
        exfalso; omega
      · intro h69
        refine n_aload_n c_22_21 rfl (n_getR c_22_22 sc_4.n rfl rfl rfl r_4_2 (n_iload_n c_22_25 rfl (n_ialoadV c_22_26 sc_5.n rfl rfl rfl (by omega) (t_5k (z := 1) hS (by omega) (by omega) (by omega)) ?_)))
        intro z70 ez70 f71
        refine n_istore_n (L2 := [some (2, 44), some (2, 4), some (0, 5), some (0, z70), none, none]) c_22_27 rfl rfl (n_aload_n c_22_28 rfl (n_getR c_22_29 sc_4.n rfl rfl rfl r_4_3 (n_iload_n c_22_32 rfl (n_ialoadV c_22_33 sc_6.n rfl rfl rfl (by omega) (t_6k (z := 0) hS (by omega) (by omega) (by omega)) ?_))))
        intro z72 ez72 f73
        refine n_istore (L2 := [some (2, 44), some (2, 4), some (0, 5), some (0, z70), some (0, z72), none]) c_22_34 rfl rfl (n_aload_n c_22_36 rfl (n_getR c_22_37 sc_4.n rfl rfl rfl r_4_4 (n_iload_n c_22_40 rfl (n_ialoadV c_22_41 sc_7.n rfl rfl rfl (by omega) (t_7k (z := 1) hS (by omega) (by omega) (by omega)) ?_))))
        intro z74 ez74 f75
        refine n_istore (L2 := [some (2, 44), some (2, 4), some (0, 5), some (0, z70), some (0, z72), some (0, z74)]) c_22_42 rfl rfl (n_iload_n c_22_44 rfl (n_iload c_22_45 rfl ?_))
        refine n_if2_eq c_22_47 (by omega) (by omega) ?_ ?_
        · intro h76
          exfalso; omega
        · intro h77
          refine n_iload_n c_22_50 rfl (n_iload c_22_51 rfl ?_)
          refine n_if2_ne c_22_53 (by omega) (by omega) ?_ ?_
          · intro h78
            exfalso; omega
          · intro h79
            refine n_aload_n c_22_56 rfl (n_getR c_22_57 sc_44.n rfl rfl rfl r_44_4 (n_iload_n c_22_60 rfl (n_iload_n c_22_61 rfl (n_iastoreV hS c_22_62 sc_45.n rfl (by omega) (w_45 (by omega) (by omega)) ?_))))
            intro M80 eM80 hS80
            have g80_0 : M80 44 2 = M 44 2 := by rw [eM80]; exact nu_a (by omega)
            refine n_goto c_22_63 (n_iinc (L2 := [some (2, 44), some (2, 4), some (0, (5 + (-1))), some (0, z70), some (0, z72), some (0, z74)]) c_22_101 rfl rfl rfl (n_goto c_22_104 (n_fg (le_s (le_s (le_s (le_n (le_n (le_n le_0)))))) ?_)))
            exact ih _ M80 hS80 (by omega) (by omega) (by omega)
    · skip
      refine n_iload_n c_22_17 rfl ?_
      refine n_if0_lt c_22_18 (by omega) ?_ ?_
      · intro h81
        exfalso; omega
      · intro h82
        refine n_aload_n c_22_21 rfl (n_getR c_22_22 sc_4.n rfl rfl rfl r_4_2 (n_iload_n c_22_25 rfl (n_ialoadV c_22_26 sc_5.n rfl rfl rfl (by omega) (t_5k (z := 1) hS (by omega) (by omega) (by omega)) ?_)))
        intro z83 ez83 f84
        refine n_istore_n (L2 := [some (2, 44), some (2, 4), some (0, 6), some (0, z83), none, none]) c_22_27 rfl rfl (n_aload_n c_22_28 rfl (n_getR c_22_29 sc_4.n rfl rfl rfl r_4_3 (n_iload_n c_22_32 rfl (n_ialoadV c_22_33 sc_6.n rfl rfl rfl (by omega) (t_6k (z := 1) hS (by omega) (by omega) (by omega)) ?_))))
        intro z85 ez85 f86
        refine n_istore (L2 := [some (2, 44), some (2, 4), some (0, 6), some (0, z83), some (0, z85), none]) c_22_34 rfl rfl (n_aload_n c_22_36 rfl (n_getR c_22_37 sc_4.n rfl rfl rfl r_4_4 (n_iload_n c_22_40 rfl (n_ialoadV c_22_41 sc_7.n rfl rfl rfl (by omega) (t_7k (z := 0) hS (by omega) (by omega) (by omega)) ?_))))
        intro z87 ez87 f88
        refine n_istore (L2 := [some (2, 44), some (2, 4), some (0, 6), some (0, z83), some (0, z85), some (0, z87)]) c_22_42 rfl rfl (n_iload_n c_22_44 rfl (n_iload c_22_45 rfl ?_))
        refine n_if2_eq c_22_47 (by omega) (by omega) ?_ ?_
        · intro h89
          refine n_aload_n c_22_56 rfl (n_getR c_22_57 sc_44.n rfl rfl rfl r_44_4 (n_iload_n c_22_60 rfl (n_iload_n c_22_61 rfl (n_iastoreV hS c_22_62 sc_45.n rfl (by omega) (w_45 (by omega) (by omega)) ?_))))
          intro M90 eM90 hS90
          have g90_0 : M90 44 2 = M 44 2 := by rw [eM90]; exact nu_a (by omega)
          refine n_goto c_22_63 (n_iinc (L2 := [some (2, 44), some (2, 4), some (0, (6 + (-1))), some (0, z83), some (0, z85), some (0, z87)]) c_22_101 rfl rfl rfl (n_goto c_22_104 (n_fg (le_s (le_s (le_s (le_n (le_n (le_n le_0)))))) ?_)))
          exact ih _ M90 hS90 (by omega) (by omega) (by omega)
        · intro h91
          exfalso; omega
    · skip
      refine n_iload_n c_22_17 rfl ?_
      refine n_if0_lt c_22_18 (by omega) ?_ ?_
      · intro h92
        exfalso; omega
      · intro h93
        refine n_aload_n c_22_21 rfl (n_getR c_22_22 sc_4.n rfl rfl rfl r_4_2 (n_iload_n c_22_25 rfl (n_ialoadV c_22_26 sc_5.n rfl rfl rfl (by omega) (t_5k (z := 1) hS (by omega) (by omega) (by omega)) ?_)))
        intro z94 ez94 f95
        refine n_istore_n (L2 := [some (2, 44), some (2, 4), some (0, 7), some (0, z94), none, none]) c_22_27 rfl rfl (n_aload_n c_22_28 rfl (n_getR c_22_29 sc_4.n rfl rfl rfl r_4_3 (n_iload_n c_22_32 rfl (n_ialoadV c_22_33 sc_6.n rfl rfl rfl (by omega) (t_6k (z := 1) hS (by omega) (by omega) (by omega)) ?_))))
        intro z96 ez96 f97
        refine n_istore (L2 := [some (2, 44), some (2, 4), some (0, 7), some (0, z94), some (0, z96), none]) c_22_34 rfl rfl (n_aload_n c_22_36 rfl (n_getR c_22_37 sc_4.n rfl rfl rfl r_4_4 (n_iload_n c_22_40 rfl (n_ialoadV c_22_41 sc_7.n rfl rfl rfl (by omega) (t_7k (z := 1) hS (by omega) (by omega) (by omega)) ?_))))
        intro z98 ez98 f99
        refine n_istore (L2 := [some (2, 44), some (2, 4), some (0, 7), some (0, z94), some (0, z96), some (0, z98)]) c_22_42 rfl rfl (n_iload_n c_22_44 rfl (n_iload c_22_45 rfl ?_))
        refine n_if2_eq c_22_47 (by omega) (by omega) ?_ ?_
        · intro h100
          refine n_aload_n c_22_56 rfl (n_getR c_22_57 sc_44.n rfl rfl rfl r_44_4 (n_iload_n c_22_60 rfl (n_iload_n c_22_61 rfl (n_iastoreV hS c_22_62 sc_45.n rfl (by omega) (w_45 (by omega) (by omega)) ?_))))
          intro M101 eM101 hS101
          have g101_0 : M101 44 2 = M 44 2 := by rw [eM101]; exact nu_a (by omega)
          refine n_goto c_22_63 (n_iinc (L2 := [some (2, 44), some (2, 4), some (0, (7 + (-1))), some (0, z94), some (0, z96), some (0, z98)]) c_22_101 rfl rfl rfl (n_goto c_22_104 (n_fg (le_s (le_s (le_s (le_n (le_n (le_n le_0)))))) ?_)))
          exact ih _ M101 hS101 (by omega) (by omega) (by omega)
        · intro h102
          exfalso; omega
set_option maxHeartbeats 4000000 in
theorem beMost_2 {xs : List Int32} {e : Nat} {ac : Int} {M0 M : nM} (hS : Sf 2 ac M0 M)  : nW xs (e + 1) 22 0 [some (2, 44), some (2, 4), none, none, none, none] [] M (nPV fun M1 => Sf 2 ac M0 M1) := by
  have hd : (2 : Int) = 2 ∨ (2 : Int) = 3 := by decide
  have hac := hS.2.2.2.2
  refine n_aload_n c_22_0 rfl (n_iconst c_22_1 (n_aload_n c_22_2 rfl (n_getV (bi := 0) c_22_3 sc_4.n rfl rfl rfl (t_4_0 hS) ?_)))
  intro z1 ez1 f2
  obtain rfl : z1 = 2 := by omega
  refine n_aload_n c_22_6 rfl (n_v3V c_22_7 rfl sc_44.n rfl rfl rfl rfl (begin_2 (n := 3) (c := 2) hS (by omega) (by omega)) ?_)
  intro  M3 hP4
  obtain ⟨hS3, f4p0⟩ := hP4
  refine n_aload_n c_22_10 rfl (n_getV (bi := 1) c_22_11 sc_4.n rfl rfl rfl (t_4_1 hS3) ?_)
  intro z5 ez5 f6
  obtain rfl : z5 = 8 := by omega
  refine n_iconst c_22_14 (n_isub c_22_15 rfl (n_istore_n (L2 := [some (2, 44), some (2, 4), some (0, (8 - 1)), none, none, none]) c_22_16 rfl rfl (n_fg (le_s (le_s (le_s (le_n (le_n (le_n le_0)))))) ?_)))
  exact (beMost_2_c hS  30) _ M3 hS3 (by omega) (by omega) (by omega)

/-! The methods, by program. -/
set_option maxHeartbeats 4000000 in
theorem beSum_2_c {xs : List Int32} {e : Nat} {ac : Int} {M0 M : nM} (hS : Sf 2 ac M0 M)  : ∀ nn : Nat, (∀ (x2 : Int) (M : nM), Sf 2 ac M0 M → (0 ≤ x2 ∧ x2 ≤ 8) → (M 44 5 = 2) → (8 - x2) * 1 + 1 < (nn : Int) → nW xs (e + 1) 23 12 [some (2, 44), some (2, 4), some (0, x2), none] [] M (nPV fun M1 => Sf 2 ac M0 M1)) := by
  have hd : (2 : Int) = 2 ∨ (2 : Int) = 3 := by decide
  have hac := hS.2.2.2.2
  intro nn
  induction nn with
  | zero => intros; omega
  | succ nn ih =>
    intro x2 M hS k2 v0 hnn
    rcases (show x2 = 0 ∨ x2 = 1 ∨ x2 = 2 ∨ x2 = 3 ∨ x2 = 4 ∨ x2 = 5 ∨ x2 = 6 ∨ x2 = 7 ∨ x2 = 8 by omega) with rfl | rfl | rfl | rfl | rfl | rfl | rfl | rfl | rfl
    · skip
      refine n_iload_n c_23_12 rfl (n_aload_n c_23_13 rfl (n_getV (bi := 1) c_23_14 sc_4.n rfl rfl rfl (t_4_1 hS) ?_))
      intro z1 ez1 f2
      obtain rfl : z1 = 8 := by omega
      refine n_if2_ge c_23_17 (by omega) (by omega) ?_ ?_
      · intro h3
        exfalso; omega
      · intro h4
        refine n_aload_n c_23_20 rfl (n_getR c_23_21 sc_4.n rfl rfl rfl r_4_2 (n_iload_n c_23_24 rfl (n_ialoadV c_23_25 sc_5.n rfl rfl rfl (by omega) (t_5k (z := 0) hS (by omega) (by omega) (by omega)) ?_)))
        intro z5 ez5 f6
        refine n_aload_n c_23_26 rfl (n_getR c_23_27 sc_4.n rfl rfl rfl r_4_3 (n_iload_n c_23_30 rfl (n_ialoadV c_23_31 sc_6.n rfl rfl rfl (by omega) (t_6k (z := 0) hS (by omega) (by omega) (by omega)) ?_)))
        intro z7 ez7 f8
        refine n_isub c_23_32 rfl (n_aload_n c_23_33 rfl (n_getR c_23_34 sc_4.n rfl rfl rfl r_4_4 (n_iload_n c_23_37 rfl (n_ialoadV c_23_38 sc_7.n rfl rfl rfl (by omega) (t_7k (z := 0) hS (by omega) (by omega) (by omega)) ?_))))
        intro z9 ez9 f10
        refine n_iadd c_23_39 rfl (n_istore_n (L2 := [some (2, 44), some (2, 4), some (0, 0), some (0, ((z5 - z7) + z9))]) c_23_40 rfl rfl (n_aload_n c_23_41 rfl (n_getR c_23_42 sc_44.n rfl rfl rfl r_44_4 (n_iload_n c_23_45 rfl (n_iload_n c_23_46 rfl (n_aload_n c_23_47 rfl (n_getV (bi := 5) c_23_48 sc_44.n rfl rfl rfl (t_44_5 hS) ?_)))))))
        intro z11 ez11 f12
        obtain rfl : z11 = 2 := by omega
        refine n_iconst c_23_51 ?_
        refine n_if2_ne c_23_52 (by omega) (by omega) ?_ ?_
        · intro h13
          exfalso; omega
        · intro h14
          refine n_iconst c_23_55 (n_goto c_23_56 ?_)
          have hcst : (((z5 - z7) + z9) : Int) = 0 := by omega
          rw [hcst]
          refine n_s2I c_23_60 rfl rfl rfl rfl (fmod2_2  hS ) ?_
          intro z15 M16 hP17
          obtain ⟨eM, f17⟩ := hP17
          subst eM
          obtain rfl : z15 = 0 := by omega
          refine n_iastoreV hS c_23_63 sc_45.n rfl (by omega) (w_45 (by omega) (by omega)) ?_
          intro M18 eM18 hS18
          have g18_0 : M18 44 5 = M 44 5 := by rw [eM18]; exact nu_a (by omega)
          refine n_iinc (L2 := [some (2, 44), some (2, 4), some (0, (0 + 1)), some (0, 0)]) c_23_64 rfl rfl rfl (n_goto c_23_67 (n_fg (le_s (le_s (le_s (le_n le_0)))) ?_))
          exact ih _ M18 hS18 (by omega) (by omega) (by omega)
    · skip
      refine n_iload_n c_23_12 rfl (n_aload_n c_23_13 rfl (n_getV (bi := 1) c_23_14 sc_4.n rfl rfl rfl (t_4_1 hS) ?_))
      intro z19 ez19 f20
      obtain rfl : z19 = 8 := by omega
      refine n_if2_ge c_23_17 (by omega) (by omega) ?_ ?_
      · intro h21
        exfalso; omega
      · intro h22
        refine n_aload_n c_23_20 rfl (n_getR c_23_21 sc_4.n rfl rfl rfl r_4_2 (n_iload_n c_23_24 rfl (n_ialoadV c_23_25 sc_5.n rfl rfl rfl (by omega) (t_5k (z := 0) hS (by omega) (by omega) (by omega)) ?_)))
        intro z23 ez23 f24
        refine n_aload_n c_23_26 rfl (n_getR c_23_27 sc_4.n rfl rfl rfl r_4_3 (n_iload_n c_23_30 rfl (n_ialoadV c_23_31 sc_6.n rfl rfl rfl (by omega) (t_6k (z := 0) hS (by omega) (by omega) (by omega)) ?_)))
        intro z25 ez25 f26
        refine n_isub c_23_32 rfl (n_aload_n c_23_33 rfl (n_getR c_23_34 sc_4.n rfl rfl rfl r_4_4 (n_iload_n c_23_37 rfl (n_ialoadV c_23_38 sc_7.n rfl rfl rfl (by omega) (t_7k (z := 1) hS (by omega) (by omega) (by omega)) ?_))))
        intro z27 ez27 f28
        refine n_iadd c_23_39 rfl (n_istore_n (L2 := [some (2, 44), some (2, 4), some (0, 1), some (0, ((z23 - z25) + z27))]) c_23_40 rfl rfl (n_aload_n c_23_41 rfl (n_getR c_23_42 sc_44.n rfl rfl rfl r_44_4 (n_iload_n c_23_45 rfl (n_iload_n c_23_46 rfl (n_aload_n c_23_47 rfl (n_getV (bi := 5) c_23_48 sc_44.n rfl rfl rfl (t_44_5 hS) ?_)))))))
        intro z29 ez29 f30
        obtain rfl : z29 = 2 := by omega
        refine n_iconst c_23_51 ?_
        refine n_if2_ne c_23_52 (by omega) (by omega) ?_ ?_
        · intro h31
          exfalso; omega
        · intro h32
          refine n_iconst c_23_55 (n_goto c_23_56 ?_)
          have hcst : (((z23 - z25) + z27) : Int) = 1 := by omega
          rw [hcst]
          refine n_s2I c_23_60 rfl rfl rfl rfl (fmod3_2  hS ) ?_
          intro z33 M34 hP35
          obtain ⟨eM, f35⟩ := hP35
          subst eM
          obtain rfl : z33 = 1 := by omega
          refine n_iastoreV hS c_23_63 sc_45.n rfl (by omega) (w_45 (by omega) (by omega)) ?_
          intro M36 eM36 hS36
          have g36_0 : M36 44 5 = M 44 5 := by rw [eM36]; exact nu_a (by omega)
          refine n_iinc (L2 := [some (2, 44), some (2, 4), some (0, (1 + 1)), some (0, 1)]) c_23_64 rfl rfl rfl (n_goto c_23_67 (n_fg (le_s (le_s (le_s (le_n le_0)))) ?_))
          exact ih _ M36 hS36 (by omega) (by omega) (by omega)
    · skip
      refine n_iload_n c_23_12 rfl (n_aload_n c_23_13 rfl (n_getV (bi := 1) c_23_14 sc_4.n rfl rfl rfl (t_4_1 hS) ?_))
      intro z37 ez37 f38
      obtain rfl : z37 = 8 := by omega
      refine n_if2_ge c_23_17 (by omega) (by omega) ?_ ?_
      · intro h39
        exfalso; omega
      · intro h40
        refine n_aload_n c_23_20 rfl (n_getR c_23_21 sc_4.n rfl rfl rfl r_4_2 (n_iload_n c_23_24 rfl (n_ialoadV c_23_25 sc_5.n rfl rfl rfl (by omega) (t_5k (z := 0) hS (by omega) (by omega) (by omega)) ?_)))
        intro z41 ez41 f42
        refine n_aload_n c_23_26 rfl (n_getR c_23_27 sc_4.n rfl rfl rfl r_4_3 (n_iload_n c_23_30 rfl (n_ialoadV c_23_31 sc_6.n rfl rfl rfl (by omega) (t_6k (z := 1) hS (by omega) (by omega) (by omega)) ?_)))
        intro z43 ez43 f44
        refine n_isub c_23_32 rfl (n_aload_n c_23_33 rfl (n_getR c_23_34 sc_4.n rfl rfl rfl r_4_4 (n_iload_n c_23_37 rfl (n_ialoadV c_23_38 sc_7.n rfl rfl rfl (by omega) (t_7k (z := 0) hS (by omega) (by omega) (by omega)) ?_))))
        intro z45 ez45 f46
        refine n_iadd c_23_39 rfl (n_istore_n (L2 := [some (2, 44), some (2, 4), some (0, 2), some (0, ((z41 - z43) + z45))]) c_23_40 rfl rfl (n_aload_n c_23_41 rfl (n_getR c_23_42 sc_44.n rfl rfl rfl r_44_4 (n_iload_n c_23_45 rfl (n_iload_n c_23_46 rfl (n_aload_n c_23_47 rfl (n_getV (bi := 5) c_23_48 sc_44.n rfl rfl rfl (t_44_5 hS) ?_)))))))
        intro z47 ez47 f48
        obtain rfl : z47 = 2 := by omega
        refine n_iconst c_23_51 ?_
        refine n_if2_ne c_23_52 (by omega) (by omega) ?_ ?_
        · intro h49
          exfalso; omega
        · intro h50
          refine n_iconst c_23_55 (n_goto c_23_56 ?_)
          have hcst : (((z41 - z43) + z45) : Int) = (-1) := by omega
          rw [hcst]
          refine n_s2I c_23_60 rfl rfl rfl rfl (fmod1_2  hS ) ?_
          intro z51 M52 hP53
          obtain ⟨eM, f53⟩ := hP53
          subst eM
          obtain rfl : z51 = 1 := by omega
          refine n_iastoreV hS c_23_63 sc_45.n rfl (by omega) (w_45 (by omega) (by omega)) ?_
          intro M54 eM54 hS54
          have g54_0 : M54 44 5 = M 44 5 := by rw [eM54]; exact nu_a (by omega)
          refine n_iinc (L2 := [some (2, 44), some (2, 4), some (0, (2 + 1)), some (0, (-1))]) c_23_64 rfl rfl rfl (n_goto c_23_67 (n_fg (le_s (le_s (le_s (le_n le_0)))) ?_))
          exact ih _ M54 hS54 (by omega) (by omega) (by omega)
    · skip
      refine n_iload_n c_23_12 rfl (n_aload_n c_23_13 rfl (n_getV (bi := 1) c_23_14 sc_4.n rfl rfl rfl (t_4_1 hS) ?_))
      intro z55 ez55 f56
      obtain rfl : z55 = 8 := by omega
      refine n_if2_ge c_23_17 (by omega) (by omega) ?_ ?_
      · intro h57
        exfalso; omega
      · intro h58
        refine n_aload_n c_23_20 rfl (n_getR c_23_21 sc_4.n rfl rfl rfl r_4_2 (n_iload_n c_23_24 rfl (n_ialoadV c_23_25 sc_5.n rfl rfl rfl (by omega) (t_5k (z := 0) hS (by omega) (by omega) (by omega)) ?_)))
        intro z59 ez59 f60
        refine n_aload_n c_23_26 rfl (n_getR c_23_27 sc_4.n rfl rfl rfl r_4_3 (n_iload_n c_23_30 rfl (n_ialoadV c_23_31 sc_6.n rfl rfl rfl (by omega) (t_6k (z := 1) hS (by omega) (by omega) (by omega)) ?_)))
        intro z61 ez61 f62
        refine n_isub c_23_32 rfl (n_aload_n c_23_33 rfl (n_getR c_23_34 sc_4.n rfl rfl rfl r_4_4 (n_iload_n c_23_37 rfl (n_ialoadV c_23_38 sc_7.n rfl rfl rfl (by omega) (t_7k (z := 1) hS (by omega) (by omega) (by omega)) ?_))))
        intro z63 ez63 f64
        refine n_iadd c_23_39 rfl (n_istore_n (L2 := [some (2, 44), some (2, 4), some (0, 3), some (0, ((z59 - z61) + z63))]) c_23_40 rfl rfl (n_aload_n c_23_41 rfl (n_getR c_23_42 sc_44.n rfl rfl rfl r_44_4 (n_iload_n c_23_45 rfl (n_iload_n c_23_46 rfl (n_aload_n c_23_47 rfl (n_getV (bi := 5) c_23_48 sc_44.n rfl rfl rfl (t_44_5 hS) ?_)))))))
        intro z65 ez65 f66
        obtain rfl : z65 = 2 := by omega
        refine n_iconst c_23_51 ?_
        refine n_if2_ne c_23_52 (by omega) (by omega) ?_ ?_
        · intro h67
          exfalso; omega
        · intro h68
          refine n_iconst c_23_55 (n_goto c_23_56 ?_)
          have hcst : (((z59 - z61) + z63) : Int) = 0 := by omega
          rw [hcst]
          refine n_s2I c_23_60 rfl rfl rfl rfl (fmod2_2  hS ) ?_
          intro z69 M70 hP71
          obtain ⟨eM, f71⟩ := hP71
          subst eM
          obtain rfl : z69 = 0 := by omega
          refine n_iastoreV hS c_23_63 sc_45.n rfl (by omega) (w_45 (by omega) (by omega)) ?_
          intro M72 eM72 hS72
          have g72_0 : M72 44 5 = M 44 5 := by rw [eM72]; exact nu_a (by omega)
          refine n_iinc (L2 := [some (2, 44), some (2, 4), some (0, (3 + 1)), some (0, 0)]) c_23_64 rfl rfl rfl (n_goto c_23_67 (n_fg (le_s (le_s (le_s (le_n le_0)))) ?_))
          exact ih _ M72 hS72 (by omega) (by omega) (by omega)
    · skip
      refine n_iload_n c_23_12 rfl (n_aload_n c_23_13 rfl (n_getV (bi := 1) c_23_14 sc_4.n rfl rfl rfl (t_4_1 hS) ?_))
      intro z73 ez73 f74
      obtain rfl : z73 = 8 := by omega
      refine n_if2_ge c_23_17 (by omega) (by omega) ?_ ?_
      · intro h75
        exfalso; omega
      · intro h76
        refine n_aload_n c_23_20 rfl (n_getR c_23_21 sc_4.n rfl rfl rfl r_4_2 (n_iload_n c_23_24 rfl (n_ialoadV c_23_25 sc_5.n rfl rfl rfl (by omega) (t_5k (z := 1) hS (by omega) (by omega) (by omega)) ?_)))
        intro z77 ez77 f78
        refine n_aload_n c_23_26 rfl (n_getR c_23_27 sc_4.n rfl rfl rfl r_4_3 (n_iload_n c_23_30 rfl (n_ialoadV c_23_31 sc_6.n rfl rfl rfl (by omega) (t_6k (z := 0) hS (by omega) (by omega) (by omega)) ?_)))
        intro z79 ez79 f80
        refine n_isub c_23_32 rfl (n_aload_n c_23_33 rfl (n_getR c_23_34 sc_4.n rfl rfl rfl r_4_4 (n_iload_n c_23_37 rfl (n_ialoadV c_23_38 sc_7.n rfl rfl rfl (by omega) (t_7k (z := 0) hS (by omega) (by omega) (by omega)) ?_))))
        intro z81 ez81 f82
        refine n_iadd c_23_39 rfl (n_istore_n (L2 := [some (2, 44), some (2, 4), some (0, 4), some (0, ((z77 - z79) + z81))]) c_23_40 rfl rfl (n_aload_n c_23_41 rfl (n_getR c_23_42 sc_44.n rfl rfl rfl r_44_4 (n_iload_n c_23_45 rfl (n_iload_n c_23_46 rfl (n_aload_n c_23_47 rfl (n_getV (bi := 5) c_23_48 sc_44.n rfl rfl rfl (t_44_5 hS) ?_)))))))
        intro z83 ez83 f84
        obtain rfl : z83 = 2 := by omega
        refine n_iconst c_23_51 ?_
        refine n_if2_ne c_23_52 (by omega) (by omega) ?_ ?_
        · intro h85
          exfalso; omega
        · intro h86
          refine n_iconst c_23_55 (n_goto c_23_56 ?_)
          have hcst : (((z77 - z79) + z81) : Int) = 1 := by omega
          rw [hcst]
          refine n_s2I c_23_60 rfl rfl rfl rfl (fmod3_2  hS ) ?_
          intro z87 M88 hP89
          obtain ⟨eM, f89⟩ := hP89
          subst eM
          obtain rfl : z87 = 1 := by omega
          refine n_iastoreV hS c_23_63 sc_45.n rfl (by omega) (w_45 (by omega) (by omega)) ?_
          intro M90 eM90 hS90
          have g90_0 : M90 44 5 = M 44 5 := by rw [eM90]; exact nu_a (by omega)
          refine n_iinc (L2 := [some (2, 44), some (2, 4), some (0, (4 + 1)), some (0, 1)]) c_23_64 rfl rfl rfl (n_goto c_23_67 (n_fg (le_s (le_s (le_s (le_n le_0)))) ?_))
          exact ih _ M90 hS90 (by omega) (by omega) (by omega)
    · skip
      refine n_iload_n c_23_12 rfl (n_aload_n c_23_13 rfl (n_getV (bi := 1) c_23_14 sc_4.n rfl rfl rfl (t_4_1 hS) ?_))
      intro z91 ez91 f92
      obtain rfl : z91 = 8 := by omega
      refine n_if2_ge c_23_17 (by omega) (by omega) ?_ ?_
      · intro h93
        exfalso; omega
      · intro h94
        refine n_aload_n c_23_20 rfl (n_getR c_23_21 sc_4.n rfl rfl rfl r_4_2 (n_iload_n c_23_24 rfl (n_ialoadV c_23_25 sc_5.n rfl rfl rfl (by omega) (t_5k (z := 1) hS (by omega) (by omega) (by omega)) ?_)))
        intro z95 ez95 f96
        refine n_aload_n c_23_26 rfl (n_getR c_23_27 sc_4.n rfl rfl rfl r_4_3 (n_iload_n c_23_30 rfl (n_ialoadV c_23_31 sc_6.n rfl rfl rfl (by omega) (t_6k (z := 0) hS (by omega) (by omega) (by omega)) ?_)))
        intro z97 ez97 f98
        refine n_isub c_23_32 rfl (n_aload_n c_23_33 rfl (n_getR c_23_34 sc_4.n rfl rfl rfl r_4_4 (n_iload_n c_23_37 rfl (n_ialoadV c_23_38 sc_7.n rfl rfl rfl (by omega) (t_7k (z := 1) hS (by omega) (by omega) (by omega)) ?_))))
        intro z99 ez99 f100
        refine n_iadd c_23_39 rfl (n_istore_n (L2 := [some (2, 44), some (2, 4), some (0, 5), some (0, ((z95 - z97) + z99))]) c_23_40 rfl rfl (n_aload_n c_23_41 rfl (n_getR c_23_42 sc_44.n rfl rfl rfl r_44_4 (n_iload_n c_23_45 rfl (n_iload_n c_23_46 rfl (n_aload_n c_23_47 rfl (n_getV (bi := 5) c_23_48 sc_44.n rfl rfl rfl (t_44_5 hS) ?_)))))))
        intro z101 ez101 f102
        obtain rfl : z101 = 2 := by omega
        refine n_iconst c_23_51 ?_
        refine n_if2_ne c_23_52 (by omega) (by omega) ?_ ?_
        · intro h103
          exfalso; omega
        · intro h104
          refine n_iconst c_23_55 (n_goto c_23_56 ?_)
          have hcst : (((z95 - z97) + z99) : Int) = 2 := by omega
          rw [hcst]
          refine n_s2I c_23_60 rfl rfl rfl rfl (fmod4_2  hS ) ?_
          intro z105 M106 hP107
          obtain ⟨eM, f107⟩ := hP107
          subst eM
          obtain rfl : z105 = 0 := by omega
          refine n_iastoreV hS c_23_63 sc_45.n rfl (by omega) (w_45 (by omega) (by omega)) ?_
          intro M108 eM108 hS108
          have g108_0 : M108 44 5 = M 44 5 := by rw [eM108]; exact nu_a (by omega)
          refine n_iinc (L2 := [some (2, 44), some (2, 4), some (0, (5 + 1)), some (0, 2)]) c_23_64 rfl rfl rfl (n_goto c_23_67 (n_fg (le_s (le_s (le_s (le_n le_0)))) ?_))
          exact ih _ M108 hS108 (by omega) (by omega) (by omega)
    · skip
      refine n_iload_n c_23_12 rfl (n_aload_n c_23_13 rfl (n_getV (bi := 1) c_23_14 sc_4.n rfl rfl rfl (t_4_1 hS) ?_))
      intro z109 ez109 f110
      obtain rfl : z109 = 8 := by omega
      refine n_if2_ge c_23_17 (by omega) (by omega) ?_ ?_
      · intro h111
        exfalso; omega
      · intro h112
        refine n_aload_n c_23_20 rfl (n_getR c_23_21 sc_4.n rfl rfl rfl r_4_2 (n_iload_n c_23_24 rfl (n_ialoadV c_23_25 sc_5.n rfl rfl rfl (by omega) (t_5k (z := 1) hS (by omega) (by omega) (by omega)) ?_)))
        intro z113 ez113 f114
        refine n_aload_n c_23_26 rfl (n_getR c_23_27 sc_4.n rfl rfl rfl r_4_3 (n_iload_n c_23_30 rfl (n_ialoadV c_23_31 sc_6.n rfl rfl rfl (by omega) (t_6k (z := 1) hS (by omega) (by omega) (by omega)) ?_)))
        intro z115 ez115 f116
        refine n_isub c_23_32 rfl (n_aload_n c_23_33 rfl (n_getR c_23_34 sc_4.n rfl rfl rfl r_4_4 (n_iload_n c_23_37 rfl (n_ialoadV c_23_38 sc_7.n rfl rfl rfl (by omega) (t_7k (z := 0) hS (by omega) (by omega) (by omega)) ?_))))
        intro z117 ez117 f118
        refine n_iadd c_23_39 rfl (n_istore_n (L2 := [some (2, 44), some (2, 4), some (0, 6), some (0, ((z113 - z115) + z117))]) c_23_40 rfl rfl (n_aload_n c_23_41 rfl (n_getR c_23_42 sc_44.n rfl rfl rfl r_44_4 (n_iload_n c_23_45 rfl (n_iload_n c_23_46 rfl (n_aload_n c_23_47 rfl (n_getV (bi := 5) c_23_48 sc_44.n rfl rfl rfl (t_44_5 hS) ?_)))))))
        intro z119 ez119 f120
        obtain rfl : z119 = 2 := by omega
        refine n_iconst c_23_51 ?_
        refine n_if2_ne c_23_52 (by omega) (by omega) ?_ ?_
        · intro h121
          exfalso; omega
        · intro h122
          refine n_iconst c_23_55 (n_goto c_23_56 ?_)
          have hcst : (((z113 - z115) + z117) : Int) = 0 := by omega
          rw [hcst]
          refine n_s2I c_23_60 rfl rfl rfl rfl (fmod2_2  hS ) ?_
          intro z123 M124 hP125
          obtain ⟨eM, f125⟩ := hP125
          subst eM
          obtain rfl : z123 = 0 := by omega
          refine n_iastoreV hS c_23_63 sc_45.n rfl (by omega) (w_45 (by omega) (by omega)) ?_
          intro M126 eM126 hS126
          have g126_0 : M126 44 5 = M 44 5 := by rw [eM126]; exact nu_a (by omega)
          refine n_iinc (L2 := [some (2, 44), some (2, 4), some (0, (6 + 1)), some (0, 0)]) c_23_64 rfl rfl rfl (n_goto c_23_67 (n_fg (le_s (le_s (le_s (le_n le_0)))) ?_))
          exact ih _ M126 hS126 (by omega) (by omega) (by omega)
    · skip
      refine n_iload_n c_23_12 rfl (n_aload_n c_23_13 rfl (n_getV (bi := 1) c_23_14 sc_4.n rfl rfl rfl (t_4_1 hS) ?_))
      intro z127 ez127 f128
      obtain rfl : z127 = 8 := by omega
      refine n_if2_ge c_23_17 (by omega) (by omega) ?_ ?_
      · intro h129
        exfalso; omega
      · intro h130
        refine n_aload_n c_23_20 rfl (n_getR c_23_21 sc_4.n rfl rfl rfl r_4_2 (n_iload_n c_23_24 rfl (n_ialoadV c_23_25 sc_5.n rfl rfl rfl (by omega) (t_5k (z := 1) hS (by omega) (by omega) (by omega)) ?_)))
        intro z131 ez131 f132
        refine n_aload_n c_23_26 rfl (n_getR c_23_27 sc_4.n rfl rfl rfl r_4_3 (n_iload_n c_23_30 rfl (n_ialoadV c_23_31 sc_6.n rfl rfl rfl (by omega) (t_6k (z := 1) hS (by omega) (by omega) (by omega)) ?_)))
        intro z133 ez133 f134
        refine n_isub c_23_32 rfl (n_aload_n c_23_33 rfl (n_getR c_23_34 sc_4.n rfl rfl rfl r_4_4 (n_iload_n c_23_37 rfl (n_ialoadV c_23_38 sc_7.n rfl rfl rfl (by omega) (t_7k (z := 1) hS (by omega) (by omega) (by omega)) ?_))))
        intro z135 ez135 f136
        refine n_iadd c_23_39 rfl (n_istore_n (L2 := [some (2, 44), some (2, 4), some (0, 7), some (0, ((z131 - z133) + z135))]) c_23_40 rfl rfl (n_aload_n c_23_41 rfl (n_getR c_23_42 sc_44.n rfl rfl rfl r_44_4 (n_iload_n c_23_45 rfl (n_iload_n c_23_46 rfl (n_aload_n c_23_47 rfl (n_getV (bi := 5) c_23_48 sc_44.n rfl rfl rfl (t_44_5 hS) ?_)))))))
        intro z137 ez137 f138
        obtain rfl : z137 = 2 := by omega
        refine n_iconst c_23_51 ?_
        refine n_if2_ne c_23_52 (by omega) (by omega) ?_ ?_
        · intro h139
          exfalso; omega
        · intro h140
          refine n_iconst c_23_55 (n_goto c_23_56 ?_)
          have hcst : (((z131 - z133) + z135) : Int) = 1 := by omega
          rw [hcst]
          refine n_s2I c_23_60 rfl rfl rfl rfl (fmod3_2  hS ) ?_
          intro z141 M142 hP143
          obtain ⟨eM, f143⟩ := hP143
          subst eM
          obtain rfl : z141 = 1 := by omega
          refine n_iastoreV hS c_23_63 sc_45.n rfl (by omega) (w_45 (by omega) (by omega)) ?_
          intro M144 eM144 hS144
          have g144_0 : M144 44 5 = M 44 5 := by rw [eM144]; exact nu_a (by omega)
          refine n_iinc (L2 := [some (2, 44), some (2, 4), some (0, (7 + 1)), some (0, 1)]) c_23_64 rfl rfl rfl (n_goto c_23_67 (n_fg (le_s (le_s (le_s (le_n le_0)))) ?_))
          exact ih _ M144 hS144 (by omega) (by omega) (by omega)
    · skip
      refine n_iload_n c_23_12 rfl (n_aload_n c_23_13 rfl (n_getV (bi := 1) c_23_14 sc_4.n rfl rfl rfl (t_4_1 hS) ?_))
      intro z145 ez145 f146
      obtain rfl : z145 = 8 := by omega
      refine n_if2_ge c_23_17 (by omega) (by omega) ?_ ?_
      · intro h147
        exact n_rV c_23_70 rfl hS
      · intro h148
        exfalso; omega
set_option maxHeartbeats 4000000 in
theorem beSum_2 {xs : List Int32} {e : Nat} {ac : Int} {M0 M : nM} (hS : Sf 2 ac M0 M)  : nW xs (e + 1) 23 0 [some (2, 44), some (2, 4), none, none] [] M (nPV fun M1 => Sf 2 ac M0 M1) := by
  have hd : (2 : Int) = 2 ∨ (2 : Int) = 3 := by decide
  have hac := hS.2.2.2.2
  refine n_aload_n c_23_0 rfl (n_iconst c_23_1 (n_aload_n c_23_2 rfl (n_getV (bi := 0) c_23_3 sc_4.n rfl rfl rfl (t_4_0 hS) ?_)))
  intro z1 ez1 f2
  obtain rfl : z1 = 2 := by omega
  refine n_aload_n c_23_6 rfl (n_v3V c_23_7 rfl sc_44.n rfl rfl rfl rfl (begin_2 (n := 3) (c := 2) hS (by omega) (by omega)) ?_)
  intro  M3 hP4
  obtain ⟨hS3, f4p0⟩ := hP4
  refine n_iconst c_23_10 (n_istore_n (L2 := [some (2, 44), some (2, 4), some (0, 0), none]) c_23_11 rfl rfl (n_fg (le_s (le_s (le_s (le_n le_0)))) ?_))
  exact (beSum_2_c hS  30) _ M3 hS3 (by omega) (by omega) (by omega)

set_option maxHeartbeats 4000000 in
theorem variableAt5_2 {xs : List Int32} {e : Nat} {ac : Int} {M0 M : nM} {i j k : Int} (hS : Sf 2 ac M0 M) (hi : 0 ≤ i ∧ i ≤ 26) (hj : 0 ≤ j ∧ j ≤ 26) (hk : 0 ≤ k ∧ k ≤ 26) : nW xs e 24 0 [some (2, 44), some (2, 5), some (0, i), some (0, j), some (0, k)] [] M (nPI fun z M1 => M = M1 ∧ (0 ≤ z ∧ z ≤ 8)) := by
  have hd : (2 : Int) = 2 ∨ (2 : Int) = 3 := by decide
  have hac := hS.2.2.2.2
  refine n_aload_n c_24_0 rfl (n_getR c_24_1 sc_44.n rfl rfl rfl r_44_4 (n_aload_n c_24_4 rfl (n_iload_n c_24_5 rfl (n_ialoadV c_24_6 sc_5.n rfl rfl rfl (by omega) (t_5 hS hd (by omega)) ?_))))
  intro z1 ez1 f2
  refine n_aload_n c_24_7 rfl (n_getV (bi := 5) c_24_8 sc_44.n rfl rfl rfl (t_44_5 hS) ?_)
  intro z3 ez3 f4
  rcases (show z3 = 2 ∨ z3 = 3 by omega) with rfl | rfl
  · skip
    refine n_imul c_24_11 rfl (n_aload_n c_24_12 rfl (n_iload_n c_24_13 rfl (n_ialoadV c_24_14 sc_5.n rfl rfl rfl (by omega) (t_5 hS hd (by omega)) ?_)))
    intro z5 ez5 f6
    refine n_iadd c_24_15 rfl (n_aload_n c_24_16 rfl (n_getV (bi := 5) c_24_17 sc_44.n rfl rfl rfl (t_44_5 hS) ?_))
    intro z7 ez7 f8
    obtain rfl : z7 = 2 := by omega
    refine n_imul c_24_20 rfl (n_aload_n c_24_21 rfl (n_iload c_24_22 rfl (n_ialoadV c_24_24 sc_5.n rfl rfl rfl (by omega) (t_5 hS hd (by omega)) ?_)))
    intro z9 ez9 f10
    refine n_iadd c_24_25 rfl (n_ialoadV c_24_26 sc_45.n rfl rfl rfl (by omega) (t_45 hS (by omega)) ?_)
    intro z11 ez11 f12
    exact n_rI c_24_27 rfl ⟨rfl, by omega⟩
  · skip
    refine n_imul c_24_11 rfl (n_aload_n c_24_12 rfl (n_iload_n c_24_13 rfl (n_ialoadV c_24_14 sc_5.n rfl rfl rfl (by omega) (t_5 hS hd (by omega)) ?_)))
    intro z13 ez13 f14
    refine n_iadd c_24_15 rfl (n_aload_n c_24_16 rfl (n_getV (bi := 5) c_24_17 sc_44.n rfl rfl rfl (t_44_5 hS) ?_))
    intro z15 ez15 f16
    obtain rfl : z15 = 3 := by omega
    refine n_imul c_24_20 rfl (n_aload_n c_24_21 rfl (n_iload c_24_22 rfl (n_ialoadV c_24_24 sc_5.n rfl rfl rfl (by omega) (t_5 hS hd (by omega)) ?_)))
    intro z17 ez17 f18
    refine n_iadd c_24_25 rfl (n_ialoadV c_24_26 sc_45.n rfl rfl rfl (by omega) (t_45 hS (by omega)) ?_)
    intro z19 ez19 f20
    exact n_rI c_24_27 rfl ⟨rfl, by omega⟩

set_option maxHeartbeats 4000000 in
theorem variableAt6_2 {xs : List Int32} {e : Nat} {ac : Int} {M0 M : nM} {i j k : Int} (hS : Sf 2 ac M0 M) (hi : 0 ≤ i ∧ i ≤ 26) (hj : 0 ≤ j ∧ j ≤ 26) (hk : 0 ≤ k ∧ k ≤ 26) : nW xs e 24 0 [some (2, 44), some (2, 6), some (0, i), some (0, j), some (0, k)] [] M (nPI fun z M1 => M = M1 ∧ (0 ≤ z ∧ z ≤ 8)) := by
  have hd : (2 : Int) = 2 ∨ (2 : Int) = 3 := by decide
  have hac := hS.2.2.2.2
  refine n_aload_n c_24_0 rfl (n_getR c_24_1 sc_44.n rfl rfl rfl r_44_4 (n_aload_n c_24_4 rfl (n_iload_n c_24_5 rfl (n_ialoadV c_24_6 sc_6.n rfl rfl rfl (by omega) (t_6 hS hd (by omega)) ?_))))
  intro z1 ez1 f2
  refine n_aload_n c_24_7 rfl (n_getV (bi := 5) c_24_8 sc_44.n rfl rfl rfl (t_44_5 hS) ?_)
  intro z3 ez3 f4
  rcases (show z3 = 2 ∨ z3 = 3 by omega) with rfl | rfl
  · skip
    refine n_imul c_24_11 rfl (n_aload_n c_24_12 rfl (n_iload_n c_24_13 rfl (n_ialoadV c_24_14 sc_6.n rfl rfl rfl (by omega) (t_6 hS hd (by omega)) ?_)))
    intro z5 ez5 f6
    refine n_iadd c_24_15 rfl (n_aload_n c_24_16 rfl (n_getV (bi := 5) c_24_17 sc_44.n rfl rfl rfl (t_44_5 hS) ?_))
    intro z7 ez7 f8
    obtain rfl : z7 = 2 := by omega
    refine n_imul c_24_20 rfl (n_aload_n c_24_21 rfl (n_iload c_24_22 rfl (n_ialoadV c_24_24 sc_6.n rfl rfl rfl (by omega) (t_6 hS hd (by omega)) ?_)))
    intro z9 ez9 f10
    refine n_iadd c_24_25 rfl (n_ialoadV c_24_26 sc_45.n rfl rfl rfl (by omega) (t_45 hS (by omega)) ?_)
    intro z11 ez11 f12
    exact n_rI c_24_27 rfl ⟨rfl, by omega⟩
  · skip
    refine n_imul c_24_11 rfl (n_aload_n c_24_12 rfl (n_iload_n c_24_13 rfl (n_ialoadV c_24_14 sc_6.n rfl rfl rfl (by omega) (t_6 hS hd (by omega)) ?_)))
    intro z13 ez13 f14
    refine n_iadd c_24_15 rfl (n_aload_n c_24_16 rfl (n_getV (bi := 5) c_24_17 sc_44.n rfl rfl rfl (t_44_5 hS) ?_))
    intro z15 ez15 f16
    obtain rfl : z15 = 3 := by omega
    refine n_imul c_24_20 rfl (n_aload_n c_24_21 rfl (n_iload c_24_22 rfl (n_ialoadV c_24_24 sc_6.n rfl rfl rfl (by omega) (t_6 hS hd (by omega)) ?_)))
    intro z17 ez17 f18
    refine n_iadd c_24_25 rfl (n_ialoadV c_24_26 sc_45.n rfl rfl rfl (by omega) (t_45 hS (by omega)) ?_)
    intro z19 ez19 f20
    exact n_rI c_24_27 rfl ⟨rfl, by omega⟩

set_option maxHeartbeats 4000000 in
theorem variableAt7_2 {xs : List Int32} {e : Nat} {ac : Int} {M0 M : nM} {i j k : Int} (hS : Sf 2 ac M0 M) (hi : 0 ≤ i ∧ i ≤ 26) (hj : 0 ≤ j ∧ j ≤ 26) (hk : 0 ≤ k ∧ k ≤ 26) : nW xs e 24 0 [some (2, 44), some (2, 7), some (0, i), some (0, j), some (0, k)] [] M (nPI fun z M1 => M = M1 ∧ (0 ≤ z ∧ z ≤ 8)) := by
  have hd : (2 : Int) = 2 ∨ (2 : Int) = 3 := by decide
  have hac := hS.2.2.2.2
  refine n_aload_n c_24_0 rfl (n_getR c_24_1 sc_44.n rfl rfl rfl r_44_4 (n_aload_n c_24_4 rfl (n_iload_n c_24_5 rfl (n_ialoadV c_24_6 sc_7.n rfl rfl rfl (by omega) (t_7 hS hd (by omega)) ?_))))
  intro z1 ez1 f2
  refine n_aload_n c_24_7 rfl (n_getV (bi := 5) c_24_8 sc_44.n rfl rfl rfl (t_44_5 hS) ?_)
  intro z3 ez3 f4
  rcases (show z3 = 2 ∨ z3 = 3 by omega) with rfl | rfl
  · skip
    refine n_imul c_24_11 rfl (n_aload_n c_24_12 rfl (n_iload_n c_24_13 rfl (n_ialoadV c_24_14 sc_7.n rfl rfl rfl (by omega) (t_7 hS hd (by omega)) ?_)))
    intro z5 ez5 f6
    refine n_iadd c_24_15 rfl (n_aload_n c_24_16 rfl (n_getV (bi := 5) c_24_17 sc_44.n rfl rfl rfl (t_44_5 hS) ?_))
    intro z7 ez7 f8
    obtain rfl : z7 = 2 := by omega
    refine n_imul c_24_20 rfl (n_aload_n c_24_21 rfl (n_iload c_24_22 rfl (n_ialoadV c_24_24 sc_7.n rfl rfl rfl (by omega) (t_7 hS hd (by omega)) ?_)))
    intro z9 ez9 f10
    refine n_iadd c_24_25 rfl (n_ialoadV c_24_26 sc_45.n rfl rfl rfl (by omega) (t_45 hS (by omega)) ?_)
    intro z11 ez11 f12
    exact n_rI c_24_27 rfl ⟨rfl, by omega⟩
  · skip
    refine n_imul c_24_11 rfl (n_aload_n c_24_12 rfl (n_iload_n c_24_13 rfl (n_ialoadV c_24_14 sc_7.n rfl rfl rfl (by omega) (t_7 hS hd (by omega)) ?_)))
    intro z13 ez13 f14
    refine n_iadd c_24_15 rfl (n_aload_n c_24_16 rfl (n_getV (bi := 5) c_24_17 sc_44.n rfl rfl rfl (t_44_5 hS) ?_))
    intro z15 ez15 f16
    obtain rfl : z15 = 3 := by omega
    refine n_imul c_24_20 rfl (n_aload_n c_24_21 rfl (n_iload c_24_22 rfl (n_ialoadV c_24_24 sc_7.n rfl rfl rfl (by omega) (t_7 hS hd (by omega)) ?_)))
    intro z17 ez17 f18
    refine n_iadd c_24_25 rfl (n_ialoadV c_24_26 sc_45.n rfl rfl rfl (by omega) (t_45 hS (by omega)) ?_)
    intro z19 ez19 f20
    exact n_rI c_24_27 rfl ⟨rfl, by omega⟩

set_option maxHeartbeats 4000000 in
theorem told_2 {xs : List Int32} {e : Nat} {ac : Int} {M0 M : nM} {a b : Int} (hS : Sf 2 ac M0 M) (ha : 0 ≤ a ∧ a ≤ 2) (hb : 0 ≤ b ∧ b ≤ 2) : nW xs e 29 0 [some (2, 44), some (2, 39), some (0, a), some (0, b)] [] M (nPI fun z M1 => M = M1 ∧ (0 ≤ z ∧ z ≤ 2)) := by
  have hd : (2 : Int) = 2 ∨ (2 : Int) = 3 := by decide
  have hac := hS.2.2.2.2
  refine n_aload_n c_29_0 rfl (n_aload_n c_29_1 rfl (n_getR c_29_2 sc_44.n rfl rfl rfl r_44_4 (n_iload_n c_29_5 rfl (n_aload_n c_29_6 rfl (n_getV (bi := 5) c_29_7 sc_44.n rfl rfl rfl (t_44_5 hS) ?_)))))
  intro z1 ez1 f2
  rcases (show z1 = 2 ∨ z1 = 3 by omega) with rfl | rfl
  · skip
    refine n_imul c_29_10 rfl (n_iload_n c_29_11 rfl (n_iadd c_29_12 rfl (n_ialoadV c_29_13 sc_45.n rfl rfl rfl (by omega) (t_45 hS (by omega)) ?_)))
    intro z3 ez3 f4
    refine n_ialoadV c_29_14 sc_39.n rfl rfl rfl (by omega) (t_39 hS (by omega)) ?_
    intro z5 ez5 f6
    exact n_rI c_29_15 rfl ⟨rfl, by omega⟩
  · skip
    refine n_imul c_29_10 rfl (n_iload_n c_29_11 rfl (n_iadd c_29_12 rfl (n_ialoadV c_29_13 sc_45.n rfl rfl rfl (by omega) (t_45 hS (by omega)) ?_)))
    intro z7 ez7 f8
    refine n_ialoadV c_29_14 sc_39.n rfl rfl rfl (by omega) (t_39 hS (by omega)) ?_
    intro z9 ez9 f10
    exact n_rI c_29_15 rfl ⟨rfl, by omega⟩

set_option maxHeartbeats 4000000 in
theorem suits_2_c {xs : List Int32} {e : Nat} {ac : Int} {M0 M : nM} {t : Int} (hS : Sf 2 ac M0 M) (ht : 0 ≤ t ∧ t ≤ 3) : ∀ nn : Nat, (∀ (x3 : Int), (0 ≤ x3 ∧ x3 ≤ 3) → (3 - x3) * 31 + 31 < (nn : Int) → nW xs (e + 1) 25 11 [some (2, 44), some (2, 39), some (0, t), some (0, x3), none, none, none] [] M (nPI fun z M1 => M = M1 ∧ (0 ≤ z ∧ z ≤ 1))) ∧ (∀ (x3 x4 : Int), (1 ≤ t ∧ t ≤ 3) → (0 ≤ x3 ∧ x3 ≤ 2) → (0 ≤ x4 ∧ x4 ≤ 3) → (3 - x3) * 31 + (3 - x4) * 6 + 6 < (nn : Int) → nW xs (e + 1) 25 19 [some (2, 44), some (2, 39), some (0, t), some (0, x3), some (0, x4), none, none] [] M (nPI fun z M1 => M = M1 ∧ (0 ≤ z ∧ z ≤ 1))) ∧ (∀ (x3 x4 x5 : Int), (1 ≤ t ∧ t ≤ 3) → (0 ≤ x3 ∧ x3 ≤ 2) → (0 ≤ x4 ∧ x4 ≤ 2) → (0 ≤ x5 ∧ x5 ≤ 3) → (3 - x3) * 31 + (3 - x4) * 6 + (3 - x5) * 1 + 1 < (nn : Int) → nW xs (e + 1) 25 28 [some (2, 44), some (2, 39), some (0, t), some (0, x3), some (0, x4), some (0, x5), none] [] M (nPI fun z M1 => M = M1 ∧ (0 ≤ z ∧ z ≤ 1))) := by
  have hd : (2 : Int) = 2 ∨ (2 : Int) = 3 := by decide
  have hac := hS.2.2.2.2
  intro nn
  induction nn with
  | zero => refine ⟨?_, ?_, ?_⟩ <;> (intros; omega)
  | succ nn ih =>
    refine ⟨?_, ?_, ?_⟩
    · intro x3 k3 hnn
      refine n_iload_n c_25_11 rfl (n_iload_n c_25_12 rfl ?_)
      refine n_if2_ge c_25_13 (by omega) (by omega) ?_ ?_
      · intro h1
        refine n_iconst c_25_91 ?_
        exact n_rZ c_25_92 rfl (by omega) ⟨rfl, by omega⟩
      · intro h2
        refine n_iconst c_25_16 (n_istore (L2 := [some (2, 44), some (2, 39), some (0, t), some (0, x3), some (0, 0), none, none]) c_25_17 rfl rfl (n_fg (le_s (le_s (le_s (le_s (le_s (le_n (le_n le_0))))))) ?_))
        exact ih.2.1 _ _ (by omega) (by omega) (by omega) (by omega)
    · intro x3 x4 k2 k3 k4 hnn
      refine n_iload c_25_19 rfl (n_iload_n c_25_21 rfl ?_)
      refine n_if2_ge c_25_22 (by omega) (by omega) ?_ ?_
      · intro h1
        refine n_iinc (L2 := [some (2, 44), some (2, 39), some (0, t), some (0, (x3 + 1)), some (0, x4), none, none]) c_25_85 rfl rfl rfl (n_goto c_25_88 (n_fg (le_s (le_s (le_s (le_s (le_n (le_n (le_n le_0))))))) ?_))
        exact ih.1 _ (by omega) (by omega)
      · intro h2
        refine n_iconst c_25_25 (n_istore (L2 := [some (2, 44), some (2, 39), some (0, t), some (0, x3), some (0, x4), some (0, 0), none]) c_25_26 rfl rfl (n_fg (le_s (le_s (le_s (le_s (le_s (le_s (le_n le_0))))))) ?_))
        exact ih.2.2 _ _ _ (by omega) (by omega) (by omega) (by omega) (by omega)
    · intro x3 x4 x5 k2 k3 k4 k5 hnn
      refine n_iload c_25_28 rfl (n_iload_n c_25_30 rfl ?_)
      refine n_if2_ge c_25_31 (by omega) (by omega) ?_ ?_
      · intro h1
        refine n_iinc (L2 := [some (2, 44), some (2, 39), some (0, t), some (0, x3), some (0, (x4 + 1)), some (0, x5), none]) c_25_79 rfl rfl rfl (n_goto c_25_82 (n_fg (le_s (le_s (le_s (le_s (le_s (le_n (le_n le_0))))))) ?_))
        exact ih.2.1 _ _ (by omega) (by omega) (by omega) (by omega)
      · intro h2
        refine n_aload_n c_25_34 rfl (n_aload_n c_25_35 rfl (n_aload_n c_25_36 rfl (n_aload_n c_25_37 rfl (n_iload_n c_25_38 rfl (n_iload c_25_39 rfl (n_v3I c_25_41 rfl sc_44.n rfl rfl rfl rfl (told_2 (a := x3) (b := x4) hS (by omega) (by omega)) ?_))))))
        intro z3 M4 hP5
        obtain ⟨eM, f5⟩ := hP5
        subst eM
        refine n_iload c_25_44 rfl (n_v3I c_25_46 rfl sc_44.n rfl rfl rfl rfl (told_2 (a := z3) (b := x5) hS (by omega) (by omega)) ?_)
        intro z6 M7 hP8
        obtain ⟨eM, f8⟩ := hP8
        subst eM
        refine n_istore (L2 := [some (2, 44), some (2, 39), some (0, t), some (0, x3), some (0, x4), some (0, x5), some (0, z6)]) c_25_49 rfl rfl (n_iload c_25_51 rfl (n_aload_n c_25_53 rfl (n_aload_n c_25_54 rfl (n_iload_n c_25_55 rfl (n_aload_n c_25_56 rfl (n_aload_n c_25_57 rfl (n_iload c_25_58 rfl (n_iload c_25_60 rfl (n_v3I c_25_62 rfl sc_44.n rfl rfl rfl rfl (told_2 (a := x4) (b := x5) hS (by omega) (by omega)) ?_)))))))))
        intro z9 M10 hP11
        obtain ⟨eM, f11⟩ := hP11
        subst eM
        refine n_v3I c_25_65 rfl sc_44.n rfl rfl rfl rfl (told_2 (a := x3) (b := z9) hS (by omega) (by omega)) ?_
        intro z12 M13 hP14
        obtain ⟨eM, f14⟩ := hP14
        subst eM
        refine n_if2_eq c_25_68 (by omega) (by omega) ?_ ?_
        · intro h15
          refine n_iinc (L2 := [some (2, 44), some (2, 39), some (0, t), some (0, x3), some (0, x4), some (0, (x5 + 1)), some (0, z6)]) c_25_73 rfl rfl rfl (n_goto c_25_76 (n_fg (le_s (le_s (le_s (le_s (le_s (le_s (le_n le_0))))))) ?_))
          exact ih.2.2 _ _ _ (by omega) (by omega) (by omega) (by omega) (by omega)
        · intro h16
          refine n_iconst c_25_71 ?_
          exact n_rZ c_25_72 rfl (by omega) ⟨rfl, by omega⟩
set_option maxHeartbeats 4000000 in
theorem suits_2 {xs : List Int32} {e : Nat} {ac : Int} {M0 M : nM} {t : Int} (hS : Sf 2 ac M0 M) (ht : 0 ≤ t ∧ t ≤ 3) : nW xs (e + 1) 25 0 [some (2, 44), some (2, 39), some (0, t), none, none, none, none] [] M (nPI fun z M1 => M = M1 ∧ (0 ≤ z ∧ z ≤ 1)) := by
  have hd : (2 : Int) = 2 ∨ (2 : Int) = 3 := by decide
  have hac := hS.2.2.2.2
  refine n_aload_n c_25_0 rfl (n_getV (bi := 3) c_25_1 sc_44.n rfl rfl rfl (t_44_3 hS) ?_)
  intro z1 ez1 f2
  refine n_if0_ne c_25_4 (by omega) ?_ ?_
  · intro h3
    refine n_iconst c_25_9 (n_istore_n (L2 := [some (2, 44), some (2, 39), some (0, t), some (0, 0), none, none, none]) c_25_10 rfl rfl (n_fg (le_s (le_s (le_s (le_s (le_n (le_n (le_n le_0))))))) ?_))
    exact (suits_2_c hS ht 320).1 _ (by omega) (by omega)
  · intro h4
    refine n_iconst c_25_7 ?_
    exact n_rZ c_25_8 rfl (by omega) ⟨rfl, by omega⟩

set_option maxHeartbeats 4000000 in
theorem fcode_2_c {xs : List Int32} {e : Nat} {ac : Int} {M0 M : nM} (hS : Sf 2 ac M0 M)  : ∀ nn : Nat, (∀ (x3 x5 : Int), (-9223372036854775808 ≤ x3 ∧ x3 ≤ 9223372036854775807) → (-1 ≤ x5 ∧ x5 ≤ 7) → (x5 - (-1)) * 1 + 1 < (nn : Int) → nW xs (e + 1) 26 14 [some (2, 44), some (2, 39), some (2, 4), some (1, x3), none, some (0, x5)] [] M (nPJ fun z M1 => M = M1 ∧ (-9223372036854775808 ≤ z ∧ z ≤ 9223372036854775807))) := by
  have hd : (2 : Int) = 2 ∨ (2 : Int) = 3 := by decide
  have hac := hS.2.2.2.2
  intro nn
  induction nn with
  | zero => intros; omega
  | succ nn ih =>
    intro x3 x5 k3 k5 hnn
    refine n_iload c_26_14 rfl ?_
    refine n_if0_lt c_26_16 (by omega) ?_ ?_
    · intro h1
      refine n_lload_n c_26_44 rfl ?_
      exact n_rJ c_26_45 rfl ⟨rfl, by omega⟩
    · intro h2
      refine n_lload_n c_26_19 rfl (n_aload_n c_26_20 rfl (n_getV (bi := 0) c_26_21 sc_4.n rfl rfl rfl (t_4_0 hS) ?_))
      intro z3 ez3 f4
      obtain rfl : z3 = 2 := by omega
      refine n_i2l c_26_24 (by omega) ?_
      refine n_lmul c_26_25 rfl (n_wrapl ?_)
      have f5 := n_wl_r (x3 * 2)
      generalize n_wl (x3 * 2) = z6 at f5 ⊢
      refine n_aload_n c_26_26 rfl (n_aload_n c_26_27 rfl (n_getR c_26_28 sc_44.n rfl rfl rfl r_44_4 (n_iload c_26_31 rfl (n_ialoadV c_26_33 sc_45.n rfl rfl rfl (by omega) (t_45 hS (by omega)) ?_))))
      intro z7 ez7 f8
      refine n_ialoadV c_26_34 sc_39.n rfl rfl rfl (by omega) (t_39 hS (by omega)) ?_
      intro z9 ez9 f10
      refine n_i2l c_26_35 (by omega) ?_
      refine n_ladd c_26_36 rfl (n_wrapl ?_)
      have f11 := n_wl_r (z6 + z9)
      generalize n_wl (z6 + z9) = z12 at f11 ⊢
      refine n_lstore_n (L2 := [some (2, 44), some (2, 39), some (2, 4), some (1, z12), none, some (0, x5)]) c_26_37 rfl rfl (n_iinc (L2 := [some (2, 44), some (2, 39), some (2, 4), some (1, z12), none, some (0, (x5 + (-1)))]) c_26_38 rfl rfl rfl (n_goto c_26_41 (n_fg (le_s (le_s (le_s (le_s (le_n (le_s le_0)))))) ?_)))
      exact ih _ _ (by omega) (by omega) (by omega)
set_option maxHeartbeats 4000000 in
theorem fcode_2 {xs : List Int32} {e : Nat} {ac : Int} {M0 M : nM} (hS : Sf 2 ac M0 M)  : nW xs (e + 1) 26 0 [some (2, 44), some (2, 39), some (2, 4), none, none, none] [] M (nPJ fun z M1 => M = M1 ∧ (-9223372036854775808 ≤ z ∧ z ≤ 9223372036854775807)) := by
  have hd : (2 : Int) = 2 ∨ (2 : Int) = 3 := by decide
  have hac := hS.2.2.2.2
  refine n_lconst (n := 0) c_26_0 rfl (n_lstore_n (L2 := [some (2, 44), some (2, 39), some (2, 4), some (1, 0), none, none]) c_26_1 rfl rfl (n_aload_n c_26_2 rfl (n_aload_n c_26_3 rfl (n_getV (bi := 0) c_26_4 sc_44.n rfl rfl rfl (t_44_0 hS) ?_))))
  intro z1 ez1 f2
  refine n_v1I c_26_7 rfl sc_4.n rfl rfl rfl rfl (powerU_2 (n := z1) hS (by omega)) ?_
  intro z3 M4 hP5
  obtain ⟨eM, f5⟩ := hP5
  subst eM
  refine n_iconst c_26_10 (n_isub c_26_11 rfl (n_istore (L2 := [some (2, 44), some (2, 39), some (2, 4), some (1, 0), none, some (0, (z3 - 1))]) c_26_12 rfl rfl (n_fg (le_s (le_s (le_s (le_s (le_n (le_s le_0)))))) ?_)))
  exact (fcode_2_c hS  30) _ _ (by omega) (by omega) (by omega)

set_option maxHeartbeats 4000000 in
theorem nstart_2 {xs : List Int32} {e : Nat} {ac : Int} {M0 M : nM} {c : Int} (hS : Sf 2 ac M0 M) (hc : 0 ≤ c ∧ c ≤ 9) : nW xs (e + 1) 64 0 [some (2, 38), some (0, 2), some (0, c)] [] M (nPV fun M1 => Sf 2 ac M0 M1) := by
  have hd : (2 : Int) = 2 ∨ (2 : Int) = 3 := by decide
  have hac := hS.2.2.2.2
  refine n_aload_n c_64_0 rfl (n_iload_n c_64_1 rfl (n_putV (bi := 5) hS c_64_2 sc_38.n rfl rfl rfl rfl (w_38_5 (by omega)) ?_))
  intro M1 eM1 hS1
  have g1_0 : M1 38 5 = 2 := by rw [eM1]; exact nu_s _ _ _ _
  refine n_aload_n c_64_5 rfl (n_iload_n c_64_6 rfl (n_bipush c_64_7 rfl (n_s2I c_64_9 rfl rfl rfl rfl (imin_2 (x := c) (y := 9) hS1 (by omega) (by omega)) ?_)))
  intro z2 M3 hP4
  obtain ⟨eM, f4, f4p0⟩ := hP4
  subst eM
  refine n_putV (bi := 6) hS1 c_64_12 sc_38.n rfl rfl rfl rfl (w_38_6 (by omega)) ?_
  intro M5 eM5 hS5
  have g5_0 : M5 38 5 = M1 38 5 := by rw [eM5]; exact nu_i (by omega)
  have g5_1 : M5 38 6 = z2 := by rw [eM5]; exact nu_s _ _ _ _
  refine n_aload_n c_64_15 rfl (n_iconst c_64_16 (n_aload_n c_64_17 rfl (n_getV (bi := 5) c_64_18 sc_38.n rfl rfl rfl (t_38_5 hS5) ?_)))
  intro z6 ez6 f7
  obtain rfl : z6 = 2 := by omega
  refine n_aload_n c_64_21 rfl (n_getV (bi := 5) c_64_22 sc_38.n rfl rfl rfl (t_38_5 hS5) ?_)
  intro z8 ez8 f9
  obtain rfl : z8 = 2 := by omega
  refine n_imul c_64_25 rfl (n_aload_n c_64_26 rfl (n_getV (bi := 5) c_64_27 sc_38.n rfl rfl rfl (t_38_5 hS5) ?_))
  intro z10 ez10 f11
  obtain rfl : z10 = 2 := by omega
  refine n_imul c_64_30 rfl (n_i_ishl (z := 256) c_64_31 (by decide) ?_)
  refine n_iconst c_64_32 (n_isub c_64_33 rfl (n_putV (bi := 7) hS5 c_64_34 sc_38.n rfl rfl rfl rfl (w_38_7 (by omega)) ?_))
  intro M12 eM12 hS12
  have g12_0 : M12 38 5 = M5 38 5 := by rw [eM12]; exact nu_i (by omega)
  have g12_1 : M12 38 6 = M5 38 6 := by rw [eM12]; exact nu_i (by omega)
  have g12_2 : M12 38 7 = (256 - 1) := by rw [eM12]; exact nu_s _ _ _ _
  refine n_aload_n c_64_37 rfl (n_getR c_64_38 sc_38.n rfl rfl rfl r_38_1 (n_aload_n c_64_41 rfl (n_getV (bi := 7) c_64_42 sc_38.n rfl rfl rfl (t_38_7 hS12) ?_)))
  intro z13 ez13 f14
  obtain rfl : z13 = 255 := by omega
  refine n_s2V c_64_45 rfl rfl rfl rfl (fill40_2 (v := 255) hS12 (by omega)) ?_
  intro  M15 hP16
  have hS15 := hP16
  exact n_rV c_64_48 rfl hS15

set_option maxHeartbeats 4000000 in
theorem limit_2 {xs : List Int32} {e : Nat} {ac : Int} {M0 M : nM} {p q r w : Int} (hS : Sf 2 ac M0 M) (hp : 0 ≤ p ∧ p ≤ 8) (hq : 0 ≤ q ∧ q ≤ 8) (hr : 0 ≤ r ∧ r ≤ 8) (hw : -2147483648 ≤ w ∧ w ≤ 2147483647) : nW xs e 65 0 [some (2, 38), some (0, p), some (0, q), some (0, r), some (0, w)] [] M (nPV fun M1 => Sf 2 ac M0 M1) := by
  have hd : (2 : Int) = 2 ∨ (2 : Int) = 3 := by decide
  have hac := hS.2.2.2.2
  refine n_aload_n c_65_0 rfl (n_getR c_65_1 sc_38.n rfl rfl rfl r_38_1 (n_iload_n c_65_4 rfl (n_bipush c_65_5 rfl (n_imul c_65_7 rfl (n_iload_n c_65_8 rfl (n_iadd c_65_9 rfl (n_bipush c_65_10 rfl (n_imul c_65_12 rfl (n_iload_n c_65_13 rfl (n_iadd c_65_14 rfl (n_dup202 c_65_15 ?_)))))))))))
  refine n_ialoadV c_65_16 sc_40.n rfl rfl rfl (by omega) (t_40 hS (by omega)) ?_
  intro z1 ez1 f2
  refine n_iload c_65_17 rfl (n_i_iand c_65_19 rfl ?_)
  have f3 := n_and_r z1 w
  generalize (n_and z1 w) = z4 at f3 ⊢
  refine n_iastoreV hS c_65_20 sc_40.n rfl (by omega) (w_40 (by omega) (by omega)) ?_
  intro M5 eM5 hS5
  exact n_rV c_65_21 rfl hS5

set_option maxHeartbeats 4000000 in
theorem restrain_2_c {xs : List Int32} {e : Nat} {ac : Int} {M0 M : nM} {w : Int} (hS : Sf 2 ac M0 M) (hw : LawAt w) : ∀ nn : Nat, (∀ (x4 x5 x6 : Int) (M : nM), Sf 2 ac M0 M → (0 ≤ x4 ∧ x4 ≤ 27) → (0 ≤ x5 ∧ x5 ≤ 27) → (0 ≤ x6 ∧ x6 ≤ 27) → (27 - x6) * 871 + 871 < (nn : Int) → nW xs (e + 2) 66 34 [some (2, 38), some (2, 44), some (2, w), some (2, 4), some (0, x4), some (0, x5), some (0, x6), none, none, none, none, none] [] M (nPV fun M1 => Sf 2 ac M0 M1)) ∧ (∀ (x4 x5 x6 x7 : Int) (M : nM), Sf 2 ac M0 M → (1 ≤ x4 ∧ x4 ≤ 27) → (0 ≤ x5 ∧ x5 ≤ 27) → (0 ≤ x6 ∧ x6 ≤ 26) → (0 ≤ x7 ∧ x7 ≤ 27) → (27 - x6) * 871 + (27 - x7) * 30 + 30 < (nn : Int) → nW xs (e + 2) 66 44 [some (2, 38), some (2, 44), some (2, w), some (2, 4), some (0, x4), some (0, x5), some (0, x6), some (0, x7), none, none, none, none] [] M (nPV fun M1 => Sf 2 ac M0 M1)) ∧ (∀ (x4 x5 x6 x7 x8 : Int) (M : nM), Sf 2 ac M0 M → (1 ≤ x4 ∧ x4 ≤ 27) → (1 ≤ x5 ∧ x5 ≤ 27) → (0 ≤ x6 ∧ x6 ≤ 26) → (0 ≤ x7 ∧ x7 ≤ 26) → (0 ≤ x8 ∧ x8 ≤ 27) → (27 - x6) * 871 + (27 - x7) * 30 + (27 - x8) * 1 + 1 < (nn : Int) → nW xs (e + 2) 66 54 [some (2, 38), some (2, 44), some (2, w), some (2, 4), some (0, x4), some (0, x5), some (0, x6), some (0, x7), some (0, x8), none, none, none] [] M (nPV fun M1 => Sf 2 ac M0 M1)) := by
  have hd : (2 : Int) = 2 ∨ (2 : Int) = 3 := by decide
  have hac := hS.2.2.2.2
  intro nn
  induction nn with
  | zero => refine ⟨?_, ?_, ?_⟩ <;> (intros; omega)
  | succ nn ih =>
    refine ⟨?_, ?_, ?_⟩
    · intro x4 x5 x6 M hS k4 k5 k6 hnn
      refine n_iload c_66_34 rfl (n_iload c_66_36 rfl ?_)
      refine n_if2_ge c_66_38 (by omega) (by omega) ?_ ?_
      · intro h1
        exact n_rV c_66_188 rfl hS
      · intro h2
        refine n_iconst c_66_41 (n_istore (L2 := [some (2, 38), some (2, 44), some (2, w), some (2, 4), some (0, x4), some (0, x5), some (0, x6), some (0, 0), none, none, none, none]) c_66_42 rfl rfl (n_fg (le_s (le_s (le_s (le_s (le_s (le_s (le_s (le_s (le_n (le_n (le_n (le_n le_0)))))))))))) ?_))
        exact ih.2.1 _ _ _ _ M hS (by omega) (by omega) (by omega) (by omega) (by omega)
    · intro x4 x5 x6 x7 M hS k4 k5 k6 k7 hnn
      refine n_iload c_66_44 rfl (n_iload c_66_46 rfl ?_)
      refine n_if2_ge c_66_48 (by omega) (by omega) ?_ ?_
      · intro h1
        refine n_iinc (L2 := [some (2, 38), some (2, 44), some (2, w), some (2, 4), some (0, x4), some (0, x5), some (0, (x6 + 1)), some (0, x7), none, none, none, none]) c_66_182 rfl rfl rfl (n_goto c_66_185 (n_fg (le_s (le_s (le_s (le_s (le_s (le_s (le_s (le_n (le_n (le_n (le_n (le_n le_0)))))))))))) ?_))
        exact ih.1 _ _ _ M hS (by omega) (by omega) (by omega) (by omega)
      · intro h2
        refine n_iconst c_66_51 (n_istore (L2 := [some (2, 38), some (2, 44), some (2, w), some (2, 4), some (0, x4), some (0, x5), some (0, x6), some (0, x7), some (0, 0), none, none, none]) c_66_52 rfl rfl (n_fg (le_s (le_s (le_s (le_s (le_s (le_s (le_s (le_s (le_s (le_n (le_n (le_n le_0)))))))))))) ?_))
        exact ih.2.2 _ _ _ _ _ M hS (by omega) (by omega) (by omega) (by omega) (by omega) (by omega)
    · intro x4 x5 x6 x7 x8 M hS k4 k5 k6 k7 k8 hnn
      refine n_iload c_66_54 rfl (n_aload_n c_66_56 rfl (n_getV (bi := 3) c_66_57 hw.c0.1.n rfl rfl rfl (t_law hS hw).2.2.2 ?_))
      intro z1 ez1 f2
      refine n_if2_ge c_66_60 (by omega) (by omega) ?_ ?_
      · intro h3
        refine n_iinc (L2 := [some (2, 38), some (2, 44), some (2, w), some (2, 4), some (0, x4), some (0, x5), some (0, x6), some (0, (x7 + 1)), some (0, x8), none, none, none]) c_66_176 rfl rfl rfl (n_goto c_66_179 (n_fg (le_s (le_s (le_s (le_s (le_s (le_s (le_s (le_s (le_n (le_n (le_n (le_n le_0)))))))))))) ?_))
        exact ih.2.1 _ _ _ _ M hS (by omega) (by omega) (by omega) (by omega) (by omega)
      · intro h4
        refine n_aload_n c_66_63 rfl (n_aload_n c_66_64 rfl (n_getR c_66_65 sc_4.n rfl rfl rfl r_4_2 (n_aload_n c_66_68 rfl (n_getR c_66_69 hw.c0.1.n rfl rfl rfl hw.r (n_iload c_66_72 rfl (n_ialoadV c_66_74 hw.c0.2.n rfl rfl rfl (by omega) (t_lawr hS hw (by omega)) ?_))))))
        intro z5 ez5 f6
        refine n_aload_n c_66_75 rfl (n_getR c_66_76 hw.c0.1.n rfl rfl rfl hw.r (n_iload c_66_79 rfl (n_ialoadV c_66_81 hw.c0.2.n rfl rfl rfl (by omega) (t_lawr hS hw (by omega)) ?_)))
        intro z7 ez7 f8
        refine n_aload_n c_66_82 rfl (n_getR c_66_83 hw.c0.1.n rfl rfl rfl hw.r (n_iload c_66_86 rfl (n_ialoadV c_66_88 hw.c0.2.n rfl rfl rfl (by omega) (t_lawr hS hw (by omega)) ?_)))
        intro z9 ez9 f10
        refine n_v4I c_66_89 rfl sc_44.n rfl rfl rfl rfl (variableAt5_2 (i := z5) (j := z7) (k := z9) hS (by omega) (by omega) (by omega)) ?_
        intro z11 M12 hP13
        obtain ⟨eM, f13⟩ := hP13
        subst eM
        refine n_istore (L2 := [some (2, 38), some (2, 44), some (2, w), some (2, 4), some (0, x4), some (0, x5), some (0, x6), some (0, x7), some (0, x8), some (0, z11), none, none]) c_66_92 rfl rfl (n_aload_n c_66_94 rfl (n_aload_n c_66_95 rfl (n_getR c_66_96 sc_4.n rfl rfl rfl r_4_3 (n_aload_n c_66_99 rfl (n_getR c_66_100 hw.c0.1.n rfl rfl rfl hw.r (n_iload c_66_103 rfl (n_ialoadV c_66_105 hw.c0.2.n rfl rfl rfl (by omega) (t_lawr hS hw (by omega)) ?_)))))))
        intro z14 ez14 f15
        refine n_aload_n c_66_106 rfl (n_getR c_66_107 hw.c0.1.n rfl rfl rfl hw.r (n_iload c_66_110 rfl (n_ialoadV c_66_112 hw.c0.2.n rfl rfl rfl (by omega) (t_lawr hS hw (by omega)) ?_)))
        intro z16 ez16 f17
        refine n_aload_n c_66_113 rfl (n_getR c_66_114 hw.c0.1.n rfl rfl rfl hw.r (n_iload c_66_117 rfl (n_ialoadV c_66_119 hw.c0.2.n rfl rfl rfl (by omega) (t_lawr hS hw (by omega)) ?_)))
        intro z18 ez18 f19
        refine n_v4I c_66_120 rfl sc_44.n rfl rfl rfl rfl (variableAt6_2 (i := z14) (j := z16) (k := z18) hS (by omega) (by omega) (by omega)) ?_
        intro z20 M21 hP22
        obtain ⟨eM, f22⟩ := hP22
        subst eM
        refine n_istore (L2 := [some (2, 38), some (2, 44), some (2, w), some (2, 4), some (0, x4), some (0, x5), some (0, x6), some (0, x7), some (0, x8), some (0, z11), some (0, z20), none]) c_66_123 rfl rfl (n_aload_n c_66_125 rfl (n_aload_n c_66_126 rfl (n_getR c_66_127 sc_4.n rfl rfl rfl r_4_4 (n_aload_n c_66_130 rfl (n_getR c_66_131 hw.c0.1.n rfl rfl rfl hw.r (n_iload c_66_134 rfl (n_ialoadV c_66_136 hw.c0.2.n rfl rfl rfl (by omega) (t_lawr hS hw (by omega)) ?_)))))))
        intro z23 ez23 f24
        refine n_aload_n c_66_137 rfl (n_getR c_66_138 hw.c0.1.n rfl rfl rfl hw.r (n_iload c_66_141 rfl (n_ialoadV c_66_143 hw.c0.2.n rfl rfl rfl (by omega) (t_lawr hS hw (by omega)) ?_)))
        intro z25 ez25 f26
        refine n_aload_n c_66_144 rfl (n_getR c_66_145 hw.c0.1.n rfl rfl rfl hw.r (n_iload c_66_148 rfl (n_ialoadV c_66_150 hw.c0.2.n rfl rfl rfl (by omega) (t_lawr hS hw (by omega)) ?_)))
        intro z27 ez27 f28
        refine n_v4I c_66_151 rfl sc_44.n rfl rfl rfl rfl (variableAt7_2 (i := z23) (j := z25) (k := z27) hS (by omega) (by omega) (by omega)) ?_
        intro z29 M30 hP31
        obtain ⟨eM, f31⟩ := hP31
        subst eM
        refine n_istore (L2 := [some (2, 38), some (2, 44), some (2, w), some (2, 4), some (0, x4), some (0, x5), some (0, x6), some (0, x7), some (0, x8), some (0, z11), some (0, z20), some (0, z29)]) c_66_154 rfl rfl (n_aload_n c_66_156 rfl (n_iload c_66_157 rfl (n_iload c_66_159 rfl (n_iload c_66_161 rfl (n_aload_n c_66_163 rfl (n_getV (bi := 2) c_66_164 hw.c0.1.n rfl rfl rfl (t_law hS hw).2.2.1 ?_))))))
        intro z32 ez32 f33
        refine n_v4V c_66_167 rfl sc_38.n rfl rfl rfl rfl (limit_2 (p := z11) (q := z20) (r := z29) (w := z32) hS (by omega) (by omega) (by omega) (by omega)) ?_
        intro  M34 hP35
        have hS34 := hP35
        refine n_iinc (L2 := [some (2, 38), some (2, 44), some (2, w), some (2, 4), some (0, x4), some (0, x5), some (0, x6), some (0, x7), some (0, (x8 + 1)), some (0, z11), some (0, z20), some (0, z29)]) c_66_170 rfl rfl rfl (n_goto c_66_173 (n_fg (le_s (le_s (le_s (le_s (le_s (le_s (le_s (le_s (le_s (le_n (le_n (le_n le_0)))))))))))) ?_))
        exact ih.2.2 _ _ _ _ _ M34 hS34 (by omega) (by omega) (by omega) (by omega) (by omega) (by omega)
set_option maxHeartbeats 4000000 in
theorem restrain_2 {xs : List Int32} {e : Nat} {ac : Int} {M0 M : nM} {w : Int} (hS : Sf 2 ac M0 M) (hw : LawAt w) : nW xs (e + 2) 66 0 [some (2, 38), some (2, 44), some (2, w), some (2, 4), none, none, none, none, none, none, none, none] [] M (nPV fun M1 => Sf 2 ac M0 M1) := by
  have hd : (2 : Int) = 2 ∨ (2 : Int) = 3 := by decide
  have hac := hS.2.2.2.2
  refine n_aload_n c_66_0 rfl (n_aload_n c_66_1 rfl (n_v1I c_66_2 rfl hw.c0.1.n rfl rfl rfl rfl (hasAllRows_2 (q := w) hS hw) ?_))
  intro z1 M2 hP3
  obtain ⟨eM, f3⟩ := hP3
  subst eM
  refine n_if0_eq c_66_5 (by omega) ?_ ?_
  · intro h4
    refine n_aload_n c_66_9 rfl (n_aload_n c_66_10 rfl (n_getV (bi := 0) c_66_11 sc_44.n rfl rfl rfl (t_44_0 hS) ?_))
    intro z5 ez5 f6
    refine n_iconst c_66_14 (n_v2I c_66_15 rfl hw.c0.1.n rfl rfl rfl rfl (tried_2 (q := w) (a := z5) (n := 3) hS hw (by omega) (by omega)) ?_)
    intro z7 M8 hP9
    obtain ⟨eM, f9⟩ := hP9
    subst eM
    refine n_istore (L2 := [some (2, 38), some (2, 44), some (2, w), some (2, 4), some (0, z7), none, none, none, none, none, none, none]) c_66_18 rfl rfl (n_aload_n c_66_20 rfl (n_aload_n c_66_21 rfl (n_getV (bi := 0) c_66_22 sc_44.n rfl rfl rfl (t_44_0 hS) ?_)))
    intro z10 ez10 f11
    refine n_iconst c_66_25 (n_v2I c_66_26 rfl hw.c0.1.n rfl rfl rfl rfl (tried_2 (q := w) (a := z10) (n := 2) hS hw (by omega) (by omega)) ?_)
    intro z12 M13 hP14
    obtain ⟨eM, f14⟩ := hP14
    subst eM
    refine n_istore (L2 := [some (2, 38), some (2, 44), some (2, w), some (2, 4), some (0, z7), some (0, z12), none, none, none, none, none, none]) c_66_29 rfl rfl (n_iconst c_66_31 (n_istore (L2 := [some (2, 38), some (2, 44), some (2, w), some (2, 4), some (0, z7), some (0, z12), some (0, 0), none, none, none, none, none]) c_66_32 rfl rfl (n_fg (le_s (le_s (le_s (le_s (le_s (le_s (le_s (le_n (le_n (le_n (le_n (le_n le_0)))))))))))) ?_)))
    exact (restrain_2_c hS hw 50528).1 _ _ _ M hS (by omega) (by omega) (by omega) (by omega)
  · intro h15
    exact n_rV c_66_8 rfl hS

set_option maxHeartbeats 4000000 in
theorem isUnknown_2_c {xs : List Int32} {e : Nat} {ac : Int} {M0 M : nM} {u : Int} (hS : Sf 2 ac M0 M) (hu : -2147483648 ≤ u ∧ u ≤ 2147483647) : ∀ nn : Nat, (1 < (nn : Int) → nW xs e 75 16 [none, none] [] M (nPI fun z M1 => M = M1 ∧ (0 ≤ z ∧ z ≤ 1) ∧ (z = 0 ∨ (0 ≤ u ∧ u ≤ 7)))) := by
  have hd : (2 : Int) = 2 ∨ (2 : Int) = 3 := by decide
  have hac := hS.2.2.2.2
  intro nn
  induction nn with
  | zero => intros; omega
  | succ nn ih =>
    intro hnn
    refine n_iconst c_75_16 ?_
    exact n_rZ c_75_17 rfl (by omega) ⟨rfl, by omega, by omega⟩
set_option maxHeartbeats 4000000 in
theorem isUnknown_2 {xs : List Int32} {e : Nat} {ac : Int} {M0 M : nM} {u : Int} (hS : Sf 2 ac M0 M) (hu : -2147483648 ≤ u ∧ u ≤ 2147483647) : nW xs e 75 0 [some (2, 32), some (0, u)] [] M (nPI fun z M1 => M = M1 ∧ (0 ≤ z ∧ z ≤ 1) ∧ (z = 0 ∨ (0 ≤ u ∧ u ≤ 7))) := by
  have hd : (2 : Int) = 2 ∨ (2 : Int) = 3 := by decide
  have hac := hS.2.2.2.2
  refine n_iload_n c_75_0 rfl ?_
  refine n_if0_lt c_75_1 (by omega) ?_ ?_
  · intro h1
    refine n_fg (le_n (le_n le_0)) ?_
    exact (isUnknown_2_c hS hu 12)   (by omega)
  · intro h2
    refine n_iload_n c_75_4 rfl (n_aload_n c_75_5 rfl (n_getV (bi := 0) c_75_6 sc_32.n rfl rfl rfl (t_32_0 hS) ?_))
    intro z3 ez3 f4
    refine n_if2_ge c_75_9 (by omega) (by omega) ?_ ?_
    · intro h5
      refine n_fg (le_n (le_n le_0)) ?_
      exact (isUnknown_2_c hS hu 12)   (by omega)
    · intro h6
      refine n_iconst c_75_12 (n_goto c_75_13 ?_)
      exact n_rZ c_75_17 rfl (by omega) ⟨rfl, by omega, by omega⟩

set_option maxHeartbeats 4000000 in
theorem lawMask_2_c {xs : List Int32} {e : Nat} {ac : Int} {M0 M : nM} (hS : Sf 2 ac M0 M)  : ∀ nn : Nat, (∀ (x1 x2 : Int), (0 ≤ x1 ∧ x1 ≤ 4095) → (0 ≤ x2 ∧ x2 ≤ 30) → (30 - x2) * 1 + 1 < (nn : Int) → nW xs e 77 4 [some (2, 32), some (0, x1), some (0, x2)] [] M (nPI fun z M1 => M = M1 ∧ (-2147483648 ≤ z ∧ z ≤ 2147483647))) := by
  have hd : (2 : Int) = 2 ∨ (2 : Int) = 3 := by decide
  have hac := hS.2.2.2.2
  intro nn
  induction nn with
  | zero => intros; omega
  | succ nn ih =>
    intro x1 x2 k1 k2 hnn
    refine n_iload_n c_77_4 rfl (n_aload_n c_77_5 rfl (n_getV (bi := 1) c_77_6 sc_32.n rfl rfl rfl (t_32_1 hS) ?_))
    intro z1 ez1 f2
    refine n_if2_ge c_77_9 (by omega) (by omega) ?_ ?_
    · intro h3
      refine n_iload_n c_77_29 rfl ?_
      exact n_rI c_77_30 rfl ⟨rfl, by omega⟩
    · intro h4
      refine n_iload_n c_77_12 rfl (n_iconst c_77_13 (n_aload_n c_77_14 rfl (n_getR c_77_15 sc_32.n rfl rfl rfl r_32_2 (n_iload_n c_77_18 rfl (n_ialoadV c_77_19 sc_33.n rfl rfl rfl (by omega) (t_33 hS (by omega)) ?_)))))
      intro z5 ez5 f6
      refine n_i_ishl c_77_20 rfl ?_
      have f7 := n_shl_1 (y := z5) (a := 0) (b := 11) (by decide) (by omega)
      generalize (n_shl 1 z5) = z8 at f7 ⊢
      refine n_i_ior c_77_21 rfl ?_
      have f9 := n_or_k (x := x1) (y := z8) (n := 12) (by decide) (by omega) (by omega)
      generalize (n_or x1 z8) = z10 at f9 ⊢
      refine n_istore_n (L2 := [some (2, 32), some (0, z10), some (0, x2)]) c_77_22 rfl rfl (n_iinc (L2 := [some (2, 32), some (0, z10), some (0, (x2 + 1))]) c_77_23 rfl rfl rfl (n_goto c_77_26 (n_fg (le_s (le_s (le_s le_0))) ?_)))
      exact ih _ _ (by omega) (by omega) (by omega)
set_option maxHeartbeats 4000000 in
theorem lawMask_2 {xs : List Int32} {e : Nat} {ac : Int} {M0 M : nM} (hS : Sf 2 ac M0 M)  : nW xs e 77 0 [some (2, 32), none, none] [] M (nPI fun z M1 => M = M1 ∧ (-2147483648 ≤ z ∧ z ≤ 2147483647)) := by
  have hd : (2 : Int) = 2 ∨ (2 : Int) = 3 := by decide
  have hac := hS.2.2.2.2
  refine n_iconst c_77_0 (n_istore_n (L2 := [some (2, 32), some (0, 0), none]) c_77_1 rfl rfl (n_iconst c_77_2 (n_istore_n (L2 := [some (2, 32), some (0, 0), some (0, 0)]) c_77_3 rfl rfl (n_fg (le_s (le_s (le_s le_0))) ?_))))
  exact (lawMask_2_c hS  74) _ _ (by omega) (by omega) (by omega)

set_option maxHeartbeats 4000000 in
theorem canHave_2 {xs : List Int32} {e : Nat} {ac : Int} {M0 M : nM} {u t : Int} (hS : Sf 2 ac M0 M) (hu : 0 ≤ u ∧ u ≤ 7) (ht : -2147483648 ≤ t ∧ t ≤ 2147483647) : nW xs e 81 0 [some (2, 32), some (0, u), some (0, t)] [] M (nPI fun z M1 => M = M1 ∧ (0 ≤ z ∧ z ≤ 1)) := by
  have hd : (2 : Int) = 2 ∨ (2 : Int) = 3 := by decide
  have hac := hS.2.2.2.2
  refine n_aload_n c_81_0 rfl (n_getR c_81_1 sc_32.n rfl rfl rfl r_32_6 (n_iload_n c_81_4 rfl (n_ialoadV c_81_5 sc_37.n rfl rfl rfl (by omega) (t_37 hS (by omega)) ?_)))
  intro z1 ez1 f2
  refine n_iload_n c_81_6 rfl (n_i_ishr c_81_7 rfl ?_)
  have f3 := n_shr_r z1 t
  generalize (n_shr z1 t) = z4 at f3 ⊢
  refine n_iconst c_81_8 (n_i_iand c_81_9 rfl ?_)
  have f5 := n_and_y (x := z4) (y := 1) (by omega)
  generalize (n_and z4 1) = z6 at f5 ⊢
  refine n_if0_eq c_81_10 (by omega) ?_ ?_
  · intro h7
    refine n_iconst c_81_17 ?_
    exact n_rZ c_81_18 rfl (by omega) ⟨rfl, by omega⟩
  · intro h8
    refine n_iconst c_81_13 (n_goto c_81_14 ?_)
    exact n_rZ c_81_18 rfl (by omega) ⟨rfl, by omega⟩

set_option maxHeartbeats 4000000 in
theorem leave_2 {xs : List Int32} {e : Nat} {ac : Int} {M0 M : nM} {u t : Int} (hS : Sf 2 ac M0 M) (hu : 0 ≤ u ∧ u ≤ 7) (ht : -2147483648 ≤ t ∧ t ≤ 2147483647) : nW xs e 82 0 [some (2, 32), some (0, u), some (0, t), none] [] M (nPI fun z M1 => Sf 2 ac M0 M1 ∧ (0 ≤ z ∧ z ≤ 1)) := by
  have hd : (2 : Int) = 2 ∨ (2 : Int) = 3 := by decide
  have hac := hS.2.2.2.2
  refine n_aload_n c_82_0 rfl (n_getR c_82_1 sc_32.n rfl rfl rfl r_32_6 (n_iload_n c_82_4 rfl (n_ialoadV c_82_5 sc_37.n rfl rfl rfl (by omega) (t_37 hS (by omega)) ?_)))
  intro z1 ez1 f2
  refine n_istore_n (L2 := [some (2, 32), some (0, u), some (0, t), some (0, z1)]) c_82_6 rfl rfl (n_aload_n c_82_7 rfl (n_getR c_82_8 sc_32.n rfl rfl rfl r_32_6 (n_iload_n c_82_11 rfl (n_iload_n c_82_12 rfl (n_iload_n c_82_13 rfl (n_i_iand c_82_14 rfl ?_))))))
  have f3 := n_and_r z1 t
  generalize (n_and z1 t) = z4 at f3 ⊢
  refine n_iastoreV hS c_82_15 sc_37.n rfl (by omega) (w_37 (by omega) (by omega)) ?_
  intro M5 eM5 hS5
  refine n_aload_n c_82_16 rfl (n_getR c_82_17 sc_32.n rfl rfl rfl r_32_6 (n_iload_n c_82_20 rfl (n_ialoadV c_82_21 sc_37.n rfl rfl rfl (by omega) (t_37 hS5 (by omega)) ?_)))
  intro z6 ez6 f7
  refine n_iload_n c_82_22 rfl ?_
  refine n_if2_eq c_82_23 (by omega) (by omega) ?_ ?_
  · intro h8
    refine n_iconst c_82_30 ?_
    exact n_rZ c_82_31 rfl (by omega) ⟨hS5, by omega⟩
  · intro h9
    refine n_iconst c_82_26 (n_goto c_82_27 ?_)
    exact n_rZ c_82_31 rfl (by omega) ⟨hS5, by omega⟩

set_option maxHeartbeats 4000000 in
theorem isOpen_2_c {xs : List Int32} {e : Nat} {ac : Int} {M0 M : nM} {i a b c : Int} (hS : Sf 2 ac M0 M) (hi : 0 ≤ i ∧ i ≤ 29) (ha : -2147483648 ≤ a ∧ a ≤ 2147483647) (hb : -2147483648 ≤ b ∧ b ≤ 2147483647) (hc : -2147483648 ≤ c ∧ c ≤ 2147483647) : ∀ nn : Nat, (5 < (nn : Int) → nW xs (e + 1) 80 43 [none, none, none, none, none] [] M (nPI fun z M1 => M = M1 ∧ (0 ≤ z ∧ z ≤ 1))) ∧ (4 < (nn : Int) → nW xs (e + 1) 80 65 [some (2, 32), some (0, i), some (0, a), some (0, b), some (0, c)] [] M (nPI fun z M1 => M = M1 ∧ (0 ≤ z ∧ z ≤ 1))) ∧ (3 < (nn : Int) → nW xs (e + 1) 80 86 [some (2, 32), some (0, i), some (0, a), none, some (0, c)] [] M (nPI fun z M1 => M = M1 ∧ (0 ≤ z ∧ z ≤ 1))) ∧ (2 < (nn : Int) → nW xs (e + 1) 80 107 [none, none, none, none, none] [] M (nPI fun z M1 => M = M1 ∧ (0 ≤ z ∧ z ≤ 1))) ∧ (1 < (nn : Int) → nW xs (e + 1) 80 111 [none, none, none, none, none] [] M (nPI fun z M1 => M = M1 ∧ (0 ≤ z ∧ z ≤ 1))) := by
  have hd : (2 : Int) = 2 ∨ (2 : Int) = 3 := by decide
  have hac := hS.2.2.2.2
  intro nn
  induction nn with
  | zero => refine ⟨?_, ?_, ?_, ?_, ?_⟩ <;> (intros; omega)
  | succ nn ih =>
    refine ⟨?_, ?_, ?_, ?_, ?_⟩
    · intro hnn
      refine n_iconst c_80_43 ?_
      exact n_rZ c_80_44 rfl (by omega) ⟨rfl, by omega⟩
    · intro hnn
      refine n_aload_n c_80_65 rfl (n_getR c_80_66 sc_32.n rfl rfl rfl r_32_4 (n_iload_n c_80_69 rfl (n_ialoadV c_80_70 sc_35.n rfl rfl rfl (by omega) (t_35 hS (by omega)) ?_)))
      intro z1 ez1 f2
      refine n_aload_n c_80_71 rfl (n_getR c_80_72 sc_32.n rfl rfl rfl r_32_5 (n_iload_n c_80_75 rfl (n_ialoadV c_80_76 sc_36.n rfl rfl rfl (by omega) (t_36 hS (by omega)) ?_)))
      intro z3 ez3 f4
      refine n_if2_ne c_80_77 (by omega) (by omega) ?_ ?_
      · intro h5
        refine n_fg (le_s (le_s (le_s (le_n (le_s le_0))))) ?_
        exact ih.2.2.1   (by omega)
      · intro h6
        refine n_iload_n c_80_80 rfl (n_iload c_80_81 rfl ?_)
        refine n_if2_ne c_80_83 (by omega) (by omega) ?_ ?_
        · intro h7
          refine n_fg (le_n (le_n (le_n (le_n (le_n le_0))))) ?_
          exact ih.2.2.2.2   (by omega)
        · intro h8
          refine n_fg (le_s (le_s (le_s (le_n (le_s le_0))))) ?_
          exact ih.2.2.1   (by omega)
    · intro hnn
      refine n_aload_n c_80_86 rfl (n_getR c_80_87 sc_32.n rfl rfl rfl r_32_3 (n_iload_n c_80_90 rfl (n_ialoadV c_80_91 sc_34.n rfl rfl rfl (by omega) (t_34 hS (by omega)) ?_)))
      intro z1 ez1 f2
      refine n_aload_n c_80_92 rfl (n_getR c_80_93 sc_32.n rfl rfl rfl r_32_5 (n_iload_n c_80_96 rfl (n_ialoadV c_80_97 sc_36.n rfl rfl rfl (by omega) (t_36 hS (by omega)) ?_)))
      intro z3 ez3 f4
      refine n_if2_ne c_80_98 (by omega) (by omega) ?_ ?_
      · intro h5
        refine n_fg (le_n (le_n (le_n (le_n (le_n le_0))))) ?_
        exact ih.2.2.2.1   (by omega)
      · intro h6
        refine n_iload_n c_80_101 rfl (n_iload c_80_102 rfl ?_)
        refine n_if2_ne c_80_104 (by omega) (by omega) ?_ ?_
        · intro h7
          refine n_fg (le_n (le_n (le_n (le_n (le_n le_0))))) ?_
          exact ih.2.2.2.2   (by omega)
        · intro h8
          refine n_fg (le_n (le_n (le_n (le_n (le_n le_0))))) ?_
          exact ih.2.2.2.1   (by omega)
    · intro hnn
      refine n_iconst c_80_107 (n_goto c_80_108 ?_)
      exact n_rZ c_80_112 rfl (by omega) ⟨rfl, by omega⟩
    · intro hnn
      refine n_iconst c_80_111 ?_
      exact n_rZ c_80_112 rfl (by omega) ⟨rfl, by omega⟩
set_option maxHeartbeats 4000000 in
theorem isOpen_2 {xs : List Int32} {e : Nat} {ac : Int} {M0 M : nM} {i a b c : Int} (hS : Sf 2 ac M0 M) (hi : 0 ≤ i ∧ i ≤ 29) (ha : -2147483648 ≤ a ∧ a ≤ 2147483647) (hb : -2147483648 ≤ b ∧ b ≤ 2147483647) (hc : -2147483648 ≤ c ∧ c ≤ 2147483647) : nW xs (e + 1) 80 0 [some (2, 32), some (0, i), some (0, a), some (0, b), some (0, c)] [] M (nPI fun z M1 => M = M1 ∧ (0 ≤ z ∧ z ≤ 1)) := by
  have hd : (2 : Int) = 2 ∨ (2 : Int) = 3 := by decide
  have hac := hS.2.2.2.2
  refine n_aload_n c_80_0 rfl (n_aload_n c_80_1 rfl (n_getR c_80_2 sc_32.n rfl rfl rfl r_32_3 (n_iload_n c_80_5 rfl (n_ialoadV c_80_6 sc_34.n rfl rfl rfl (by omega) (t_34 hS (by omega)) ?_))))
  intro z1 ez1 f2
  refine n_iload_n c_80_7 rfl (n_v2I c_80_8 rfl sc_32.n rfl rfl rfl rfl (canHave_2 (u := z1) (t := a) hS (by omega) (by omega)) ?_)
  intro z3 M4 hP5
  obtain ⟨eM, f5⟩ := hP5
  subst eM
  refine n_if0_eq c_80_11 (by omega) ?_ ?_
  · intro h6
    refine n_fg (le_n (le_n (le_n (le_n (le_n le_0))))) ?_
    exact (isOpen_2_c hS hi ha hb hc 20).1   (by omega)
  · intro h7
    refine n_aload_n c_80_14 rfl (n_aload_n c_80_15 rfl (n_getR c_80_16 sc_32.n rfl rfl rfl r_32_4 (n_iload_n c_80_19 rfl (n_ialoadV c_80_20 sc_35.n rfl rfl rfl (by omega) (t_35 hS (by omega)) ?_))))
    intro z8 ez8 f9
    refine n_iload_n c_80_21 rfl (n_v2I c_80_22 rfl sc_32.n rfl rfl rfl rfl (canHave_2 (u := z8) (t := b) hS (by omega) (by omega)) ?_)
    intro z10 M11 hP12
    obtain ⟨eM, f12⟩ := hP12
    subst eM
    refine n_if0_eq c_80_25 (by omega) ?_ ?_
    · intro h13
      refine n_fg (le_n (le_n (le_n (le_n (le_n le_0))))) ?_
      exact (isOpen_2_c hS hi ha hb hc 20).1   (by omega)
    · intro h14
      refine n_aload_n c_80_28 rfl (n_aload_n c_80_29 rfl (n_getR c_80_30 sc_32.n rfl rfl rfl r_32_5 (n_iload_n c_80_33 rfl (n_ialoadV c_80_34 sc_36.n rfl rfl rfl (by omega) (t_36 hS (by omega)) ?_))))
      intro z15 ez15 f16
      refine n_iload c_80_35 rfl (n_v2I c_80_37 rfl sc_32.n rfl rfl rfl rfl (canHave_2 (u := z15) (t := c) hS (by omega) (by omega)) ?_)
      intro z17 M18 hP19
      obtain ⟨eM, f19⟩ := hP19
      subst eM
      refine n_if0_ne c_80_40 (by omega) ?_ ?_
      · intro h20
        refine n_aload_n c_80_45 rfl (n_getR c_80_46 sc_32.n rfl rfl rfl r_32_3 (n_iload_n c_80_49 rfl (n_ialoadV c_80_50 sc_34.n rfl rfl rfl (by omega) (t_34 hS (by omega)) ?_)))
        intro z21 ez21 f22
        refine n_aload_n c_80_51 rfl (n_getR c_80_52 sc_32.n rfl rfl rfl r_32_4 (n_iload_n c_80_55 rfl (n_ialoadV c_80_56 sc_35.n rfl rfl rfl (by omega) (t_35 hS (by omega)) ?_)))
        intro z23 ez23 f24
        refine n_if2_ne c_80_57 (by omega) (by omega) ?_ ?_
        · intro h25
          refine n_fg (le_s (le_s (le_s (le_s (le_s le_0))))) ?_
          exact (isOpen_2_c hS hi ha hb hc 20).2.1   (by omega)
        · intro h26
          refine n_iload_n c_80_60 rfl (n_iload_n c_80_61 rfl ?_)
          refine n_if2_ne c_80_62 (by omega) (by omega) ?_ ?_
          · intro h27
            refine n_fg (le_n (le_n (le_n (le_n (le_n le_0))))) ?_
            exact (isOpen_2_c hS hi ha hb hc 20).2.2.2.2   (by omega)
          · intro h28
            refine n_fg (le_s (le_s (le_s (le_s (le_s le_0))))) ?_
            exact (isOpen_2_c hS hi ha hb hc 20).2.1   (by omega)
      · intro h29
        refine n_fg (le_n (le_n (le_n (le_n (le_n le_0))))) ?_
        exact (isOpen_2_c hS hi ha hb hc 20).1   (by omega)

set_option maxHeartbeats 4000000 in
theorem narrowBy_2_c {xs : List Int32} {e : Nat} {ac : Int} {M0 M : nM} {w i : Int} (hS : Sf 2 ac M0 M) (hw : LawAt w) (hi : 0 ≤ i ∧ i ≤ 29) : ∀ nn : Nat, (∀ (x4 x5 x6 x7 : Int) (M : nM), Sf 2 ac M0 M → (0 ≤ x4 ∧ x4 ≤ 7) → (0 ≤ x5 ∧ x5 ≤ 7) → (0 ≤ x6 ∧ x6 ≤ 7) → (0 ≤ x7 ∧ x7 ≤ 27) → (27 - x7) * 2 + 2 < (nn : Int) → nW xs (e + 2) 79 12 [some (2, 32), some (0, i), some (2, w), some (2, 4), some (0, x4), some (0, x5), some (0, x6), some (0, x7), none, none, none] [] M (nPI fun z M1 => Sf 2 ac M0 M1 ∧ (0 ≤ z ∧ z ≤ 1))) ∧ (∀ (x4 x5 x6 x7 : Int) (M : nM), Sf 2 ac M0 M → (0 ≤ x4 ∧ x4 ≤ 7) → (0 ≤ x5 ∧ x5 ≤ 7) → (0 ≤ x6 ∧ x6 ≤ 7) → (0 ≤ x7 ∧ x7 ≤ 26) → (27 - x7) * 2 + 1 < (nn : Int) → nW xs (e + 2) 79 104 [some (2, 32), some (0, i), some (2, w), some (2, 4), some (0, x4), some (0, x5), some (0, x6), some (0, x7), none, none, none] [] M (nPI fun z M1 => Sf 2 ac M0 M1 ∧ (0 ≤ z ∧ z ≤ 1))) := by
  have hd : (2 : Int) = 2 ∨ (2 : Int) = 3 := by decide
  have hac := hS.2.2.2.2
  intro nn
  induction nn with
  | zero => refine ⟨?_, ?_⟩ <;> (intros; omega)
  | succ nn ih =>
    refine ⟨?_, ?_⟩
    · intro x4 x5 x6 x7 M hS k4 k5 k6 k7 hnn
      refine n_iload c_79_12 rfl (n_aload_n c_79_14 rfl (n_getV (bi := 3) c_79_15 hw.c0.1.n rfl rfl rfl (t_law hS hw).2.2.2 ?_))
      intro z1 ez1 f2
      refine n_if2_ge c_79_18 (by omega) (by omega) ?_ ?_
      · intro h3
        refine n_aload_n c_79_110 rfl (n_aload_n c_79_111 rfl (n_getR c_79_112 sc_32.n rfl rfl rfl r_32_3 (n_iload_n c_79_115 rfl (n_ialoadV c_79_116 sc_34.n rfl rfl rfl (by omega) (t_34 hS (by omega)) ?_))))
        intro z4 ez4 f5
        refine n_iload c_79_117 rfl (n_v2I c_79_119 rfl sc_32.n rfl rfl rfl rfl (leave_2 (u := z4) (t := x4) hS (by omega) (by omega)) ?_)
        intro z6 M7 hP8
        obtain ⟨hS7, f8⟩ := hP8
        refine n_istore (L2 := [some (2, 32), some (0, i), some (2, w), some (2, 4), some (0, x4), some (0, x5), some (0, x6), some (0, z6), none, none, none]) c_79_122 rfl rfl (n_iload c_79_124 rfl (n_aload_n c_79_126 rfl (n_aload_n c_79_127 rfl (n_getR c_79_128 sc_32.n rfl rfl rfl r_32_4 (n_iload_n c_79_131 rfl (n_ialoadV c_79_132 sc_35.n rfl rfl rfl (by omega) (t_35 hS7 (by omega)) ?_))))))
        intro z9 ez9 f10
        refine n_iload c_79_133 rfl (n_v2I c_79_135 rfl sc_32.n rfl rfl rfl rfl (leave_2 (u := z9) (t := x5) hS7 (by omega) (by omega)) ?_)
        intro z11 M12 hP13
        obtain ⟨hS12, f13⟩ := hP13
        refine n_i_ior c_79_138 rfl ?_
        have f14 := n_or_1 (x := z6) (y := z11) (by omega) (by omega)
        generalize (n_or z6 z11) = z15 at f14 ⊢
        refine n_istore (L2 := [some (2, 32), some (0, i), some (2, w), some (2, 4), some (0, x4), some (0, x5), some (0, x6), some (0, z15), none, none, none]) c_79_139 rfl rfl (n_iload c_79_141 rfl (n_aload_n c_79_143 rfl (n_aload_n c_79_144 rfl (n_getR c_79_145 sc_32.n rfl rfl rfl r_32_5 (n_iload_n c_79_148 rfl (n_ialoadV c_79_149 sc_36.n rfl rfl rfl (by omega) (t_36 hS12 (by omega)) ?_))))))
        intro z16 ez16 f17
        refine n_iload c_79_150 rfl (n_v2I c_79_152 rfl sc_32.n rfl rfl rfl rfl (leave_2 (u := z16) (t := x6) hS12 (by omega) (by omega)) ?_)
        intro z18 M19 hP20
        obtain ⟨hS19, f20⟩ := hP20
        refine n_i_ior c_79_155 rfl ?_
        have f21 := n_or_1 (x := z15) (y := z18) (by omega) (by omega)
        generalize (n_or z15 z18) = z22 at f21 ⊢
        refine n_istore (L2 := [some (2, 32), some (0, i), some (2, w), some (2, 4), some (0, x4), some (0, x5), some (0, x6), some (0, z22), none, none, none]) c_79_156 rfl rfl (n_iload c_79_158 rfl ?_)
        exact n_rZ c_79_160 rfl (by omega) ⟨hS19, by omega⟩
      · intro h23
        refine n_aload_n c_79_21 rfl (n_getR c_79_22 sc_4.n rfl rfl rfl r_4_2 (n_aload_n c_79_25 rfl (n_getR c_79_26 hw.c0.1.n rfl rfl rfl hw.r (n_iload c_79_29 rfl (n_ialoadV c_79_31 hw.c0.2.n rfl rfl rfl (by omega) (t_lawr hS hw (by omega)) ?_)))))
        intro z24 ez24 f25
        refine n_ialoadV c_79_32 sc_5.n rfl rfl rfl (by omega) (t_5 hS hd (by omega)) ?_
        intro z26 ez26 f27
        refine n_istore (L2 := [some (2, 32), some (0, i), some (2, w), some (2, 4), some (0, x4), some (0, x5), some (0, x6), some (0, x7), some (0, z26), none, none]) c_79_33 rfl rfl (n_aload_n c_79_35 rfl (n_getR c_79_36 sc_4.n rfl rfl rfl r_4_3 (n_aload_n c_79_39 rfl (n_getR c_79_40 hw.c0.1.n rfl rfl rfl hw.r (n_iload c_79_43 rfl (n_ialoadV c_79_45 hw.c0.2.n rfl rfl rfl (by omega) (t_lawr hS hw (by omega)) ?_))))))
        intro z28 ez28 f29
        refine n_ialoadV c_79_46 sc_6.n rfl rfl rfl (by omega) (t_6 hS hd (by omega)) ?_
        intro z30 ez30 f31
        refine n_istore (L2 := [some (2, 32), some (0, i), some (2, w), some (2, 4), some (0, x4), some (0, x5), some (0, x6), some (0, x7), some (0, z26), some (0, z30), none]) c_79_47 rfl rfl (n_aload_n c_79_49 rfl (n_getR c_79_50 sc_4.n rfl rfl rfl r_4_4 (n_aload_n c_79_53 rfl (n_getR c_79_54 hw.c0.1.n rfl rfl rfl hw.r (n_iload c_79_57 rfl (n_ialoadV c_79_59 hw.c0.2.n rfl rfl rfl (by omega) (t_lawr hS hw (by omega)) ?_))))))
        intro z32 ez32 f33
        refine n_ialoadV c_79_60 sc_7.n rfl rfl rfl (by omega) (t_7 hS hd (by omega)) ?_
        intro z34 ez34 f35
        refine n_istore (L2 := [some (2, 32), some (0, i), some (2, w), some (2, 4), some (0, x4), some (0, x5), some (0, x6), some (0, x7), some (0, z26), some (0, z30), some (0, z34)]) c_79_61 rfl rfl (n_aload_n c_79_63 rfl (n_iload_n c_79_64 rfl (n_iload c_79_65 rfl (n_iload c_79_67 rfl (n_iload c_79_69 rfl (n_v4I c_79_71 rfl sc_32.n rfl rfl rfl rfl (isOpen_2 (i := i) (a := z26) (b := z30) (c := z34) hS (by omega) (by omega) (by omega) (by omega)) ?_))))))
        intro z36 M37 hP38
        obtain ⟨eM, f38⟩ := hP38
        subst eM
        refine n_if0_eq c_79_74 (by omega) ?_ ?_
        · intro h39
          refine n_fg (le_s (le_s (le_s (le_s (le_s (le_s (le_s (le_s (le_n (le_n (le_n le_0))))))))))) ?_
          exact ih.2 _ _ _ _ M hS (by omega) (by omega) (by omega) (by omega) (by omega)
        · intro h40
          refine n_iload c_79_77 rfl (n_iconst c_79_79 (n_iload c_79_80 rfl (n_i_ishl c_79_82 rfl ?_)))
          have f41 := n_shl_1 (y := z26) (a := 0) (b := 2) (by decide) (by omega)
          generalize (n_shl 1 z26) = z42 at f41 ⊢
          refine n_i_ior c_79_83 rfl ?_
          have f43 := n_or_k (x := x4) (y := z42) (n := 3) (by decide) (by omega) (by omega)
          generalize (n_or x4 z42) = z44 at f43 ⊢
          refine n_istore (L2 := [some (2, 32), some (0, i), some (2, w), some (2, 4), some (0, z44), some (0, x5), some (0, x6), some (0, x7), some (0, z26), some (0, z30), some (0, z34)]) c_79_84 rfl rfl (n_iload c_79_86 rfl (n_iconst c_79_88 (n_iload c_79_89 rfl (n_i_ishl c_79_91 rfl ?_))))
          have f45 := n_shl_1 (y := z30) (a := 0) (b := 2) (by decide) (by omega)
          generalize (n_shl 1 z30) = z46 at f45 ⊢
          refine n_i_ior c_79_92 rfl ?_
          have f47 := n_or_k (x := x5) (y := z46) (n := 3) (by decide) (by omega) (by omega)
          generalize (n_or x5 z46) = z48 at f47 ⊢
          refine n_istore (L2 := [some (2, 32), some (0, i), some (2, w), some (2, 4), some (0, z44), some (0, z48), some (0, x6), some (0, x7), some (0, z26), some (0, z30), some (0, z34)]) c_79_93 rfl rfl (n_iload c_79_95 rfl (n_iconst c_79_97 (n_iload c_79_98 rfl (n_i_ishl c_79_100 rfl ?_))))
          have f49 := n_shl_1 (y := z34) (a := 0) (b := 2) (by decide) (by omega)
          generalize (n_shl 1 z34) = z50 at f49 ⊢
          refine n_i_ior c_79_101 rfl ?_
          have f51 := n_or_k (x := x6) (y := z50) (n := 3) (by decide) (by omega) (by omega)
          generalize (n_or x6 z50) = z52 at f51 ⊢
          refine n_istore (L2 := [some (2, 32), some (0, i), some (2, w), some (2, 4), some (0, z44), some (0, z48), some (0, z52), some (0, x7), some (0, z26), some (0, z30), some (0, z34)]) c_79_102 rfl rfl (n_fg (le_s (le_s (le_s (le_s (le_s (le_s (le_s (le_s (le_n (le_n (le_n le_0))))))))))) ?_)
          exact ih.2 _ _ _ _ M hS (by omega) (by omega) (by omega) (by omega) (by omega)
    · intro x4 x5 x6 x7 M hS k4 k5 k6 k7 hnn
      refine n_iinc (L2 := [some (2, 32), some (0, i), some (2, w), some (2, 4), some (0, x4), some (0, x5), some (0, x6), some (0, (x7 + 1)), none, none, none]) c_79_104 rfl rfl rfl (n_goto c_79_107 (n_fg (le_s (le_s (le_s (le_s (le_s (le_s (le_s (le_s (le_n (le_n (le_n le_0))))))))))) ?_))
      exact ih.1 _ _ _ _ M hS (by omega) (by omega) (by omega) (by omega) (by omega)
set_option maxHeartbeats 4000000 in
theorem narrowBy_2 {xs : List Int32} {e : Nat} {ac : Int} {M0 M : nM} {w i : Int} (hS : Sf 2 ac M0 M) (hw : LawAt w) (hi : 0 ≤ i ∧ i ≤ 29) : nW xs (e + 2) 79 0 [some (2, 32), some (0, i), some (2, w), some (2, 4), none, none, none, none, none, none, none] [] M (nPI fun z M1 => Sf 2 ac M0 M1 ∧ (0 ≤ z ∧ z ≤ 1)) := by
  have hd : (2 : Int) = 2 ∨ (2 : Int) = 3 := by decide
  have hac := hS.2.2.2.2
  refine n_iconst c_79_0 (n_istore (L2 := [some (2, 32), some (0, i), some (2, w), some (2, 4), some (0, 0), none, none, none, none, none, none]) c_79_1 rfl rfl (n_iconst c_79_3 (n_istore (L2 := [some (2, 32), some (0, i), some (2, w), some (2, 4), some (0, 0), some (0, 0), none, none, none, none, none]) c_79_4 rfl rfl (n_iconst c_79_6 (n_istore (L2 := [some (2, 32), some (0, i), some (2, w), some (2, 4), some (0, 0), some (0, 0), some (0, 0), none, none, none, none]) c_79_7 rfl rfl (n_iconst c_79_9 (n_istore (L2 := [some (2, 32), some (0, i), some (2, w), some (2, 4), some (0, 0), some (0, 0), some (0, 0), some (0, 0), none, none, none]) c_79_10 rfl rfl (n_fg (le_s (le_s (le_s (le_s (le_s (le_s (le_s (le_s (le_n (le_n (le_n le_0))))))))))) ?_))))))))
  exact (narrowBy_2_c hS hw hi 126).1 _ _ _ _ M hS (by omega) (by omega) (by omega) (by omega) (by omega)

set_option maxHeartbeats 4000000 in
theorem narrow_2_c {xs : List Int32} {e : Nat} {ac : Int} {M0 M : nM} (hS : Sf 2 ac M0 M)  : ∀ nn : Nat, (∀ (x3 x4 : Int) (M : nM), Sf 2 ac M0 M → (0 ≤ x3 ∧ x3 ≤ 1) → (0 ≤ x4 ∧ x4 ≤ 27) → (27 - x4) * 33 + 34 < (nn : Int) → nW xs (e + 3) 78 16 [some (2, 32), some (2, 13), some (2, 4), some (0, x3), some (0, x4), none] [] M (nPV fun M1 => Sf 2 ac M0 M1)) ∧ (∀ (x3 x4 x5 : Int) (M : nM), Sf 2 ac M0 M → (0 ≤ x3 ∧ x3 ≤ 1) → (0 ≤ x4 ∧ x4 ≤ 26) → (0 ≤ x5 ∧ x5 ≤ 30) → (27 - x4) * 33 + (30 - x5) * 1 + 2 < (nn : Int) → nW xs (e + 3) 78 32 [some (2, 32), some (2, 13), some (2, 4), some (0, x3), some (0, x4), some (0, x5)] [] M (nPV fun M1 => Sf 2 ac M0 M1)) ∧ (∀ (M : nM), Sf 2 ac M0 M → 1 < (nn : Int) → nW xs (e + 3) 78 72 [none, none, none, none, none, none] [] M (nPV fun M1 => Sf 2 ac M0 M1)) := by
  have hd : (2 : Int) = 2 ∨ (2 : Int) = 3 := by decide
  have hac := hS.2.2.2.2
  intro nn
  induction nn with
  | zero => refine ⟨?_, ?_, ?_⟩ <;> (intros; omega)
  | succ nn ih =>
    refine ⟨?_, ?_, ?_⟩
    · intro x3 x4 M hS k3 k4 hnn
      refine n_iload c_78_16 rfl (n_bipush c_78_18 rfl ?_)
      refine n_if2_ge c_78_20 (by omega) (by omega) ?_ ?_
      · intro h1
        refine n_fg (le_n (le_n (le_n (le_n (le_n (le_n le_0)))))) ?_
        exact ih.2.2  M hS  (by omega)
      · intro h2
        refine n_iload_n c_78_23 rfl ?_
        refine n_if0_eq c_78_24 (by omega) ?_ ?_
        · intro h3
          refine n_fg (le_n (le_n (le_n (le_n (le_n (le_n le_0)))))) ?_
          exact ih.2.2  M hS  (by omega)
        · intro h4
          refine n_iconst c_78_27 (n_istore_n (L2 := [some (2, 32), some (2, 13), some (2, 4), some (0, 0), some (0, x4), none]) c_78_28 rfl rfl (n_iconst c_78_29 (n_istore (L2 := [some (2, 32), some (2, 13), some (2, 4), some (0, 0), some (0, x4), some (0, 0)]) c_78_30 rfl rfl (n_fg (le_s (le_s (le_s (le_s (le_s (le_s le_0)))))) ?_))))
          exact ih.2.1 _ _ _ M hS (by omega) (by omega) (by omega) (by omega)
    · intro x3 x4 x5 M hS k3 k4 k5 hnn
      refine n_iload c_78_32 rfl (n_aload_n c_78_34 rfl (n_getV (bi := 1) c_78_35 sc_32.n rfl rfl rfl (t_32_1 hS) ?_))
      intro z1 ez1 f2
      refine n_if2_ge c_78_38 (by omega) (by omega) ?_ ?_
      · intro h3
        refine n_iinc (L2 := [some (2, 32), some (2, 13), some (2, 4), some (0, x3), some (0, (x4 + 1)), some (0, x5)]) c_78_66 rfl rfl rfl (n_goto c_78_69 (n_fg (le_s (le_s (le_s (le_s (le_s (le_n le_0)))))) ?_))
        exact ih.1 _ _ M hS (by omega) (by omega) (by omega)
      · intro h4
        refine n_iload_n c_78_41 rfl (n_aload_n c_78_42 rfl (n_iload c_78_43 rfl (n_aload_n c_78_45 rfl (n_aload_n c_78_46 rfl (n_getR c_78_47 sc_32.n rfl rfl rfl r_32_2 (n_iload c_78_50 rfl (n_ialoadV c_78_52 sc_33.n rfl rfl rfl (by omega) (t_33 hS (by omega)) ?_)))))))
        intro z5 ez5 f6
        refine n_aaload c_78_53 sc_13.n rfl rfl rfl (by omega) (r_laws _) ?_
        have q7 : LawAt (79 + 2 * z5) := by unfold LawAt; omega
        refine n_aload_n c_78_54 rfl (n_v3I c_78_55 rfl sc_32.n rfl rfl rfl rfl (narrowBy_2 (i := x5) (w := (79 + 2 * z5)) hS q7 (by omega)) ?_)
        intro z8 M9 hP10
        obtain ⟨hS9, f10⟩ := hP10
        refine n_i_ior c_78_58 rfl ?_
        have f11 := n_or_1 (x := x3) (y := z8) (by omega) (by omega)
        generalize (n_or x3 z8) = z12 at f11 ⊢
        refine n_istore_n (L2 := [some (2, 32), some (2, 13), some (2, 4), some (0, z12), some (0, x4), some (0, x5)]) c_78_59 rfl rfl (n_iinc (L2 := [some (2, 32), some (2, 13), some (2, 4), some (0, z12), some (0, x4), some (0, (x5 + 1))]) c_78_60 rfl rfl rfl (n_goto c_78_63 (n_fg (le_s (le_s (le_s (le_s (le_s (le_s le_0)))))) ?_)))
        exact ih.2.1 _ _ _ M9 hS9 (by omega) (by omega) (by omega) (by omega)
    · intro M hS hnn
      exact n_rV c_78_72 rfl hS
set_option maxHeartbeats 4000000 in
theorem narrow_2 {xs : List Int32} {e : Nat} {ac : Int} {M0 M : nM} (hS : Sf 2 ac M0 M)  : nW xs (e + 3) 78 0 [some (2, 32), some (2, 13), some (2, 4), none, none, none] [] M (nPV fun M1 => Sf 2 ac M0 M1) := by
  have hd : (2 : Int) = 2 ∨ (2 : Int) = 3 := by decide
  have hac := hS.2.2.2.2
  refine n_aload_n c_78_0 rfl (n_getR c_78_1 sc_32.n rfl rfl rfl r_32_6 (n_aload_n c_78_4 rfl (n_v0I c_78_5 rfl sc_4.n rfl rfl rfl rfl (allThings_2  hS ) ?_)))
  intro z1 M2 hP3
  obtain ⟨eM, f3⟩ := hP3
  subst eM
  obtain rfl : z1 = 3 := by omega
  refine n_s2V c_78_8 rfl rfl rfl rfl (fill37_2 (v := 3) hS (by omega)) ?_
  intro  M4 hP5
  have hS4 := hP5
  refine n_iconst c_78_11 (n_istore_n (L2 := [some (2, 32), some (2, 13), some (2, 4), some (0, 1), none, none]) c_78_12 rfl rfl (n_iconst c_78_13 (n_istore (L2 := [some (2, 32), some (2, 13), some (2, 4), some (0, 1), some (0, 0), none]) c_78_14 rfl rfl (n_fg (le_s (le_s (le_s (le_s (le_s (le_n le_0)))))) ?_))))
  exact (narrow_2_c hS  1926).1 _ _ M4 hS4 (by omega) (by omega) (by omega)

set_option maxHeartbeats 4000000 in
theorem order_2_c {xs : List Int32} {e : Nat} {ac : Int} {M0 M : nM} (hS : Sf 2 ac M0 M)  : ∀ nn : Nat, (∀ (x1 x2 : Int) (M : nM), Sf 2 ac M0 M → (0 ≤ x1 ∧ x1 ≤ 729) → (0 ≤ x2 ∧ x2 ≤ 9) → (x1 ≤ x2 * x2 * x2) → (9 - x2) * 2795 + 2795 < (nn : Int) → nW xs e 67 4 [some (2, 38), some (0, x1), some (0, x2), none, none, none, none, none] [] M (nPV fun M1 => Sf 2 ac M0 M1)) ∧ (∀ (x1 x2 x3 : Int) (M : nM), Sf 2 ac M0 M → (0 ≤ x1 ∧ x1 ≤ 729) → (0 ≤ x2 ∧ x2 ≤ 8) → (0 ≤ x3 ∧ x3 ≤ 9) → ((x3 ≤ x2 ∧ x1 ≤ x2 * x2 * x2 + x3 * (2 * x2 + 1)) ∨ (x3 = x2 + 1 ∧ x1 ≤ (x2 + 1) * (x2 + 1) * (x2 + 1))) → (9 - x2) * 2795 + (9 - x3) * 254 + 254 < (nn : Int) → nW xs e 67 21 [some (2, 38), some (0, x1), some (0, x2), some (0, x3), none, none, none, none] [] M (nPV fun M1 => Sf 2 ac M0 M1)) ∧ (∀ (x1 x2 x3 x4 : Int) (M : nM), Sf 2 ac M0 M → (0 ≤ x1 ∧ x1 ≤ 729) → (0 ≤ x2 ∧ x2 ≤ 8) → (0 ≤ x3 ∧ x3 ≤ 8) → (0 ≤ x4 ∧ x4 ≤ 9) → (x3 ≤ x2) → (x4 ≤ x2 + 1) → ((x3 < x2 ∧ x4 ≤ x2 ∧ x1 ≤ x2 * x2 * x2 + x3 * (2 * x2 + 1) + x4) ∨ (x3 < x2 ∧ x4 = x2 + 1 ∧ x1 ≤ x2 * x2 * x2 + x3 * (2 * x2 + 1) + 2 * x2 + 1) ∨ (x3 = x2 ∧ x1 ≤ x2 * x2 * x2 + x3 * (2 * x2 + 1) + x4 * (x2 + 1))) → (9 - x2) * 2795 + (9 - x3) * 254 + (9 - x4) * 23 + 23 < (nn : Int) → nW xs e 67 29 [some (2, 38), some (0, x1), some (0, x2), some (0, x3), some (0, x4), none, none, none] [] M (nPV fun M1 => Sf 2 ac M0 M1)) ∧ (∀ (x1 x2 x3 x4 x6 : Int) (M : nM), Sf 2 ac M0 M → (0 ≤ x1 ∧ x1 ≤ 729) → (0 ≤ x2 ∧ x2 ≤ 8) → (0 ≤ x3 ∧ x3 ≤ 8) → (0 ≤ x4 ∧ x4 ≤ 8) → (0 ≤ x6 ∧ x6 ≤ 9) → (x3 ≤ x2) → (x4 ≤ x2) → (x6 ≤ x2 + 1) → ((x3 < x2 ∧ x4 < x2 ∧ x2 ≤ x6 ∧ x1 ≤ x2 * x2 * x2 + x3 * (2 * x2 + 1) + x4 + x6 - x2) ∨ (x3 < x2 ∧ x4 = x2 ∧ x1 ≤ x2 * x2 * x2 + x3 * (2 * x2 + 1) + x4 + x6) ∨ (x3 = x2 ∧ x1 ≤ x2 * x2 * x2 + x3 * (2 * x2 + 1) + x4 * (x2 + 1) + x6)) → (9 - x2) * 2795 + (9 - x3) * 254 + (9 - x4) * 23 + (9 - x6) * 2 + 2 < (nn : Int) → nW xs e 67 65 [some (2, 38), some (0, x1), some (0, x2), some (0, x3), some (0, x4), none, some (0, x6), none] [] M (nPV fun M1 => Sf 2 ac M0 M1)) ∧ (∀ (x1 x2 x3 x4 x6 : Int) (M : nM), Sf 2 ac M0 M → (0 ≤ x1 ∧ x1 ≤ 729) → (0 ≤ x2 ∧ x2 ≤ 8) → (0 ≤ x3 ∧ x3 ≤ 8) → (0 ≤ x4 ∧ x4 ≤ 8) → (0 ≤ x6 ∧ x6 ≤ 8) → (x3 ≤ x2) → (x4 ≤ x2) → ((x6 + 1) ≤ x2 + 1) → ((x3 < x2 ∧ x4 < x2 ∧ x2 ≤ (x6 + 1) ∧ x1 ≤ x2 * x2 * x2 + x3 * (2 * x2 + 1) + x4 + (x6 + 1) - x2) ∨ (x3 < x2 ∧ x4 = x2 ∧ x1 ≤ x2 * x2 * x2 + x3 * (2 * x2 + 1) + x4 + (x6 + 1)) ∨ (x3 = x2 ∧ x1 ≤ x2 * x2 * x2 + x3 * (2 * x2 + 1) + x4 * (x2 + 1) + (x6 + 1))) → (x6 ≤ x2) → (9 - x2) * 2795 + (9 - x3) * 254 + (9 - x4) * 23 + (9 - x6) * 2 + 1 < (nn : Int) → nW xs e 67 129 [some (2, 38), some (0, x1), some (0, x2), some (0, x3), some (0, x4), none, some (0, x6), none] [] M (nPV fun M1 => Sf 2 ac M0 M1)) := by
  have hd : (2 : Int) = 2 ∨ (2 : Int) = 3 := by decide
  have hac := hS.2.2.2.2
  intro nn
  induction nn with
  | zero => refine ⟨?_, ?_, ?_, ?_, ?_⟩ <;> (intros; omega)
  | succ nn ih =>
    refine ⟨?_, ?_, ?_, ?_, ?_⟩
    · intro x1 x2 M hS k1 k2 v0 hnn
      rcases (show x2 = 0 ∨ x2 = 1 ∨ x2 = 2 ∨ x2 = 3 ∨ x2 = 4 ∨ x2 = 5 ∨ x2 = 6 ∨ x2 = 7 ∨ x2 = 8 ∨ x2 = 9 by omega) with rfl | rfl | rfl | rfl | rfl | rfl | rfl | rfl | rfl | rfl
      · skip
        refine n_iload_n c_67_4 rfl (n_aload_n c_67_5 rfl (n_getV (bi := 6) c_67_6 sc_38.n rfl rfl rfl (t_38_6 hS) ?_))
        intro z1 ez1 f2
        refine n_if2_ge c_67_9 (by omega) (by omega) ?_ ?_
        · intro h3
          refine n_aload_n c_67_153 rfl (n_getR c_67_154 sc_38.n rfl rfl rfl r_38_4 (n_aload_n c_67_157 rfl (n_getV (bi := 6) c_67_158 sc_38.n rfl rfl rfl (t_38_6 hS) ?_)))
          intro z4 ez4 f5
          obtain rfl : z4 = 0 := by omega
          refine n_iload_n c_67_161 rfl (n_iastoreV hS c_67_162 sc_43.n rfl (by omega) (w_43 (by omega) (by omega)) ?_)
          intro M6 eM6 hS6
          have g6_0 : M6 38 6 = M 38 6 := by rw [eM6]; exact nu_a (by omega)
          exact n_rV c_67_163 rfl hS6
        · intro h7
          refine n_aload_n c_67_12 rfl (n_getR c_67_13 sc_38.n rfl rfl rfl r_38_4 (n_iload_n c_67_16 rfl (n_iload_n c_67_17 rfl (n_iastoreV hS c_67_18 sc_43.n rfl (by omega) (w_43 (by omega) (by omega)) ?_))))
          intro M8 eM8 hS8
          have g8_0 : M8 38 6 = M 38 6 := by rw [eM8]; exact nu_a (by omega)
          refine n_iconst c_67_19 (n_istore_n (L2 := [some (2, 38), some (0, x1), some (0, 0), some (0, 0), none, none, none, none]) c_67_20 rfl rfl (n_fg (le_s (le_s (le_s (le_s (le_n (le_n (le_n (le_n le_0)))))))) ?_))
          exact ih.2.1 _ _ _ M8 hS8 (by omega) (by omega) (by omega) (by omega) (by omega)
      · skip
        refine n_iload_n c_67_4 rfl (n_aload_n c_67_5 rfl (n_getV (bi := 6) c_67_6 sc_38.n rfl rfl rfl (t_38_6 hS) ?_))
        intro z9 ez9 f10
        refine n_if2_ge c_67_9 (by omega) (by omega) ?_ ?_
        · intro h11
          refine n_aload_n c_67_153 rfl (n_getR c_67_154 sc_38.n rfl rfl rfl r_38_4 (n_aload_n c_67_157 rfl (n_getV (bi := 6) c_67_158 sc_38.n rfl rfl rfl (t_38_6 hS) ?_)))
          intro z12 ez12 f13
          refine n_iload_n c_67_161 rfl (n_iastoreV hS c_67_162 sc_43.n rfl (by omega) (w_43 (by omega) (by omega)) ?_)
          intro M14 eM14 hS14
          have g14_0 : M14 38 6 = M 38 6 := by rw [eM14]; exact nu_a (by omega)
          exact n_rV c_67_163 rfl hS14
        · intro h15
          refine n_aload_n c_67_12 rfl (n_getR c_67_13 sc_38.n rfl rfl rfl r_38_4 (n_iload_n c_67_16 rfl (n_iload_n c_67_17 rfl (n_iastoreV hS c_67_18 sc_43.n rfl (by omega) (w_43 (by omega) (by omega)) ?_))))
          intro M16 eM16 hS16
          have g16_0 : M16 38 6 = M 38 6 := by rw [eM16]; exact nu_a (by omega)
          refine n_iconst c_67_19 (n_istore_n (L2 := [some (2, 38), some (0, x1), some (0, 1), some (0, 0), none, none, none, none]) c_67_20 rfl rfl (n_fg (le_s (le_s (le_s (le_s (le_n (le_n (le_n (le_n le_0)))))))) ?_))
          exact ih.2.1 _ _ _ M16 hS16 (by omega) (by omega) (by omega) (by omega) (by omega)
      · skip
        refine n_iload_n c_67_4 rfl (n_aload_n c_67_5 rfl (n_getV (bi := 6) c_67_6 sc_38.n rfl rfl rfl (t_38_6 hS) ?_))
        intro z17 ez17 f18
        refine n_if2_ge c_67_9 (by omega) (by omega) ?_ ?_
        · intro h19
          refine n_aload_n c_67_153 rfl (n_getR c_67_154 sc_38.n rfl rfl rfl r_38_4 (n_aload_n c_67_157 rfl (n_getV (bi := 6) c_67_158 sc_38.n rfl rfl rfl (t_38_6 hS) ?_)))
          intro z20 ez20 f21
          refine n_iload_n c_67_161 rfl (n_iastoreV hS c_67_162 sc_43.n rfl (by omega) (w_43 (by omega) (by omega)) ?_)
          intro M22 eM22 hS22
          have g22_0 : M22 38 6 = M 38 6 := by rw [eM22]; exact nu_a (by omega)
          exact n_rV c_67_163 rfl hS22
        · intro h23
          refine n_aload_n c_67_12 rfl (n_getR c_67_13 sc_38.n rfl rfl rfl r_38_4 (n_iload_n c_67_16 rfl (n_iload_n c_67_17 rfl (n_iastoreV hS c_67_18 sc_43.n rfl (by omega) (w_43 (by omega) (by omega)) ?_))))
          intro M24 eM24 hS24
          have g24_0 : M24 38 6 = M 38 6 := by rw [eM24]; exact nu_a (by omega)
          refine n_iconst c_67_19 (n_istore_n (L2 := [some (2, 38), some (0, x1), some (0, 2), some (0, 0), none, none, none, none]) c_67_20 rfl rfl (n_fg (le_s (le_s (le_s (le_s (le_n (le_n (le_n (le_n le_0)))))))) ?_))
          exact ih.2.1 _ _ _ M24 hS24 (by omega) (by omega) (by omega) (by omega) (by omega)
      · skip
        refine n_iload_n c_67_4 rfl (n_aload_n c_67_5 rfl (n_getV (bi := 6) c_67_6 sc_38.n rfl rfl rfl (t_38_6 hS) ?_))
        intro z25 ez25 f26
        refine n_if2_ge c_67_9 (by omega) (by omega) ?_ ?_
        · intro h27
          refine n_aload_n c_67_153 rfl (n_getR c_67_154 sc_38.n rfl rfl rfl r_38_4 (n_aload_n c_67_157 rfl (n_getV (bi := 6) c_67_158 sc_38.n rfl rfl rfl (t_38_6 hS) ?_)))
          intro z28 ez28 f29
          refine n_iload_n c_67_161 rfl (n_iastoreV hS c_67_162 sc_43.n rfl (by omega) (w_43 (by omega) (by omega)) ?_)
          intro M30 eM30 hS30
          have g30_0 : M30 38 6 = M 38 6 := by rw [eM30]; exact nu_a (by omega)
          exact n_rV c_67_163 rfl hS30
        · intro h31
          refine n_aload_n c_67_12 rfl (n_getR c_67_13 sc_38.n rfl rfl rfl r_38_4 (n_iload_n c_67_16 rfl (n_iload_n c_67_17 rfl (n_iastoreV hS c_67_18 sc_43.n rfl (by omega) (w_43 (by omega) (by omega)) ?_))))
          intro M32 eM32 hS32
          have g32_0 : M32 38 6 = M 38 6 := by rw [eM32]; exact nu_a (by omega)
          refine n_iconst c_67_19 (n_istore_n (L2 := [some (2, 38), some (0, x1), some (0, 3), some (0, 0), none, none, none, none]) c_67_20 rfl rfl (n_fg (le_s (le_s (le_s (le_s (le_n (le_n (le_n (le_n le_0)))))))) ?_))
          exact ih.2.1 _ _ _ M32 hS32 (by omega) (by omega) (by omega) (by omega) (by omega)
      · skip
        refine n_iload_n c_67_4 rfl (n_aload_n c_67_5 rfl (n_getV (bi := 6) c_67_6 sc_38.n rfl rfl rfl (t_38_6 hS) ?_))
        intro z33 ez33 f34
        refine n_if2_ge c_67_9 (by omega) (by omega) ?_ ?_
        · intro h35
          refine n_aload_n c_67_153 rfl (n_getR c_67_154 sc_38.n rfl rfl rfl r_38_4 (n_aload_n c_67_157 rfl (n_getV (bi := 6) c_67_158 sc_38.n rfl rfl rfl (t_38_6 hS) ?_)))
          intro z36 ez36 f37
          refine n_iload_n c_67_161 rfl (n_iastoreV hS c_67_162 sc_43.n rfl (by omega) (w_43 (by omega) (by omega)) ?_)
          intro M38 eM38 hS38
          have g38_0 : M38 38 6 = M 38 6 := by rw [eM38]; exact nu_a (by omega)
          exact n_rV c_67_163 rfl hS38
        · intro h39
          refine n_aload_n c_67_12 rfl (n_getR c_67_13 sc_38.n rfl rfl rfl r_38_4 (n_iload_n c_67_16 rfl (n_iload_n c_67_17 rfl (n_iastoreV hS c_67_18 sc_43.n rfl (by omega) (w_43 (by omega) (by omega)) ?_))))
          intro M40 eM40 hS40
          have g40_0 : M40 38 6 = M 38 6 := by rw [eM40]; exact nu_a (by omega)
          refine n_iconst c_67_19 (n_istore_n (L2 := [some (2, 38), some (0, x1), some (0, 4), some (0, 0), none, none, none, none]) c_67_20 rfl rfl (n_fg (le_s (le_s (le_s (le_s (le_n (le_n (le_n (le_n le_0)))))))) ?_))
          exact ih.2.1 _ _ _ M40 hS40 (by omega) (by omega) (by omega) (by omega) (by omega)
      · skip
        refine n_iload_n c_67_4 rfl (n_aload_n c_67_5 rfl (n_getV (bi := 6) c_67_6 sc_38.n rfl rfl rfl (t_38_6 hS) ?_))
        intro z41 ez41 f42
        refine n_if2_ge c_67_9 (by omega) (by omega) ?_ ?_
        · intro h43
          refine n_aload_n c_67_153 rfl (n_getR c_67_154 sc_38.n rfl rfl rfl r_38_4 (n_aload_n c_67_157 rfl (n_getV (bi := 6) c_67_158 sc_38.n rfl rfl rfl (t_38_6 hS) ?_)))
          intro z44 ez44 f45
          refine n_iload_n c_67_161 rfl (n_iastoreV hS c_67_162 sc_43.n rfl (by omega) (w_43 (by omega) (by omega)) ?_)
          intro M46 eM46 hS46
          have g46_0 : M46 38 6 = M 38 6 := by rw [eM46]; exact nu_a (by omega)
          exact n_rV c_67_163 rfl hS46
        · intro h47
          refine n_aload_n c_67_12 rfl (n_getR c_67_13 sc_38.n rfl rfl rfl r_38_4 (n_iload_n c_67_16 rfl (n_iload_n c_67_17 rfl (n_iastoreV hS c_67_18 sc_43.n rfl (by omega) (w_43 (by omega) (by omega)) ?_))))
          intro M48 eM48 hS48
          have g48_0 : M48 38 6 = M 38 6 := by rw [eM48]; exact nu_a (by omega)
          refine n_iconst c_67_19 (n_istore_n (L2 := [some (2, 38), some (0, x1), some (0, 5), some (0, 0), none, none, none, none]) c_67_20 rfl rfl (n_fg (le_s (le_s (le_s (le_s (le_n (le_n (le_n (le_n le_0)))))))) ?_))
          exact ih.2.1 _ _ _ M48 hS48 (by omega) (by omega) (by omega) (by omega) (by omega)
      · skip
        refine n_iload_n c_67_4 rfl (n_aload_n c_67_5 rfl (n_getV (bi := 6) c_67_6 sc_38.n rfl rfl rfl (t_38_6 hS) ?_))
        intro z49 ez49 f50
        refine n_if2_ge c_67_9 (by omega) (by omega) ?_ ?_
        · intro h51
          refine n_aload_n c_67_153 rfl (n_getR c_67_154 sc_38.n rfl rfl rfl r_38_4 (n_aload_n c_67_157 rfl (n_getV (bi := 6) c_67_158 sc_38.n rfl rfl rfl (t_38_6 hS) ?_)))
          intro z52 ez52 f53
          refine n_iload_n c_67_161 rfl (n_iastoreV hS c_67_162 sc_43.n rfl (by omega) (w_43 (by omega) (by omega)) ?_)
          intro M54 eM54 hS54
          have g54_0 : M54 38 6 = M 38 6 := by rw [eM54]; exact nu_a (by omega)
          exact n_rV c_67_163 rfl hS54
        · intro h55
          refine n_aload_n c_67_12 rfl (n_getR c_67_13 sc_38.n rfl rfl rfl r_38_4 (n_iload_n c_67_16 rfl (n_iload_n c_67_17 rfl (n_iastoreV hS c_67_18 sc_43.n rfl (by omega) (w_43 (by omega) (by omega)) ?_))))
          intro M56 eM56 hS56
          have g56_0 : M56 38 6 = M 38 6 := by rw [eM56]; exact nu_a (by omega)
          refine n_iconst c_67_19 (n_istore_n (L2 := [some (2, 38), some (0, x1), some (0, 6), some (0, 0), none, none, none, none]) c_67_20 rfl rfl (n_fg (le_s (le_s (le_s (le_s (le_n (le_n (le_n (le_n le_0)))))))) ?_))
          exact ih.2.1 _ _ _ M56 hS56 (by omega) (by omega) (by omega) (by omega) (by omega)
      · skip
        refine n_iload_n c_67_4 rfl (n_aload_n c_67_5 rfl (n_getV (bi := 6) c_67_6 sc_38.n rfl rfl rfl (t_38_6 hS) ?_))
        intro z57 ez57 f58
        refine n_if2_ge c_67_9 (by omega) (by omega) ?_ ?_
        · intro h59
          refine n_aload_n c_67_153 rfl (n_getR c_67_154 sc_38.n rfl rfl rfl r_38_4 (n_aload_n c_67_157 rfl (n_getV (bi := 6) c_67_158 sc_38.n rfl rfl rfl (t_38_6 hS) ?_)))
          intro z60 ez60 f61
          refine n_iload_n c_67_161 rfl (n_iastoreV hS c_67_162 sc_43.n rfl (by omega) (w_43 (by omega) (by omega)) ?_)
          intro M62 eM62 hS62
          have g62_0 : M62 38 6 = M 38 6 := by rw [eM62]; exact nu_a (by omega)
          exact n_rV c_67_163 rfl hS62
        · intro h63
          refine n_aload_n c_67_12 rfl (n_getR c_67_13 sc_38.n rfl rfl rfl r_38_4 (n_iload_n c_67_16 rfl (n_iload_n c_67_17 rfl (n_iastoreV hS c_67_18 sc_43.n rfl (by omega) (w_43 (by omega) (by omega)) ?_))))
          intro M64 eM64 hS64
          have g64_0 : M64 38 6 = M 38 6 := by rw [eM64]; exact nu_a (by omega)
          refine n_iconst c_67_19 (n_istore_n (L2 := [some (2, 38), some (0, x1), some (0, 7), some (0, 0), none, none, none, none]) c_67_20 rfl rfl (n_fg (le_s (le_s (le_s (le_s (le_n (le_n (le_n (le_n le_0)))))))) ?_))
          exact ih.2.1 _ _ _ M64 hS64 (by omega) (by omega) (by omega) (by omega) (by omega)
      · skip
        refine n_iload_n c_67_4 rfl (n_aload_n c_67_5 rfl (n_getV (bi := 6) c_67_6 sc_38.n rfl rfl rfl (t_38_6 hS) ?_))
        intro z65 ez65 f66
        refine n_if2_ge c_67_9 (by omega) (by omega) ?_ ?_
        · intro h67
          refine n_aload_n c_67_153 rfl (n_getR c_67_154 sc_38.n rfl rfl rfl r_38_4 (n_aload_n c_67_157 rfl (n_getV (bi := 6) c_67_158 sc_38.n rfl rfl rfl (t_38_6 hS) ?_)))
          intro z68 ez68 f69
          refine n_iload_n c_67_161 rfl (n_iastoreV hS c_67_162 sc_43.n rfl (by omega) (w_43 (by omega) (by omega)) ?_)
          intro M70 eM70 hS70
          have g70_0 : M70 38 6 = M 38 6 := by rw [eM70]; exact nu_a (by omega)
          exact n_rV c_67_163 rfl hS70
        · intro h71
          refine n_aload_n c_67_12 rfl (n_getR c_67_13 sc_38.n rfl rfl rfl r_38_4 (n_iload_n c_67_16 rfl (n_iload_n c_67_17 rfl (n_iastoreV hS c_67_18 sc_43.n rfl (by omega) (w_43 (by omega) (by omega)) ?_))))
          intro M72 eM72 hS72
          have g72_0 : M72 38 6 = M 38 6 := by rw [eM72]; exact nu_a (by omega)
          refine n_iconst c_67_19 (n_istore_n (L2 := [some (2, 38), some (0, x1), some (0, 8), some (0, 0), none, none, none, none]) c_67_20 rfl rfl (n_fg (le_s (le_s (le_s (le_s (le_n (le_n (le_n (le_n le_0)))))))) ?_))
          exact ih.2.1 _ _ _ M72 hS72 (by omega) (by omega) (by omega) (by omega) (by omega)
      · skip
        refine n_iload_n c_67_4 rfl (n_aload_n c_67_5 rfl (n_getV (bi := 6) c_67_6 sc_38.n rfl rfl rfl (t_38_6 hS) ?_))
        intro z73 ez73 f74
        refine n_if2_ge c_67_9 (by omega) (by omega) ?_ ?_
        · intro h75
          refine n_aload_n c_67_153 rfl (n_getR c_67_154 sc_38.n rfl rfl rfl r_38_4 (n_aload_n c_67_157 rfl (n_getV (bi := 6) c_67_158 sc_38.n rfl rfl rfl (t_38_6 hS) ?_)))
          intro z76 ez76 f77
          refine n_iload_n c_67_161 rfl (n_iastoreV hS c_67_162 sc_43.n rfl (by omega) (w_43 (by omega) (by omega)) ?_)
          intro M78 eM78 hS78
          have g78_0 : M78 38 6 = M 38 6 := by rw [eM78]; exact nu_a (by omega)
          exact n_rV c_67_163 rfl hS78
        · intro h79
          exfalso; omega
    · intro x1 x2 x3 M hS k1 k2 k3 v0 hnn
      rcases (show x2 = 0 ∨ x2 = 1 ∨ x2 = 2 ∨ x2 = 3 ∨ x2 = 4 ∨ x2 = 5 ∨ x2 = 6 ∨ x2 = 7 ∨ x2 = 8 by omega) with rfl | rfl | rfl | rfl | rfl | rfl | rfl | rfl | rfl
      · skip
        refine n_iload_n c_67_21 rfl (n_iload_n c_67_22 rfl ?_)
        refine n_if2_gt c_67_23 (by omega) (by omega) ?_ ?_
        · intro h1
          refine n_iinc (L2 := [some (2, 38), some (0, x1), some (0, (0 + 1)), some (0, x3), none, none, none, none]) c_67_147 rfl rfl rfl (n_goto c_67_150 (n_fg (le_s (le_s (le_s (le_n (le_n (le_n (le_n (le_n le_0)))))))) ?_))
          exact ih.1 _ _ M hS (by omega) (by omega) (by omega) (by omega)
        · intro h2
          refine n_iconst c_67_26 (n_istore (L2 := [some (2, 38), some (0, x1), some (0, 0), some (0, x3), some (0, 0), none, none, none]) c_67_27 rfl rfl (n_fg (le_s (le_s (le_s (le_s (le_s (le_n (le_n (le_n le_0)))))))) ?_))
          exact ih.2.2.1 _ _ _ _ M hS (by omega) (by omega) (by omega) (by omega) (by omega) (by omega) (by omega) (by omega)
      · skip
        refine n_iload_n c_67_21 rfl (n_iload_n c_67_22 rfl ?_)
        refine n_if2_gt c_67_23 (by omega) (by omega) ?_ ?_
        · intro h3
          refine n_iinc (L2 := [some (2, 38), some (0, x1), some (0, (1 + 1)), some (0, x3), none, none, none, none]) c_67_147 rfl rfl rfl (n_goto c_67_150 (n_fg (le_s (le_s (le_s (le_n (le_n (le_n (le_n (le_n le_0)))))))) ?_))
          exact ih.1 _ _ M hS (by omega) (by omega) (by omega) (by omega)
        · intro h4
          refine n_iconst c_67_26 (n_istore (L2 := [some (2, 38), some (0, x1), some (0, 1), some (0, x3), some (0, 0), none, none, none]) c_67_27 rfl rfl (n_fg (le_s (le_s (le_s (le_s (le_s (le_n (le_n (le_n le_0)))))))) ?_))
          exact ih.2.2.1 _ _ _ _ M hS (by omega) (by omega) (by omega) (by omega) (by omega) (by omega) (by omega) (by omega)
      · skip
        refine n_iload_n c_67_21 rfl (n_iload_n c_67_22 rfl ?_)
        refine n_if2_gt c_67_23 (by omega) (by omega) ?_ ?_
        · intro h5
          refine n_iinc (L2 := [some (2, 38), some (0, x1), some (0, (2 + 1)), some (0, x3), none, none, none, none]) c_67_147 rfl rfl rfl (n_goto c_67_150 (n_fg (le_s (le_s (le_s (le_n (le_n (le_n (le_n (le_n le_0)))))))) ?_))
          exact ih.1 _ _ M hS (by omega) (by omega) (by omega) (by omega)
        · intro h6
          refine n_iconst c_67_26 (n_istore (L2 := [some (2, 38), some (0, x1), some (0, 2), some (0, x3), some (0, 0), none, none, none]) c_67_27 rfl rfl (n_fg (le_s (le_s (le_s (le_s (le_s (le_n (le_n (le_n le_0)))))))) ?_))
          exact ih.2.2.1 _ _ _ _ M hS (by omega) (by omega) (by omega) (by omega) (by omega) (by omega) (by omega) (by omega)
      · skip
        refine n_iload_n c_67_21 rfl (n_iload_n c_67_22 rfl ?_)
        refine n_if2_gt c_67_23 (by omega) (by omega) ?_ ?_
        · intro h7
          refine n_iinc (L2 := [some (2, 38), some (0, x1), some (0, (3 + 1)), some (0, x3), none, none, none, none]) c_67_147 rfl rfl rfl (n_goto c_67_150 (n_fg (le_s (le_s (le_s (le_n (le_n (le_n (le_n (le_n le_0)))))))) ?_))
          exact ih.1 _ _ M hS (by omega) (by omega) (by omega) (by omega)
        · intro h8
          refine n_iconst c_67_26 (n_istore (L2 := [some (2, 38), some (0, x1), some (0, 3), some (0, x3), some (0, 0), none, none, none]) c_67_27 rfl rfl (n_fg (le_s (le_s (le_s (le_s (le_s (le_n (le_n (le_n le_0)))))))) ?_))
          exact ih.2.2.1 _ _ _ _ M hS (by omega) (by omega) (by omega) (by omega) (by omega) (by omega) (by omega) (by omega)
      · skip
        refine n_iload_n c_67_21 rfl (n_iload_n c_67_22 rfl ?_)
        refine n_if2_gt c_67_23 (by omega) (by omega) ?_ ?_
        · intro h9
          refine n_iinc (L2 := [some (2, 38), some (0, x1), some (0, (4 + 1)), some (0, x3), none, none, none, none]) c_67_147 rfl rfl rfl (n_goto c_67_150 (n_fg (le_s (le_s (le_s (le_n (le_n (le_n (le_n (le_n le_0)))))))) ?_))
          exact ih.1 _ _ M hS (by omega) (by omega) (by omega) (by omega)
        · intro h10
          refine n_iconst c_67_26 (n_istore (L2 := [some (2, 38), some (0, x1), some (0, 4), some (0, x3), some (0, 0), none, none, none]) c_67_27 rfl rfl (n_fg (le_s (le_s (le_s (le_s (le_s (le_n (le_n (le_n le_0)))))))) ?_))
          exact ih.2.2.1 _ _ _ _ M hS (by omega) (by omega) (by omega) (by omega) (by omega) (by omega) (by omega) (by omega)
      · skip
        refine n_iload_n c_67_21 rfl (n_iload_n c_67_22 rfl ?_)
        refine n_if2_gt c_67_23 (by omega) (by omega) ?_ ?_
        · intro h11
          refine n_iinc (L2 := [some (2, 38), some (0, x1), some (0, (5 + 1)), some (0, x3), none, none, none, none]) c_67_147 rfl rfl rfl (n_goto c_67_150 (n_fg (le_s (le_s (le_s (le_n (le_n (le_n (le_n (le_n le_0)))))))) ?_))
          exact ih.1 _ _ M hS (by omega) (by omega) (by omega) (by omega)
        · intro h12
          refine n_iconst c_67_26 (n_istore (L2 := [some (2, 38), some (0, x1), some (0, 5), some (0, x3), some (0, 0), none, none, none]) c_67_27 rfl rfl (n_fg (le_s (le_s (le_s (le_s (le_s (le_n (le_n (le_n le_0)))))))) ?_))
          exact ih.2.2.1 _ _ _ _ M hS (by omega) (by omega) (by omega) (by omega) (by omega) (by omega) (by omega) (by omega)
      · skip
        refine n_iload_n c_67_21 rfl (n_iload_n c_67_22 rfl ?_)
        refine n_if2_gt c_67_23 (by omega) (by omega) ?_ ?_
        · intro h13
          refine n_iinc (L2 := [some (2, 38), some (0, x1), some (0, (6 + 1)), some (0, x3), none, none, none, none]) c_67_147 rfl rfl rfl (n_goto c_67_150 (n_fg (le_s (le_s (le_s (le_n (le_n (le_n (le_n (le_n le_0)))))))) ?_))
          exact ih.1 _ _ M hS (by omega) (by omega) (by omega) (by omega)
        · intro h14
          refine n_iconst c_67_26 (n_istore (L2 := [some (2, 38), some (0, x1), some (0, 6), some (0, x3), some (0, 0), none, none, none]) c_67_27 rfl rfl (n_fg (le_s (le_s (le_s (le_s (le_s (le_n (le_n (le_n le_0)))))))) ?_))
          exact ih.2.2.1 _ _ _ _ M hS (by omega) (by omega) (by omega) (by omega) (by omega) (by omega) (by omega) (by omega)
      · skip
        refine n_iload_n c_67_21 rfl (n_iload_n c_67_22 rfl ?_)
        refine n_if2_gt c_67_23 (by omega) (by omega) ?_ ?_
        · intro h15
          refine n_iinc (L2 := [some (2, 38), some (0, x1), some (0, (7 + 1)), some (0, x3), none, none, none, none]) c_67_147 rfl rfl rfl (n_goto c_67_150 (n_fg (le_s (le_s (le_s (le_n (le_n (le_n (le_n (le_n le_0)))))))) ?_))
          exact ih.1 _ _ M hS (by omega) (by omega) (by omega) (by omega)
        · intro h16
          refine n_iconst c_67_26 (n_istore (L2 := [some (2, 38), some (0, x1), some (0, 7), some (0, x3), some (0, 0), none, none, none]) c_67_27 rfl rfl (n_fg (le_s (le_s (le_s (le_s (le_s (le_n (le_n (le_n le_0)))))))) ?_))
          exact ih.2.2.1 _ _ _ _ M hS (by omega) (by omega) (by omega) (by omega) (by omega) (by omega) (by omega) (by omega)
      · skip
        refine n_iload_n c_67_21 rfl (n_iload_n c_67_22 rfl ?_)
        refine n_if2_gt c_67_23 (by omega) (by omega) ?_ ?_
        · intro h17
          refine n_iinc (L2 := [some (2, 38), some (0, x1), some (0, (8 + 1)), some (0, x3), none, none, none, none]) c_67_147 rfl rfl rfl (n_goto c_67_150 (n_fg (le_s (le_s (le_s (le_n (le_n (le_n (le_n (le_n le_0)))))))) ?_))
          exact ih.1 _ _ M hS (by omega) (by omega) (by omega) (by omega)
        · intro h18
          refine n_iconst c_67_26 (n_istore (L2 := [some (2, 38), some (0, x1), some (0, 8), some (0, x3), some (0, 0), none, none, none]) c_67_27 rfl rfl (n_fg (le_s (le_s (le_s (le_s (le_s (le_n (le_n (le_n le_0)))))))) ?_))
          exact ih.2.2.1 _ _ _ _ M hS (by omega) (by omega) (by omega) (by omega) (by omega) (by omega) (by omega) (by omega)
    · intro x1 x2 x3 x4 M hS k1 k2 k3 k4 v0 v1 v2 hnn
      rcases (show x2 = 0 ∨ x2 = 1 ∨ x2 = 2 ∨ x2 = 3 ∨ x2 = 4 ∨ x2 = 5 ∨ x2 = 6 ∨ x2 = 7 ∨ x2 = 8 by omega) with rfl | rfl | rfl | rfl | rfl | rfl | rfl | rfl | rfl
      · skip
        refine n_iload c_67_29 rfl (n_iload_n c_67_31 rfl ?_)
        refine n_if2_gt c_67_32 (by omega) (by omega) ?_ ?_
        · intro h1
          refine n_iinc (L2 := [some (2, 38), some (0, x1), some (0, 0), some (0, (x3 + 1)), some (0, x4), none, none, none]) c_67_141 rfl rfl rfl (n_goto c_67_144 (n_fg (le_s (le_s (le_s (le_s (le_n (le_n (le_n (le_n le_0)))))))) ?_))
          exact ih.2.1 _ _ _ M hS (by omega) (by omega) (by omega) (by omega) (by omega)
        · intro h2
          refine n_iload_n c_67_35 rfl (n_iload_n c_67_36 rfl ?_)
          refine n_if2_eq c_67_37 (by omega) (by omega) ?_ ?_
          · intro h3
            refine n_iconst c_67_46 (n_goto c_67_47 (n_istore (L2 := [some (2, 38), some (0, x1), some (0, 0), some (0, x3), some (0, x4), some (0, 1), none, none]) c_67_51 rfl rfl (n_iload c_67_53 rfl ?_)))
            refine n_if0_eq c_67_55 (by omega) ?_ ?_
            · intro h4
              exfalso; omega
            · intro h5
              refine n_iconst c_67_58 (n_goto c_67_59 (n_istore (L2 := [some (2, 38), some (0, x1), some (0, 0), some (0, x3), some (0, x4), some (0, 1), some (0, 0), none]) c_67_63 rfl rfl (n_fg (le_s (le_s (le_s (le_s (le_s (le_n (le_s (le_n le_0)))))))) ?_)))
              exact ih.2.2.2.1 _ _ _ _ _ M hS (by omega) (by omega) (by omega) (by omega) (by omega) (by omega) (by omega) (by omega) (by omega) (by omega)
          · intro h6
            refine n_iload c_67_40 rfl (n_iload_n c_67_42 rfl ?_)
            refine n_if2_ne c_67_43 (by omega) (by omega) ?_ ?_
            · intro h7
              exfalso; omega
            · intro h8
              refine n_iconst c_67_46 (n_goto c_67_47 (n_istore (L2 := [some (2, 38), some (0, x1), some (0, 0), some (0, x3), some (0, x4), some (0, 1), none, none]) c_67_51 rfl rfl (n_iload c_67_53 rfl ?_)))
              refine n_if0_eq c_67_55 (by omega) ?_ ?_
              · intro h9
                exfalso; omega
              · intro h10
                refine n_iconst c_67_58 (n_goto c_67_59 (n_istore (L2 := [some (2, 38), some (0, x1), some (0, 0), some (0, x3), some (0, x4), some (0, 1), some (0, 0), none]) c_67_63 rfl rfl (n_fg (le_s (le_s (le_s (le_s (le_s (le_n (le_s (le_n le_0)))))))) ?_)))
                exact ih.2.2.2.1 _ _ _ _ _ M hS (by omega) (by omega) (by omega) (by omega) (by omega) (by omega) (by omega) (by omega) (by omega) (by omega)
      · skip
        refine n_iload c_67_29 rfl (n_iload_n c_67_31 rfl ?_)
        refine n_if2_gt c_67_32 (by omega) (by omega) ?_ ?_
        · intro h11
          refine n_iinc (L2 := [some (2, 38), some (0, x1), some (0, 1), some (0, (x3 + 1)), some (0, x4), none, none, none]) c_67_141 rfl rfl rfl (n_goto c_67_144 (n_fg (le_s (le_s (le_s (le_s (le_n (le_n (le_n (le_n le_0)))))))) ?_))
          exact ih.2.1 _ _ _ M hS (by omega) (by omega) (by omega) (by omega) (by omega)
        · intro h12
          refine n_iload_n c_67_35 rfl (n_iload_n c_67_36 rfl ?_)
          refine n_if2_eq c_67_37 (by omega) (by omega) ?_ ?_
          · intro h13
            refine n_iconst c_67_46 (n_goto c_67_47 (n_istore (L2 := [some (2, 38), some (0, x1), some (0, 1), some (0, x3), some (0, x4), some (0, 1), none, none]) c_67_51 rfl rfl (n_iload c_67_53 rfl ?_)))
            refine n_if0_eq c_67_55 (by omega) ?_ ?_
            · intro h14
              exfalso; omega
            · intro h15
              refine n_iconst c_67_58 (n_goto c_67_59 (n_istore (L2 := [some (2, 38), some (0, x1), some (0, 1), some (0, x3), some (0, x4), some (0, 1), some (0, 0), none]) c_67_63 rfl rfl (n_fg (le_s (le_s (le_s (le_s (le_s (le_n (le_s (le_n le_0)))))))) ?_)))
              exact ih.2.2.2.1 _ _ _ _ _ M hS (by omega) (by omega) (by omega) (by omega) (by omega) (by omega) (by omega) (by omega) (by omega) (by omega)
          · intro h16
            refine n_iload c_67_40 rfl (n_iload_n c_67_42 rfl ?_)
            refine n_if2_ne c_67_43 (by omega) (by omega) ?_ ?_
            · intro h17
              refine n_iconst c_67_50 (n_istore (L2 := [some (2, 38), some (0, x1), some (0, 1), some (0, x3), some (0, x4), some (0, 0), none, none]) c_67_51 rfl rfl (n_iload c_67_53 rfl ?_))
              refine n_if0_eq c_67_55 (by omega) ?_ ?_
              · intro h18
                refine n_iload_n c_67_62 rfl (n_istore (L2 := [some (2, 38), some (0, x1), some (0, 1), some (0, x3), some (0, x4), some (0, 0), some (0, 1), none]) c_67_63 rfl rfl (n_fg (le_s (le_s (le_s (le_s (le_s (le_n (le_s (le_n le_0)))))))) ?_))
                exact ih.2.2.2.1 _ _ _ _ _ M hS (by omega) (by omega) (by omega) (by omega) (by omega) (by omega) (by omega) (by omega) (by omega) (by omega)
              · intro h19
                exfalso; omega
            · intro h20
              refine n_iconst c_67_46 (n_goto c_67_47 (n_istore (L2 := [some (2, 38), some (0, x1), some (0, 1), some (0, x3), some (0, x4), some (0, 1), none, none]) c_67_51 rfl rfl (n_iload c_67_53 rfl ?_)))
              refine n_if0_eq c_67_55 (by omega) ?_ ?_
              · intro h21
                exfalso; omega
              · intro h22
                refine n_iconst c_67_58 (n_goto c_67_59 (n_istore (L2 := [some (2, 38), some (0, x1), some (0, 1), some (0, x3), some (0, x4), some (0, 1), some (0, 0), none]) c_67_63 rfl rfl (n_fg (le_s (le_s (le_s (le_s (le_s (le_n (le_s (le_n le_0)))))))) ?_)))
                exact ih.2.2.2.1 _ _ _ _ _ M hS (by omega) (by omega) (by omega) (by omega) (by omega) (by omega) (by omega) (by omega) (by omega) (by omega)
      · skip
        refine n_iload c_67_29 rfl (n_iload_n c_67_31 rfl ?_)
        refine n_if2_gt c_67_32 (by omega) (by omega) ?_ ?_
        · intro h23
          refine n_iinc (L2 := [some (2, 38), some (0, x1), some (0, 2), some (0, (x3 + 1)), some (0, x4), none, none, none]) c_67_141 rfl rfl rfl (n_goto c_67_144 (n_fg (le_s (le_s (le_s (le_s (le_n (le_n (le_n (le_n le_0)))))))) ?_))
          exact ih.2.1 _ _ _ M hS (by omega) (by omega) (by omega) (by omega) (by omega)
        · intro h24
          refine n_iload_n c_67_35 rfl (n_iload_n c_67_36 rfl ?_)
          refine n_if2_eq c_67_37 (by omega) (by omega) ?_ ?_
          · intro h25
            refine n_iconst c_67_46 (n_goto c_67_47 (n_istore (L2 := [some (2, 38), some (0, x1), some (0, 2), some (0, x3), some (0, x4), some (0, 1), none, none]) c_67_51 rfl rfl (n_iload c_67_53 rfl ?_)))
            refine n_if0_eq c_67_55 (by omega) ?_ ?_
            · intro h26
              exfalso; omega
            · intro h27
              refine n_iconst c_67_58 (n_goto c_67_59 (n_istore (L2 := [some (2, 38), some (0, x1), some (0, 2), some (0, x3), some (0, x4), some (0, 1), some (0, 0), none]) c_67_63 rfl rfl (n_fg (le_s (le_s (le_s (le_s (le_s (le_n (le_s (le_n le_0)))))))) ?_)))
              exact ih.2.2.2.1 _ _ _ _ _ M hS (by omega) (by omega) (by omega) (by omega) (by omega) (by omega) (by omega) (by omega) (by omega) (by omega)
          · intro h28
            refine n_iload c_67_40 rfl (n_iload_n c_67_42 rfl ?_)
            refine n_if2_ne c_67_43 (by omega) (by omega) ?_ ?_
            · intro h29
              refine n_iconst c_67_50 (n_istore (L2 := [some (2, 38), some (0, x1), some (0, 2), some (0, x3), some (0, x4), some (0, 0), none, none]) c_67_51 rfl rfl (n_iload c_67_53 rfl ?_))
              refine n_if0_eq c_67_55 (by omega) ?_ ?_
              · intro h30
                refine n_iload_n c_67_62 rfl (n_istore (L2 := [some (2, 38), some (0, x1), some (0, 2), some (0, x3), some (0, x4), some (0, 0), some (0, 2), none]) c_67_63 rfl rfl (n_fg (le_s (le_s (le_s (le_s (le_s (le_n (le_s (le_n le_0)))))))) ?_))
                exact ih.2.2.2.1 _ _ _ _ _ M hS (by omega) (by omega) (by omega) (by omega) (by omega) (by omega) (by omega) (by omega) (by omega) (by omega)
              · intro h31
                exfalso; omega
            · intro h32
              refine n_iconst c_67_46 (n_goto c_67_47 (n_istore (L2 := [some (2, 38), some (0, x1), some (0, 2), some (0, x3), some (0, x4), some (0, 1), none, none]) c_67_51 rfl rfl (n_iload c_67_53 rfl ?_)))
              refine n_if0_eq c_67_55 (by omega) ?_ ?_
              · intro h33
                exfalso; omega
              · intro h34
                refine n_iconst c_67_58 (n_goto c_67_59 (n_istore (L2 := [some (2, 38), some (0, x1), some (0, 2), some (0, x3), some (0, x4), some (0, 1), some (0, 0), none]) c_67_63 rfl rfl (n_fg (le_s (le_s (le_s (le_s (le_s (le_n (le_s (le_n le_0)))))))) ?_)))
                exact ih.2.2.2.1 _ _ _ _ _ M hS (by omega) (by omega) (by omega) (by omega) (by omega) (by omega) (by omega) (by omega) (by omega) (by omega)
      · skip
        refine n_iload c_67_29 rfl (n_iload_n c_67_31 rfl ?_)
        refine n_if2_gt c_67_32 (by omega) (by omega) ?_ ?_
        · intro h35
          refine n_iinc (L2 := [some (2, 38), some (0, x1), some (0, 3), some (0, (x3 + 1)), some (0, x4), none, none, none]) c_67_141 rfl rfl rfl (n_goto c_67_144 (n_fg (le_s (le_s (le_s (le_s (le_n (le_n (le_n (le_n le_0)))))))) ?_))
          exact ih.2.1 _ _ _ M hS (by omega) (by omega) (by omega) (by omega) (by omega)
        · intro h36
          refine n_iload_n c_67_35 rfl (n_iload_n c_67_36 rfl ?_)
          refine n_if2_eq c_67_37 (by omega) (by omega) ?_ ?_
          · intro h37
            refine n_iconst c_67_46 (n_goto c_67_47 (n_istore (L2 := [some (2, 38), some (0, x1), some (0, 3), some (0, x3), some (0, x4), some (0, 1), none, none]) c_67_51 rfl rfl (n_iload c_67_53 rfl ?_)))
            refine n_if0_eq c_67_55 (by omega) ?_ ?_
            · intro h38
              exfalso; omega
            · intro h39
              refine n_iconst c_67_58 (n_goto c_67_59 (n_istore (L2 := [some (2, 38), some (0, x1), some (0, 3), some (0, x3), some (0, x4), some (0, 1), some (0, 0), none]) c_67_63 rfl rfl (n_fg (le_s (le_s (le_s (le_s (le_s (le_n (le_s (le_n le_0)))))))) ?_)))
              exact ih.2.2.2.1 _ _ _ _ _ M hS (by omega) (by omega) (by omega) (by omega) (by omega) (by omega) (by omega) (by omega) (by omega) (by omega)
          · intro h40
            refine n_iload c_67_40 rfl (n_iload_n c_67_42 rfl ?_)
            refine n_if2_ne c_67_43 (by omega) (by omega) ?_ ?_
            · intro h41
              refine n_iconst c_67_50 (n_istore (L2 := [some (2, 38), some (0, x1), some (0, 3), some (0, x3), some (0, x4), some (0, 0), none, none]) c_67_51 rfl rfl (n_iload c_67_53 rfl ?_))
              refine n_if0_eq c_67_55 (by omega) ?_ ?_
              · intro h42
                refine n_iload_n c_67_62 rfl (n_istore (L2 := [some (2, 38), some (0, x1), some (0, 3), some (0, x3), some (0, x4), some (0, 0), some (0, 3), none]) c_67_63 rfl rfl (n_fg (le_s (le_s (le_s (le_s (le_s (le_n (le_s (le_n le_0)))))))) ?_))
                exact ih.2.2.2.1 _ _ _ _ _ M hS (by omega) (by omega) (by omega) (by omega) (by omega) (by omega) (by omega) (by omega) (by omega) (by omega)
              · intro h43
                exfalso; omega
            · intro h44
              refine n_iconst c_67_46 (n_goto c_67_47 (n_istore (L2 := [some (2, 38), some (0, x1), some (0, 3), some (0, x3), some (0, x4), some (0, 1), none, none]) c_67_51 rfl rfl (n_iload c_67_53 rfl ?_)))
              refine n_if0_eq c_67_55 (by omega) ?_ ?_
              · intro h45
                exfalso; omega
              · intro h46
                refine n_iconst c_67_58 (n_goto c_67_59 (n_istore (L2 := [some (2, 38), some (0, x1), some (0, 3), some (0, x3), some (0, x4), some (0, 1), some (0, 0), none]) c_67_63 rfl rfl (n_fg (le_s (le_s (le_s (le_s (le_s (le_n (le_s (le_n le_0)))))))) ?_)))
                exact ih.2.2.2.1 _ _ _ _ _ M hS (by omega) (by omega) (by omega) (by omega) (by omega) (by omega) (by omega) (by omega) (by omega) (by omega)
      · skip
        refine n_iload c_67_29 rfl (n_iload_n c_67_31 rfl ?_)
        refine n_if2_gt c_67_32 (by omega) (by omega) ?_ ?_
        · intro h47
          refine n_iinc (L2 := [some (2, 38), some (0, x1), some (0, 4), some (0, (x3 + 1)), some (0, x4), none, none, none]) c_67_141 rfl rfl rfl (n_goto c_67_144 (n_fg (le_s (le_s (le_s (le_s (le_n (le_n (le_n (le_n le_0)))))))) ?_))
          exact ih.2.1 _ _ _ M hS (by omega) (by omega) (by omega) (by omega) (by omega)
        · intro h48
          refine n_iload_n c_67_35 rfl (n_iload_n c_67_36 rfl ?_)
          refine n_if2_eq c_67_37 (by omega) (by omega) ?_ ?_
          · intro h49
            refine n_iconst c_67_46 (n_goto c_67_47 (n_istore (L2 := [some (2, 38), some (0, x1), some (0, 4), some (0, x3), some (0, x4), some (0, 1), none, none]) c_67_51 rfl rfl (n_iload c_67_53 rfl ?_)))
            refine n_if0_eq c_67_55 (by omega) ?_ ?_
            · intro h50
              exfalso; omega
            · intro h51
              refine n_iconst c_67_58 (n_goto c_67_59 (n_istore (L2 := [some (2, 38), some (0, x1), some (0, 4), some (0, x3), some (0, x4), some (0, 1), some (0, 0), none]) c_67_63 rfl rfl (n_fg (le_s (le_s (le_s (le_s (le_s (le_n (le_s (le_n le_0)))))))) ?_)))
              exact ih.2.2.2.1 _ _ _ _ _ M hS (by omega) (by omega) (by omega) (by omega) (by omega) (by omega) (by omega) (by omega) (by omega) (by omega)
          · intro h52
            refine n_iload c_67_40 rfl (n_iload_n c_67_42 rfl ?_)
            refine n_if2_ne c_67_43 (by omega) (by omega) ?_ ?_
            · intro h53
              refine n_iconst c_67_50 (n_istore (L2 := [some (2, 38), some (0, x1), some (0, 4), some (0, x3), some (0, x4), some (0, 0), none, none]) c_67_51 rfl rfl (n_iload c_67_53 rfl ?_))
              refine n_if0_eq c_67_55 (by omega) ?_ ?_
              · intro h54
                refine n_iload_n c_67_62 rfl (n_istore (L2 := [some (2, 38), some (0, x1), some (0, 4), some (0, x3), some (0, x4), some (0, 0), some (0, 4), none]) c_67_63 rfl rfl (n_fg (le_s (le_s (le_s (le_s (le_s (le_n (le_s (le_n le_0)))))))) ?_))
                exact ih.2.2.2.1 _ _ _ _ _ M hS (by omega) (by omega) (by omega) (by omega) (by omega) (by omega) (by omega) (by omega) (by omega) (by omega)
              · intro h55
                exfalso; omega
            · intro h56
              refine n_iconst c_67_46 (n_goto c_67_47 (n_istore (L2 := [some (2, 38), some (0, x1), some (0, 4), some (0, x3), some (0, x4), some (0, 1), none, none]) c_67_51 rfl rfl (n_iload c_67_53 rfl ?_)))
              refine n_if0_eq c_67_55 (by omega) ?_ ?_
              · intro h57
                exfalso; omega
              · intro h58
                refine n_iconst c_67_58 (n_goto c_67_59 (n_istore (L2 := [some (2, 38), some (0, x1), some (0, 4), some (0, x3), some (0, x4), some (0, 1), some (0, 0), none]) c_67_63 rfl rfl (n_fg (le_s (le_s (le_s (le_s (le_s (le_n (le_s (le_n le_0)))))))) ?_)))
                exact ih.2.2.2.1 _ _ _ _ _ M hS (by omega) (by omega) (by omega) (by omega) (by omega) (by omega) (by omega) (by omega) (by omega) (by omega)
      · skip
        refine n_iload c_67_29 rfl (n_iload_n c_67_31 rfl ?_)
        refine n_if2_gt c_67_32 (by omega) (by omega) ?_ ?_
        · intro h59
          refine n_iinc (L2 := [some (2, 38), some (0, x1), some (0, 5), some (0, (x3 + 1)), some (0, x4), none, none, none]) c_67_141 rfl rfl rfl (n_goto c_67_144 (n_fg (le_s (le_s (le_s (le_s (le_n (le_n (le_n (le_n le_0)))))))) ?_))
          exact ih.2.1 _ _ _ M hS (by omega) (by omega) (by omega) (by omega) (by omega)
        · intro h60
          refine n_iload_n c_67_35 rfl (n_iload_n c_67_36 rfl ?_)
          refine n_if2_eq c_67_37 (by omega) (by omega) ?_ ?_
          · intro h61
            refine n_iconst c_67_46 (n_goto c_67_47 (n_istore (L2 := [some (2, 38), some (0, x1), some (0, 5), some (0, x3), some (0, x4), some (0, 1), none, none]) c_67_51 rfl rfl (n_iload c_67_53 rfl ?_)))
            refine n_if0_eq c_67_55 (by omega) ?_ ?_
            · intro h62
              exfalso; omega
            · intro h63
              refine n_iconst c_67_58 (n_goto c_67_59 (n_istore (L2 := [some (2, 38), some (0, x1), some (0, 5), some (0, x3), some (0, x4), some (0, 1), some (0, 0), none]) c_67_63 rfl rfl (n_fg (le_s (le_s (le_s (le_s (le_s (le_n (le_s (le_n le_0)))))))) ?_)))
              exact ih.2.2.2.1 _ _ _ _ _ M hS (by omega) (by omega) (by omega) (by omega) (by omega) (by omega) (by omega) (by omega) (by omega) (by omega)
          · intro h64
            refine n_iload c_67_40 rfl (n_iload_n c_67_42 rfl ?_)
            refine n_if2_ne c_67_43 (by omega) (by omega) ?_ ?_
            · intro h65
              refine n_iconst c_67_50 (n_istore (L2 := [some (2, 38), some (0, x1), some (0, 5), some (0, x3), some (0, x4), some (0, 0), none, none]) c_67_51 rfl rfl (n_iload c_67_53 rfl ?_))
              refine n_if0_eq c_67_55 (by omega) ?_ ?_
              · intro h66
                refine n_iload_n c_67_62 rfl (n_istore (L2 := [some (2, 38), some (0, x1), some (0, 5), some (0, x3), some (0, x4), some (0, 0), some (0, 5), none]) c_67_63 rfl rfl (n_fg (le_s (le_s (le_s (le_s (le_s (le_n (le_s (le_n le_0)))))))) ?_))
                exact ih.2.2.2.1 _ _ _ _ _ M hS (by omega) (by omega) (by omega) (by omega) (by omega) (by omega) (by omega) (by omega) (by omega) (by omega)
              · intro h67
                exfalso; omega
            · intro h68
              refine n_iconst c_67_46 (n_goto c_67_47 (n_istore (L2 := [some (2, 38), some (0, x1), some (0, 5), some (0, x3), some (0, x4), some (0, 1), none, none]) c_67_51 rfl rfl (n_iload c_67_53 rfl ?_)))
              refine n_if0_eq c_67_55 (by omega) ?_ ?_
              · intro h69
                exfalso; omega
              · intro h70
                refine n_iconst c_67_58 (n_goto c_67_59 (n_istore (L2 := [some (2, 38), some (0, x1), some (0, 5), some (0, x3), some (0, x4), some (0, 1), some (0, 0), none]) c_67_63 rfl rfl (n_fg (le_s (le_s (le_s (le_s (le_s (le_n (le_s (le_n le_0)))))))) ?_)))
                exact ih.2.2.2.1 _ _ _ _ _ M hS (by omega) (by omega) (by omega) (by omega) (by omega) (by omega) (by omega) (by omega) (by omega) (by omega)
      · skip
        refine n_iload c_67_29 rfl (n_iload_n c_67_31 rfl ?_)
        refine n_if2_gt c_67_32 (by omega) (by omega) ?_ ?_
        · intro h71
          refine n_iinc (L2 := [some (2, 38), some (0, x1), some (0, 6), some (0, (x3 + 1)), some (0, x4), none, none, none]) c_67_141 rfl rfl rfl (n_goto c_67_144 (n_fg (le_s (le_s (le_s (le_s (le_n (le_n (le_n (le_n le_0)))))))) ?_))
          exact ih.2.1 _ _ _ M hS (by omega) (by omega) (by omega) (by omega) (by omega)
        · intro h72
          refine n_iload_n c_67_35 rfl (n_iload_n c_67_36 rfl ?_)
          refine n_if2_eq c_67_37 (by omega) (by omega) ?_ ?_
          · intro h73
            refine n_iconst c_67_46 (n_goto c_67_47 (n_istore (L2 := [some (2, 38), some (0, x1), some (0, 6), some (0, x3), some (0, x4), some (0, 1), none, none]) c_67_51 rfl rfl (n_iload c_67_53 rfl ?_)))
            refine n_if0_eq c_67_55 (by omega) ?_ ?_
            · intro h74
              exfalso; omega
            · intro h75
              refine n_iconst c_67_58 (n_goto c_67_59 (n_istore (L2 := [some (2, 38), some (0, x1), some (0, 6), some (0, x3), some (0, x4), some (0, 1), some (0, 0), none]) c_67_63 rfl rfl (n_fg (le_s (le_s (le_s (le_s (le_s (le_n (le_s (le_n le_0)))))))) ?_)))
              exact ih.2.2.2.1 _ _ _ _ _ M hS (by omega) (by omega) (by omega) (by omega) (by omega) (by omega) (by omega) (by omega) (by omega) (by omega)
          · intro h76
            refine n_iload c_67_40 rfl (n_iload_n c_67_42 rfl ?_)
            refine n_if2_ne c_67_43 (by omega) (by omega) ?_ ?_
            · intro h77
              refine n_iconst c_67_50 (n_istore (L2 := [some (2, 38), some (0, x1), some (0, 6), some (0, x3), some (0, x4), some (0, 0), none, none]) c_67_51 rfl rfl (n_iload c_67_53 rfl ?_))
              refine n_if0_eq c_67_55 (by omega) ?_ ?_
              · intro h78
                refine n_iload_n c_67_62 rfl (n_istore (L2 := [some (2, 38), some (0, x1), some (0, 6), some (0, x3), some (0, x4), some (0, 0), some (0, 6), none]) c_67_63 rfl rfl (n_fg (le_s (le_s (le_s (le_s (le_s (le_n (le_s (le_n le_0)))))))) ?_))
                exact ih.2.2.2.1 _ _ _ _ _ M hS (by omega) (by omega) (by omega) (by omega) (by omega) (by omega) (by omega) (by omega) (by omega) (by omega)
              · intro h79
                exfalso; omega
            · intro h80
              refine n_iconst c_67_46 (n_goto c_67_47 (n_istore (L2 := [some (2, 38), some (0, x1), some (0, 6), some (0, x3), some (0, x4), some (0, 1), none, none]) c_67_51 rfl rfl (n_iload c_67_53 rfl ?_)))
              refine n_if0_eq c_67_55 (by omega) ?_ ?_
              · intro h81
                exfalso; omega
              · intro h82
                refine n_iconst c_67_58 (n_goto c_67_59 (n_istore (L2 := [some (2, 38), some (0, x1), some (0, 6), some (0, x3), some (0, x4), some (0, 1), some (0, 0), none]) c_67_63 rfl rfl (n_fg (le_s (le_s (le_s (le_s (le_s (le_n (le_s (le_n le_0)))))))) ?_)))
                exact ih.2.2.2.1 _ _ _ _ _ M hS (by omega) (by omega) (by omega) (by omega) (by omega) (by omega) (by omega) (by omega) (by omega) (by omega)
      · skip
        refine n_iload c_67_29 rfl (n_iload_n c_67_31 rfl ?_)
        refine n_if2_gt c_67_32 (by omega) (by omega) ?_ ?_
        · intro h83
          refine n_iinc (L2 := [some (2, 38), some (0, x1), some (0, 7), some (0, (x3 + 1)), some (0, x4), none, none, none]) c_67_141 rfl rfl rfl (n_goto c_67_144 (n_fg (le_s (le_s (le_s (le_s (le_n (le_n (le_n (le_n le_0)))))))) ?_))
          exact ih.2.1 _ _ _ M hS (by omega) (by omega) (by omega) (by omega) (by omega)
        · intro h84
          refine n_iload_n c_67_35 rfl (n_iload_n c_67_36 rfl ?_)
          refine n_if2_eq c_67_37 (by omega) (by omega) ?_ ?_
          · intro h85
            refine n_iconst c_67_46 (n_goto c_67_47 (n_istore (L2 := [some (2, 38), some (0, x1), some (0, 7), some (0, x3), some (0, x4), some (0, 1), none, none]) c_67_51 rfl rfl (n_iload c_67_53 rfl ?_)))
            refine n_if0_eq c_67_55 (by omega) ?_ ?_
            · intro h86
              exfalso; omega
            · intro h87
              refine n_iconst c_67_58 (n_goto c_67_59 (n_istore (L2 := [some (2, 38), some (0, x1), some (0, 7), some (0, x3), some (0, x4), some (0, 1), some (0, 0), none]) c_67_63 rfl rfl (n_fg (le_s (le_s (le_s (le_s (le_s (le_n (le_s (le_n le_0)))))))) ?_)))
              exact ih.2.2.2.1 _ _ _ _ _ M hS (by omega) (by omega) (by omega) (by omega) (by omega) (by omega) (by omega) (by omega) (by omega) (by omega)
          · intro h88
            refine n_iload c_67_40 rfl (n_iload_n c_67_42 rfl ?_)
            refine n_if2_ne c_67_43 (by omega) (by omega) ?_ ?_
            · intro h89
              refine n_iconst c_67_50 (n_istore (L2 := [some (2, 38), some (0, x1), some (0, 7), some (0, x3), some (0, x4), some (0, 0), none, none]) c_67_51 rfl rfl (n_iload c_67_53 rfl ?_))
              refine n_if0_eq c_67_55 (by omega) ?_ ?_
              · intro h90
                refine n_iload_n c_67_62 rfl (n_istore (L2 := [some (2, 38), some (0, x1), some (0, 7), some (0, x3), some (0, x4), some (0, 0), some (0, 7), none]) c_67_63 rfl rfl (n_fg (le_s (le_s (le_s (le_s (le_s (le_n (le_s (le_n le_0)))))))) ?_))
                exact ih.2.2.2.1 _ _ _ _ _ M hS (by omega) (by omega) (by omega) (by omega) (by omega) (by omega) (by omega) (by omega) (by omega) (by omega)
              · intro h91
                exfalso; omega
            · intro h92
              refine n_iconst c_67_46 (n_goto c_67_47 (n_istore (L2 := [some (2, 38), some (0, x1), some (0, 7), some (0, x3), some (0, x4), some (0, 1), none, none]) c_67_51 rfl rfl (n_iload c_67_53 rfl ?_)))
              refine n_if0_eq c_67_55 (by omega) ?_ ?_
              · intro h93
                exfalso; omega
              · intro h94
                refine n_iconst c_67_58 (n_goto c_67_59 (n_istore (L2 := [some (2, 38), some (0, x1), some (0, 7), some (0, x3), some (0, x4), some (0, 1), some (0, 0), none]) c_67_63 rfl rfl (n_fg (le_s (le_s (le_s (le_s (le_s (le_n (le_s (le_n le_0)))))))) ?_)))
                exact ih.2.2.2.1 _ _ _ _ _ M hS (by omega) (by omega) (by omega) (by omega) (by omega) (by omega) (by omega) (by omega) (by omega) (by omega)
      · skip
        refine n_iload c_67_29 rfl (n_iload_n c_67_31 rfl ?_)
        refine n_if2_gt c_67_32 (by omega) (by omega) ?_ ?_
        · intro h95
          refine n_iinc (L2 := [some (2, 38), some (0, x1), some (0, 8), some (0, (x3 + 1)), some (0, x4), none, none, none]) c_67_141 rfl rfl rfl (n_goto c_67_144 (n_fg (le_s (le_s (le_s (le_s (le_n (le_n (le_n (le_n le_0)))))))) ?_))
          exact ih.2.1 _ _ _ M hS (by omega) (by omega) (by omega) (by omega) (by omega)
        · intro h96
          refine n_iload_n c_67_35 rfl (n_iload_n c_67_36 rfl ?_)
          refine n_if2_eq c_67_37 (by omega) (by omega) ?_ ?_
          · intro h97
            refine n_iconst c_67_46 (n_goto c_67_47 (n_istore (L2 := [some (2, 38), some (0, x1), some (0, 8), some (0, x3), some (0, x4), some (0, 1), none, none]) c_67_51 rfl rfl (n_iload c_67_53 rfl ?_)))
            refine n_if0_eq c_67_55 (by omega) ?_ ?_
            · intro h98
              exfalso; omega
            · intro h99
              refine n_iconst c_67_58 (n_goto c_67_59 (n_istore (L2 := [some (2, 38), some (0, x1), some (0, 8), some (0, x3), some (0, x4), some (0, 1), some (0, 0), none]) c_67_63 rfl rfl (n_fg (le_s (le_s (le_s (le_s (le_s (le_n (le_s (le_n le_0)))))))) ?_)))
              exact ih.2.2.2.1 _ _ _ _ _ M hS (by omega) (by omega) (by omega) (by omega) (by omega) (by omega) (by omega) (by omega) (by omega) (by omega)
          · intro h100
            refine n_iload c_67_40 rfl (n_iload_n c_67_42 rfl ?_)
            refine n_if2_ne c_67_43 (by omega) (by omega) ?_ ?_
            · intro h101
              refine n_iconst c_67_50 (n_istore (L2 := [some (2, 38), some (0, x1), some (0, 8), some (0, x3), some (0, x4), some (0, 0), none, none]) c_67_51 rfl rfl (n_iload c_67_53 rfl ?_))
              refine n_if0_eq c_67_55 (by omega) ?_ ?_
              · intro h102
                refine n_iload_n c_67_62 rfl (n_istore (L2 := [some (2, 38), some (0, x1), some (0, 8), some (0, x3), some (0, x4), some (0, 0), some (0, 8), none]) c_67_63 rfl rfl (n_fg (le_s (le_s (le_s (le_s (le_s (le_n (le_s (le_n le_0)))))))) ?_))
                exact ih.2.2.2.1 _ _ _ _ _ M hS (by omega) (by omega) (by omega) (by omega) (by omega) (by omega) (by omega) (by omega) (by omega) (by omega)
              · intro h103
                exfalso; omega
            · intro h104
              refine n_iconst c_67_46 (n_goto c_67_47 (n_istore (L2 := [some (2, 38), some (0, x1), some (0, 8), some (0, x3), some (0, x4), some (0, 1), none, none]) c_67_51 rfl rfl (n_iload c_67_53 rfl ?_)))
              refine n_if0_eq c_67_55 (by omega) ?_ ?_
              · intro h105
                exfalso; omega
              · intro h106
                refine n_iconst c_67_58 (n_goto c_67_59 (n_istore (L2 := [some (2, 38), some (0, x1), some (0, 8), some (0, x3), some (0, x4), some (0, 1), some (0, 0), none]) c_67_63 rfl rfl (n_fg (le_s (le_s (le_s (le_s (le_s (le_n (le_s (le_n le_0)))))))) ?_)))
                exact ih.2.2.2.1 _ _ _ _ _ M hS (by omega) (by omega) (by omega) (by omega) (by omega) (by omega) (by omega) (by omega) (by omega) (by omega)
    · intro x1 x2 x3 x4 x6 M hS k1 k2 k3 k4 k6 v0 v1 v2 v3 hnn
      rcases (show x2 = 0 ∨ x2 = 1 ∨ x2 = 2 ∨ x2 = 3 ∨ x2 = 4 ∨ x2 = 5 ∨ x2 = 6 ∨ x2 = 7 ∨ x2 = 8 by omega) with rfl | rfl | rfl | rfl | rfl | rfl | rfl | rfl | rfl
      · skip
        refine n_iload c_67_65 rfl (n_iload_n c_67_67 rfl ?_)
        refine n_if2_gt c_67_68 (by omega) (by omega) ?_ ?_
        · intro h1
          refine n_iinc (L2 := [some (2, 38), some (0, x1), some (0, 0), some (0, x3), some (0, (x4 + 1)), none, some (0, x6), none]) c_67_135 rfl rfl rfl (n_goto c_67_138 (n_fg (le_s (le_s (le_s (le_s (le_s (le_n (le_n (le_n le_0)))))))) ?_))
          exact ih.2.2.1 _ _ _ _ M hS (by omega) (by omega) (by omega) (by omega) (by omega) (by omega) (by omega) (by omega)
        · intro h2
          refine n_aload_n c_67_71 rfl (n_getR c_67_72 sc_38.n rfl rfl rfl r_38_1 (n_iload_n c_67_75 rfl (n_bipush c_67_76 rfl (n_imul c_67_78 rfl (n_iload c_67_79 rfl (n_iadd c_67_81 rfl (n_bipush c_67_82 rfl (n_imul c_67_84 rfl (n_iload c_67_85 rfl (n_iadd c_67_87 rfl (n_ialoadV c_67_88 sc_40.n rfl rfl rfl (by omega) (t_40 hS (by omega)) ?_)))))))))))
          intro z3 ez3 f4
          refine n_istore (L2 := [some (2, 38), some (0, x1), some (0, 0), some (0, x3), some (0, x4), none, some (0, x6), some (0, z3)]) c_67_89 rfl rfl (n_iload c_67_91 rfl (n_aload_n c_67_93 rfl (n_getV (bi := 7) c_67_94 sc_38.n rfl rfl rfl (t_38_7 hS) ?_)))
          intro z5 ez5 f6
          refine n_if2_eq c_67_97 (by omega) (by omega) ?_ ?_
          · intro h7
            refine n_fg (le_s (le_s (le_s (le_s (le_s (le_n (le_s (le_n le_0)))))))) ?_
            exact ih.2.2.2.2 _ _ _ _ _ M hS (by omega) (by omega) (by omega) (by omega) (by omega) (by omega) (by omega) (by omega) (by omega) (by omega) (by omega)
          · intro h8
            refine n_aload_n c_67_100 rfl (n_getR c_67_101 sc_38.n rfl rfl rfl r_38_2 (n_iload_n c_67_104 rfl (n_iload_n c_67_105 rfl (n_iload c_67_106 rfl (n_iconst c_67_108 (n_i_ishl c_67_109 rfl (n_i_ior c_67_110 rfl (n_iload c_67_111 rfl (n_bipush c_67_113 rfl (n_i_ishl c_67_115 rfl (n_i_ior c_67_116 rfl ?_)))))))))))
            refine n_iastore41 hS c_67_117 (by omega) (ckey_mk (by omega) (by omega) (by omega)) ?_
            intro M9 eM9 hS9
            refine n_aload_n c_67_118 rfl (n_getR c_67_119 sc_38.n rfl rfl rfl r_38_3 (n_iload_n c_67_122 rfl (n_iload c_67_123 rfl (n_iastoreV hS9 c_67_125 sc_42.n rfl (by omega) (w_42 (by omega) (by omega)) ?_))))
            intro M10 eM10 hS10
            refine n_iinc (L2 := [some (2, 38), some (0, (x1 + 1)), some (0, 0), some (0, x3), some (0, x4), none, some (0, x6), some (0, z3)]) c_67_126 rfl rfl rfl (n_fg (le_s (le_s (le_s (le_s (le_s (le_n (le_s (le_n le_0)))))))) ?_)
            exact ih.2.2.2.2 _ _ _ _ _ M10 hS10 (by omega) (by omega) (by omega) (by omega) (by omega) (by omega) (by omega) (by omega) (by omega) (by omega) (by omega)
      · skip
        refine n_iload c_67_65 rfl (n_iload_n c_67_67 rfl ?_)
        refine n_if2_gt c_67_68 (by omega) (by omega) ?_ ?_
        · intro h11
          refine n_iinc (L2 := [some (2, 38), some (0, x1), some (0, 1), some (0, x3), some (0, (x4 + 1)), none, some (0, x6), none]) c_67_135 rfl rfl rfl (n_goto c_67_138 (n_fg (le_s (le_s (le_s (le_s (le_s (le_n (le_n (le_n le_0)))))))) ?_))
          exact ih.2.2.1 _ _ _ _ M hS (by omega) (by omega) (by omega) (by omega) (by omega) (by omega) (by omega) (by omega)
        · intro h12
          refine n_aload_n c_67_71 rfl (n_getR c_67_72 sc_38.n rfl rfl rfl r_38_1 (n_iload_n c_67_75 rfl (n_bipush c_67_76 rfl (n_imul c_67_78 rfl (n_iload c_67_79 rfl (n_iadd c_67_81 rfl (n_bipush c_67_82 rfl (n_imul c_67_84 rfl (n_iload c_67_85 rfl (n_iadd c_67_87 rfl (n_ialoadV c_67_88 sc_40.n rfl rfl rfl (by omega) (t_40 hS (by omega)) ?_)))))))))))
          intro z13 ez13 f14
          refine n_istore (L2 := [some (2, 38), some (0, x1), some (0, 1), some (0, x3), some (0, x4), none, some (0, x6), some (0, z13)]) c_67_89 rfl rfl (n_iload c_67_91 rfl (n_aload_n c_67_93 rfl (n_getV (bi := 7) c_67_94 sc_38.n rfl rfl rfl (t_38_7 hS) ?_)))
          intro z15 ez15 f16
          refine n_if2_eq c_67_97 (by omega) (by omega) ?_ ?_
          · intro h17
            refine n_fg (le_s (le_s (le_s (le_s (le_s (le_n (le_s (le_n le_0)))))))) ?_
            exact ih.2.2.2.2 _ _ _ _ _ M hS (by omega) (by omega) (by omega) (by omega) (by omega) (by omega) (by omega) (by omega) (by omega) (by omega) (by omega)
          · intro h18
            refine n_aload_n c_67_100 rfl (n_getR c_67_101 sc_38.n rfl rfl rfl r_38_2 (n_iload_n c_67_104 rfl (n_iload_n c_67_105 rfl (n_iload c_67_106 rfl (n_iconst c_67_108 (n_i_ishl c_67_109 rfl (n_i_ior c_67_110 rfl (n_iload c_67_111 rfl (n_bipush c_67_113 rfl (n_i_ishl c_67_115 rfl (n_i_ior c_67_116 rfl ?_)))))))))))
            refine n_iastore41 hS c_67_117 (by omega) (ckey_mk (by omega) (by omega) (by omega)) ?_
            intro M19 eM19 hS19
            refine n_aload_n c_67_118 rfl (n_getR c_67_119 sc_38.n rfl rfl rfl r_38_3 (n_iload_n c_67_122 rfl (n_iload c_67_123 rfl (n_iastoreV hS19 c_67_125 sc_42.n rfl (by omega) (w_42 (by omega) (by omega)) ?_))))
            intro M20 eM20 hS20
            refine n_iinc (L2 := [some (2, 38), some (0, (x1 + 1)), some (0, 1), some (0, x3), some (0, x4), none, some (0, x6), some (0, z13)]) c_67_126 rfl rfl rfl (n_fg (le_s (le_s (le_s (le_s (le_s (le_n (le_s (le_n le_0)))))))) ?_)
            exact ih.2.2.2.2 _ _ _ _ _ M20 hS20 (by omega) (by omega) (by omega) (by omega) (by omega) (by omega) (by omega) (by omega) (by omega) (by omega) (by omega)
      · skip
        refine n_iload c_67_65 rfl (n_iload_n c_67_67 rfl ?_)
        refine n_if2_gt c_67_68 (by omega) (by omega) ?_ ?_
        · intro h21
          refine n_iinc (L2 := [some (2, 38), some (0, x1), some (0, 2), some (0, x3), some (0, (x4 + 1)), none, some (0, x6), none]) c_67_135 rfl rfl rfl (n_goto c_67_138 (n_fg (le_s (le_s (le_s (le_s (le_s (le_n (le_n (le_n le_0)))))))) ?_))
          exact ih.2.2.1 _ _ _ _ M hS (by omega) (by omega) (by omega) (by omega) (by omega) (by omega) (by omega) (by omega)
        · intro h22
          refine n_aload_n c_67_71 rfl (n_getR c_67_72 sc_38.n rfl rfl rfl r_38_1 (n_iload_n c_67_75 rfl (n_bipush c_67_76 rfl (n_imul c_67_78 rfl (n_iload c_67_79 rfl (n_iadd c_67_81 rfl (n_bipush c_67_82 rfl (n_imul c_67_84 rfl (n_iload c_67_85 rfl (n_iadd c_67_87 rfl (n_ialoadV c_67_88 sc_40.n rfl rfl rfl (by omega) (t_40 hS (by omega)) ?_)))))))))))
          intro z23 ez23 f24
          refine n_istore (L2 := [some (2, 38), some (0, x1), some (0, 2), some (0, x3), some (0, x4), none, some (0, x6), some (0, z23)]) c_67_89 rfl rfl (n_iload c_67_91 rfl (n_aload_n c_67_93 rfl (n_getV (bi := 7) c_67_94 sc_38.n rfl rfl rfl (t_38_7 hS) ?_)))
          intro z25 ez25 f26
          refine n_if2_eq c_67_97 (by omega) (by omega) ?_ ?_
          · intro h27
            refine n_fg (le_s (le_s (le_s (le_s (le_s (le_n (le_s (le_n le_0)))))))) ?_
            exact ih.2.2.2.2 _ _ _ _ _ M hS (by omega) (by omega) (by omega) (by omega) (by omega) (by omega) (by omega) (by omega) (by omega) (by omega) (by omega)
          · intro h28
            refine n_aload_n c_67_100 rfl (n_getR c_67_101 sc_38.n rfl rfl rfl r_38_2 (n_iload_n c_67_104 rfl (n_iload_n c_67_105 rfl (n_iload c_67_106 rfl (n_iconst c_67_108 (n_i_ishl c_67_109 rfl (n_i_ior c_67_110 rfl (n_iload c_67_111 rfl (n_bipush c_67_113 rfl (n_i_ishl c_67_115 rfl (n_i_ior c_67_116 rfl ?_)))))))))))
            refine n_iastore41 hS c_67_117 (by omega) (ckey_mk (by omega) (by omega) (by omega)) ?_
            intro M29 eM29 hS29
            refine n_aload_n c_67_118 rfl (n_getR c_67_119 sc_38.n rfl rfl rfl r_38_3 (n_iload_n c_67_122 rfl (n_iload c_67_123 rfl (n_iastoreV hS29 c_67_125 sc_42.n rfl (by omega) (w_42 (by omega) (by omega)) ?_))))
            intro M30 eM30 hS30
            refine n_iinc (L2 := [some (2, 38), some (0, (x1 + 1)), some (0, 2), some (0, x3), some (0, x4), none, some (0, x6), some (0, z23)]) c_67_126 rfl rfl rfl (n_fg (le_s (le_s (le_s (le_s (le_s (le_n (le_s (le_n le_0)))))))) ?_)
            exact ih.2.2.2.2 _ _ _ _ _ M30 hS30 (by omega) (by omega) (by omega) (by omega) (by omega) (by omega) (by omega) (by omega) (by omega) (by omega) (by omega)
      · skip
        refine n_iload c_67_65 rfl (n_iload_n c_67_67 rfl ?_)
        refine n_if2_gt c_67_68 (by omega) (by omega) ?_ ?_
        · intro h31
          refine n_iinc (L2 := [some (2, 38), some (0, x1), some (0, 3), some (0, x3), some (0, (x4 + 1)), none, some (0, x6), none]) c_67_135 rfl rfl rfl (n_goto c_67_138 (n_fg (le_s (le_s (le_s (le_s (le_s (le_n (le_n (le_n le_0)))))))) ?_))
          exact ih.2.2.1 _ _ _ _ M hS (by omega) (by omega) (by omega) (by omega) (by omega) (by omega) (by omega) (by omega)
        · intro h32
          refine n_aload_n c_67_71 rfl (n_getR c_67_72 sc_38.n rfl rfl rfl r_38_1 (n_iload_n c_67_75 rfl (n_bipush c_67_76 rfl (n_imul c_67_78 rfl (n_iload c_67_79 rfl (n_iadd c_67_81 rfl (n_bipush c_67_82 rfl (n_imul c_67_84 rfl (n_iload c_67_85 rfl (n_iadd c_67_87 rfl (n_ialoadV c_67_88 sc_40.n rfl rfl rfl (by omega) (t_40 hS (by omega)) ?_)))))))))))
          intro z33 ez33 f34
          refine n_istore (L2 := [some (2, 38), some (0, x1), some (0, 3), some (0, x3), some (0, x4), none, some (0, x6), some (0, z33)]) c_67_89 rfl rfl (n_iload c_67_91 rfl (n_aload_n c_67_93 rfl (n_getV (bi := 7) c_67_94 sc_38.n rfl rfl rfl (t_38_7 hS) ?_)))
          intro z35 ez35 f36
          refine n_if2_eq c_67_97 (by omega) (by omega) ?_ ?_
          · intro h37
            refine n_fg (le_s (le_s (le_s (le_s (le_s (le_n (le_s (le_n le_0)))))))) ?_
            exact ih.2.2.2.2 _ _ _ _ _ M hS (by omega) (by omega) (by omega) (by omega) (by omega) (by omega) (by omega) (by omega) (by omega) (by omega) (by omega)
          · intro h38
            refine n_aload_n c_67_100 rfl (n_getR c_67_101 sc_38.n rfl rfl rfl r_38_2 (n_iload_n c_67_104 rfl (n_iload_n c_67_105 rfl (n_iload c_67_106 rfl (n_iconst c_67_108 (n_i_ishl c_67_109 rfl (n_i_ior c_67_110 rfl (n_iload c_67_111 rfl (n_bipush c_67_113 rfl (n_i_ishl c_67_115 rfl (n_i_ior c_67_116 rfl ?_)))))))))))
            refine n_iastore41 hS c_67_117 (by omega) (ckey_mk (by omega) (by omega) (by omega)) ?_
            intro M39 eM39 hS39
            refine n_aload_n c_67_118 rfl (n_getR c_67_119 sc_38.n rfl rfl rfl r_38_3 (n_iload_n c_67_122 rfl (n_iload c_67_123 rfl (n_iastoreV hS39 c_67_125 sc_42.n rfl (by omega) (w_42 (by omega) (by omega)) ?_))))
            intro M40 eM40 hS40
            refine n_iinc (L2 := [some (2, 38), some (0, (x1 + 1)), some (0, 3), some (0, x3), some (0, x4), none, some (0, x6), some (0, z33)]) c_67_126 rfl rfl rfl (n_fg (le_s (le_s (le_s (le_s (le_s (le_n (le_s (le_n le_0)))))))) ?_)
            exact ih.2.2.2.2 _ _ _ _ _ M40 hS40 (by omega) (by omega) (by omega) (by omega) (by omega) (by omega) (by omega) (by omega) (by omega) (by omega) (by omega)
      · skip
        refine n_iload c_67_65 rfl (n_iload_n c_67_67 rfl ?_)
        refine n_if2_gt c_67_68 (by omega) (by omega) ?_ ?_
        · intro h41
          refine n_iinc (L2 := [some (2, 38), some (0, x1), some (0, 4), some (0, x3), some (0, (x4 + 1)), none, some (0, x6), none]) c_67_135 rfl rfl rfl (n_goto c_67_138 (n_fg (le_s (le_s (le_s (le_s (le_s (le_n (le_n (le_n le_0)))))))) ?_))
          exact ih.2.2.1 _ _ _ _ M hS (by omega) (by omega) (by omega) (by omega) (by omega) (by omega) (by omega) (by omega)
        · intro h42
          refine n_aload_n c_67_71 rfl (n_getR c_67_72 sc_38.n rfl rfl rfl r_38_1 (n_iload_n c_67_75 rfl (n_bipush c_67_76 rfl (n_imul c_67_78 rfl (n_iload c_67_79 rfl (n_iadd c_67_81 rfl (n_bipush c_67_82 rfl (n_imul c_67_84 rfl (n_iload c_67_85 rfl (n_iadd c_67_87 rfl (n_ialoadV c_67_88 sc_40.n rfl rfl rfl (by omega) (t_40 hS (by omega)) ?_)))))))))))
          intro z43 ez43 f44
          refine n_istore (L2 := [some (2, 38), some (0, x1), some (0, 4), some (0, x3), some (0, x4), none, some (0, x6), some (0, z43)]) c_67_89 rfl rfl (n_iload c_67_91 rfl (n_aload_n c_67_93 rfl (n_getV (bi := 7) c_67_94 sc_38.n rfl rfl rfl (t_38_7 hS) ?_)))
          intro z45 ez45 f46
          refine n_if2_eq c_67_97 (by omega) (by omega) ?_ ?_
          · intro h47
            refine n_fg (le_s (le_s (le_s (le_s (le_s (le_n (le_s (le_n le_0)))))))) ?_
            exact ih.2.2.2.2 _ _ _ _ _ M hS (by omega) (by omega) (by omega) (by omega) (by omega) (by omega) (by omega) (by omega) (by omega) (by omega) (by omega)
          · intro h48
            refine n_aload_n c_67_100 rfl (n_getR c_67_101 sc_38.n rfl rfl rfl r_38_2 (n_iload_n c_67_104 rfl (n_iload_n c_67_105 rfl (n_iload c_67_106 rfl (n_iconst c_67_108 (n_i_ishl c_67_109 rfl (n_i_ior c_67_110 rfl (n_iload c_67_111 rfl (n_bipush c_67_113 rfl (n_i_ishl c_67_115 rfl (n_i_ior c_67_116 rfl ?_)))))))))))
            refine n_iastore41 hS c_67_117 (by omega) (ckey_mk (by omega) (by omega) (by omega)) ?_
            intro M49 eM49 hS49
            refine n_aload_n c_67_118 rfl (n_getR c_67_119 sc_38.n rfl rfl rfl r_38_3 (n_iload_n c_67_122 rfl (n_iload c_67_123 rfl (n_iastoreV hS49 c_67_125 sc_42.n rfl (by omega) (w_42 (by omega) (by omega)) ?_))))
            intro M50 eM50 hS50
            refine n_iinc (L2 := [some (2, 38), some (0, (x1 + 1)), some (0, 4), some (0, x3), some (0, x4), none, some (0, x6), some (0, z43)]) c_67_126 rfl rfl rfl (n_fg (le_s (le_s (le_s (le_s (le_s (le_n (le_s (le_n le_0)))))))) ?_)
            exact ih.2.2.2.2 _ _ _ _ _ M50 hS50 (by omega) (by omega) (by omega) (by omega) (by omega) (by omega) (by omega) (by omega) (by omega) (by omega) (by omega)
      · skip
        refine n_iload c_67_65 rfl (n_iload_n c_67_67 rfl ?_)
        refine n_if2_gt c_67_68 (by omega) (by omega) ?_ ?_
        · intro h51
          refine n_iinc (L2 := [some (2, 38), some (0, x1), some (0, 5), some (0, x3), some (0, (x4 + 1)), none, some (0, x6), none]) c_67_135 rfl rfl rfl (n_goto c_67_138 (n_fg (le_s (le_s (le_s (le_s (le_s (le_n (le_n (le_n le_0)))))))) ?_))
          exact ih.2.2.1 _ _ _ _ M hS (by omega) (by omega) (by omega) (by omega) (by omega) (by omega) (by omega) (by omega)
        · intro h52
          refine n_aload_n c_67_71 rfl (n_getR c_67_72 sc_38.n rfl rfl rfl r_38_1 (n_iload_n c_67_75 rfl (n_bipush c_67_76 rfl (n_imul c_67_78 rfl (n_iload c_67_79 rfl (n_iadd c_67_81 rfl (n_bipush c_67_82 rfl (n_imul c_67_84 rfl (n_iload c_67_85 rfl (n_iadd c_67_87 rfl (n_ialoadV c_67_88 sc_40.n rfl rfl rfl (by omega) (t_40 hS (by omega)) ?_)))))))))))
          intro z53 ez53 f54
          refine n_istore (L2 := [some (2, 38), some (0, x1), some (0, 5), some (0, x3), some (0, x4), none, some (0, x6), some (0, z53)]) c_67_89 rfl rfl (n_iload c_67_91 rfl (n_aload_n c_67_93 rfl (n_getV (bi := 7) c_67_94 sc_38.n rfl rfl rfl (t_38_7 hS) ?_)))
          intro z55 ez55 f56
          refine n_if2_eq c_67_97 (by omega) (by omega) ?_ ?_
          · intro h57
            refine n_fg (le_s (le_s (le_s (le_s (le_s (le_n (le_s (le_n le_0)))))))) ?_
            exact ih.2.2.2.2 _ _ _ _ _ M hS (by omega) (by omega) (by omega) (by omega) (by omega) (by omega) (by omega) (by omega) (by omega) (by omega) (by omega)
          · intro h58
            refine n_aload_n c_67_100 rfl (n_getR c_67_101 sc_38.n rfl rfl rfl r_38_2 (n_iload_n c_67_104 rfl (n_iload_n c_67_105 rfl (n_iload c_67_106 rfl (n_iconst c_67_108 (n_i_ishl c_67_109 rfl (n_i_ior c_67_110 rfl (n_iload c_67_111 rfl (n_bipush c_67_113 rfl (n_i_ishl c_67_115 rfl (n_i_ior c_67_116 rfl ?_)))))))))))
            refine n_iastore41 hS c_67_117 (by omega) (ckey_mk (by omega) (by omega) (by omega)) ?_
            intro M59 eM59 hS59
            refine n_aload_n c_67_118 rfl (n_getR c_67_119 sc_38.n rfl rfl rfl r_38_3 (n_iload_n c_67_122 rfl (n_iload c_67_123 rfl (n_iastoreV hS59 c_67_125 sc_42.n rfl (by omega) (w_42 (by omega) (by omega)) ?_))))
            intro M60 eM60 hS60
            refine n_iinc (L2 := [some (2, 38), some (0, (x1 + 1)), some (0, 5), some (0, x3), some (0, x4), none, some (0, x6), some (0, z53)]) c_67_126 rfl rfl rfl (n_fg (le_s (le_s (le_s (le_s (le_s (le_n (le_s (le_n le_0)))))))) ?_)
            exact ih.2.2.2.2 _ _ _ _ _ M60 hS60 (by omega) (by omega) (by omega) (by omega) (by omega) (by omega) (by omega) (by omega) (by omega) (by omega) (by omega)
      · skip
        refine n_iload c_67_65 rfl (n_iload_n c_67_67 rfl ?_)
        refine n_if2_gt c_67_68 (by omega) (by omega) ?_ ?_
        · intro h61
          refine n_iinc (L2 := [some (2, 38), some (0, x1), some (0, 6), some (0, x3), some (0, (x4 + 1)), none, some (0, x6), none]) c_67_135 rfl rfl rfl (n_goto c_67_138 (n_fg (le_s (le_s (le_s (le_s (le_s (le_n (le_n (le_n le_0)))))))) ?_))
          exact ih.2.2.1 _ _ _ _ M hS (by omega) (by omega) (by omega) (by omega) (by omega) (by omega) (by omega) (by omega)
        · intro h62
          refine n_aload_n c_67_71 rfl (n_getR c_67_72 sc_38.n rfl rfl rfl r_38_1 (n_iload_n c_67_75 rfl (n_bipush c_67_76 rfl (n_imul c_67_78 rfl (n_iload c_67_79 rfl (n_iadd c_67_81 rfl (n_bipush c_67_82 rfl (n_imul c_67_84 rfl (n_iload c_67_85 rfl (n_iadd c_67_87 rfl (n_ialoadV c_67_88 sc_40.n rfl rfl rfl (by omega) (t_40 hS (by omega)) ?_)))))))))))
          intro z63 ez63 f64
          refine n_istore (L2 := [some (2, 38), some (0, x1), some (0, 6), some (0, x3), some (0, x4), none, some (0, x6), some (0, z63)]) c_67_89 rfl rfl (n_iload c_67_91 rfl (n_aload_n c_67_93 rfl (n_getV (bi := 7) c_67_94 sc_38.n rfl rfl rfl (t_38_7 hS) ?_)))
          intro z65 ez65 f66
          refine n_if2_eq c_67_97 (by omega) (by omega) ?_ ?_
          · intro h67
            refine n_fg (le_s (le_s (le_s (le_s (le_s (le_n (le_s (le_n le_0)))))))) ?_
            exact ih.2.2.2.2 _ _ _ _ _ M hS (by omega) (by omega) (by omega) (by omega) (by omega) (by omega) (by omega) (by omega) (by omega) (by omega) (by omega)
          · intro h68
            refine n_aload_n c_67_100 rfl (n_getR c_67_101 sc_38.n rfl rfl rfl r_38_2 (n_iload_n c_67_104 rfl (n_iload_n c_67_105 rfl (n_iload c_67_106 rfl (n_iconst c_67_108 (n_i_ishl c_67_109 rfl (n_i_ior c_67_110 rfl (n_iload c_67_111 rfl (n_bipush c_67_113 rfl (n_i_ishl c_67_115 rfl (n_i_ior c_67_116 rfl ?_)))))))))))
            refine n_iastore41 hS c_67_117 (by omega) (ckey_mk (by omega) (by omega) (by omega)) ?_
            intro M69 eM69 hS69
            refine n_aload_n c_67_118 rfl (n_getR c_67_119 sc_38.n rfl rfl rfl r_38_3 (n_iload_n c_67_122 rfl (n_iload c_67_123 rfl (n_iastoreV hS69 c_67_125 sc_42.n rfl (by omega) (w_42 (by omega) (by omega)) ?_))))
            intro M70 eM70 hS70
            refine n_iinc (L2 := [some (2, 38), some (0, (x1 + 1)), some (0, 6), some (0, x3), some (0, x4), none, some (0, x6), some (0, z63)]) c_67_126 rfl rfl rfl (n_fg (le_s (le_s (le_s (le_s (le_s (le_n (le_s (le_n le_0)))))))) ?_)
            exact ih.2.2.2.2 _ _ _ _ _ M70 hS70 (by omega) (by omega) (by omega) (by omega) (by omega) (by omega) (by omega) (by omega) (by omega) (by omega) (by omega)
      · skip
        refine n_iload c_67_65 rfl (n_iload_n c_67_67 rfl ?_)
        refine n_if2_gt c_67_68 (by omega) (by omega) ?_ ?_
        · intro h71
          refine n_iinc (L2 := [some (2, 38), some (0, x1), some (0, 7), some (0, x3), some (0, (x4 + 1)), none, some (0, x6), none]) c_67_135 rfl rfl rfl (n_goto c_67_138 (n_fg (le_s (le_s (le_s (le_s (le_s (le_n (le_n (le_n le_0)))))))) ?_))
          exact ih.2.2.1 _ _ _ _ M hS (by omega) (by omega) (by omega) (by omega) (by omega) (by omega) (by omega) (by omega)
        · intro h72
          refine n_aload_n c_67_71 rfl (n_getR c_67_72 sc_38.n rfl rfl rfl r_38_1 (n_iload_n c_67_75 rfl (n_bipush c_67_76 rfl (n_imul c_67_78 rfl (n_iload c_67_79 rfl (n_iadd c_67_81 rfl (n_bipush c_67_82 rfl (n_imul c_67_84 rfl (n_iload c_67_85 rfl (n_iadd c_67_87 rfl (n_ialoadV c_67_88 sc_40.n rfl rfl rfl (by omega) (t_40 hS (by omega)) ?_)))))))))))
          intro z73 ez73 f74
          refine n_istore (L2 := [some (2, 38), some (0, x1), some (0, 7), some (0, x3), some (0, x4), none, some (0, x6), some (0, z73)]) c_67_89 rfl rfl (n_iload c_67_91 rfl (n_aload_n c_67_93 rfl (n_getV (bi := 7) c_67_94 sc_38.n rfl rfl rfl (t_38_7 hS) ?_)))
          intro z75 ez75 f76
          refine n_if2_eq c_67_97 (by omega) (by omega) ?_ ?_
          · intro h77
            refine n_fg (le_s (le_s (le_s (le_s (le_s (le_n (le_s (le_n le_0)))))))) ?_
            exact ih.2.2.2.2 _ _ _ _ _ M hS (by omega) (by omega) (by omega) (by omega) (by omega) (by omega) (by omega) (by omega) (by omega) (by omega) (by omega)
          · intro h78
            refine n_aload_n c_67_100 rfl (n_getR c_67_101 sc_38.n rfl rfl rfl r_38_2 (n_iload_n c_67_104 rfl (n_iload_n c_67_105 rfl (n_iload c_67_106 rfl (n_iconst c_67_108 (n_i_ishl c_67_109 rfl (n_i_ior c_67_110 rfl (n_iload c_67_111 rfl (n_bipush c_67_113 rfl (n_i_ishl c_67_115 rfl (n_i_ior c_67_116 rfl ?_)))))))))))
            refine n_iastore41 hS c_67_117 (by omega) (ckey_mk (by omega) (by omega) (by omega)) ?_
            intro M79 eM79 hS79
            refine n_aload_n c_67_118 rfl (n_getR c_67_119 sc_38.n rfl rfl rfl r_38_3 (n_iload_n c_67_122 rfl (n_iload c_67_123 rfl (n_iastoreV hS79 c_67_125 sc_42.n rfl (by omega) (w_42 (by omega) (by omega)) ?_))))
            intro M80 eM80 hS80
            refine n_iinc (L2 := [some (2, 38), some (0, (x1 + 1)), some (0, 7), some (0, x3), some (0, x4), none, some (0, x6), some (0, z73)]) c_67_126 rfl rfl rfl (n_fg (le_s (le_s (le_s (le_s (le_s (le_n (le_s (le_n le_0)))))))) ?_)
            exact ih.2.2.2.2 _ _ _ _ _ M80 hS80 (by omega) (by omega) (by omega) (by omega) (by omega) (by omega) (by omega) (by omega) (by omega) (by omega) (by omega)
      · skip
        refine n_iload c_67_65 rfl (n_iload_n c_67_67 rfl ?_)
        refine n_if2_gt c_67_68 (by omega) (by omega) ?_ ?_
        · intro h81
          refine n_iinc (L2 := [some (2, 38), some (0, x1), some (0, 8), some (0, x3), some (0, (x4 + 1)), none, some (0, x6), none]) c_67_135 rfl rfl rfl (n_goto c_67_138 (n_fg (le_s (le_s (le_s (le_s (le_s (le_n (le_n (le_n le_0)))))))) ?_))
          exact ih.2.2.1 _ _ _ _ M hS (by omega) (by omega) (by omega) (by omega) (by omega) (by omega) (by omega) (by omega)
        · intro h82
          refine n_aload_n c_67_71 rfl (n_getR c_67_72 sc_38.n rfl rfl rfl r_38_1 (n_iload_n c_67_75 rfl (n_bipush c_67_76 rfl (n_imul c_67_78 rfl (n_iload c_67_79 rfl (n_iadd c_67_81 rfl (n_bipush c_67_82 rfl (n_imul c_67_84 rfl (n_iload c_67_85 rfl (n_iadd c_67_87 rfl (n_ialoadV c_67_88 sc_40.n rfl rfl rfl (by omega) (t_40 hS (by omega)) ?_)))))))))))
          intro z83 ez83 f84
          refine n_istore (L2 := [some (2, 38), some (0, x1), some (0, 8), some (0, x3), some (0, x4), none, some (0, x6), some (0, z83)]) c_67_89 rfl rfl (n_iload c_67_91 rfl (n_aload_n c_67_93 rfl (n_getV (bi := 7) c_67_94 sc_38.n rfl rfl rfl (t_38_7 hS) ?_)))
          intro z85 ez85 f86
          refine n_if2_eq c_67_97 (by omega) (by omega) ?_ ?_
          · intro h87
            refine n_fg (le_s (le_s (le_s (le_s (le_s (le_n (le_s (le_n le_0)))))))) ?_
            exact ih.2.2.2.2 _ _ _ _ _ M hS (by omega) (by omega) (by omega) (by omega) (by omega) (by omega) (by omega) (by omega) (by omega) (by omega) (by omega)
          · intro h88
            refine n_aload_n c_67_100 rfl (n_getR c_67_101 sc_38.n rfl rfl rfl r_38_2 (n_iload_n c_67_104 rfl (n_iload_n c_67_105 rfl (n_iload c_67_106 rfl (n_iconst c_67_108 (n_i_ishl c_67_109 rfl (n_i_ior c_67_110 rfl (n_iload c_67_111 rfl (n_bipush c_67_113 rfl (n_i_ishl c_67_115 rfl (n_i_ior c_67_116 rfl ?_)))))))))))
            refine n_iastore41 hS c_67_117 (by omega) (ckey_mk (by omega) (by omega) (by omega)) ?_
            intro M89 eM89 hS89
            refine n_aload_n c_67_118 rfl (n_getR c_67_119 sc_38.n rfl rfl rfl r_38_3 (n_iload_n c_67_122 rfl (n_iload c_67_123 rfl (n_iastoreV hS89 c_67_125 sc_42.n rfl (by omega) (w_42 (by omega) (by omega)) ?_))))
            intro M90 eM90 hS90
            refine n_iinc (L2 := [some (2, 38), some (0, (x1 + 1)), some (0, 8), some (0, x3), some (0, x4), none, some (0, x6), some (0, z83)]) c_67_126 rfl rfl rfl (n_fg (le_s (le_s (le_s (le_s (le_s (le_n (le_s (le_n le_0)))))))) ?_)
            exact ih.2.2.2.2 _ _ _ _ _ M90 hS90 (by omega) (by omega) (by omega) (by omega) (by omega) (by omega) (by omega) (by omega) (by omega) (by omega) (by omega)
    · intro x1 x2 x3 x4 x6 M hS k1 k2 k3 k4 k6 v0 v1 v2 v3 v4 hnn
      rcases (show x2 = 0 ∨ x2 = 1 ∨ x2 = 2 ∨ x2 = 3 ∨ x2 = 4 ∨ x2 = 5 ∨ x2 = 6 ∨ x2 = 7 ∨ x2 = 8 by omega) with rfl | rfl | rfl | rfl | rfl | rfl | rfl | rfl | rfl
      · skip
        refine n_iinc (L2 := [some (2, 38), some (0, x1), some (0, 0), some (0, x3), some (0, x4), none, some (0, (x6 + 1)), none]) c_67_129 rfl rfl rfl (n_goto c_67_132 (n_fg (le_s (le_s (le_s (le_s (le_s (le_n (le_s (le_n le_0)))))))) ?_))
        exact ih.2.2.2.1 _ _ _ _ _ M hS (by omega) (by omega) (by omega) (by omega) (by omega) (by omega) (by omega) (by omega) (by omega) (by omega)
      · skip
        refine n_iinc (L2 := [some (2, 38), some (0, x1), some (0, 1), some (0, x3), some (0, x4), none, some (0, (x6 + 1)), none]) c_67_129 rfl rfl rfl (n_goto c_67_132 (n_fg (le_s (le_s (le_s (le_s (le_s (le_n (le_s (le_n le_0)))))))) ?_))
        exact ih.2.2.2.1 _ _ _ _ _ M hS (by omega) (by omega) (by omega) (by omega) (by omega) (by omega) (by omega) (by omega) (by omega) (by omega)
      · skip
        refine n_iinc (L2 := [some (2, 38), some (0, x1), some (0, 2), some (0, x3), some (0, x4), none, some (0, (x6 + 1)), none]) c_67_129 rfl rfl rfl (n_goto c_67_132 (n_fg (le_s (le_s (le_s (le_s (le_s (le_n (le_s (le_n le_0)))))))) ?_))
        exact ih.2.2.2.1 _ _ _ _ _ M hS (by omega) (by omega) (by omega) (by omega) (by omega) (by omega) (by omega) (by omega) (by omega) (by omega)
      · skip
        refine n_iinc (L2 := [some (2, 38), some (0, x1), some (0, 3), some (0, x3), some (0, x4), none, some (0, (x6 + 1)), none]) c_67_129 rfl rfl rfl (n_goto c_67_132 (n_fg (le_s (le_s (le_s (le_s (le_s (le_n (le_s (le_n le_0)))))))) ?_))
        exact ih.2.2.2.1 _ _ _ _ _ M hS (by omega) (by omega) (by omega) (by omega) (by omega) (by omega) (by omega) (by omega) (by omega) (by omega)
      · skip
        refine n_iinc (L2 := [some (2, 38), some (0, x1), some (0, 4), some (0, x3), some (0, x4), none, some (0, (x6 + 1)), none]) c_67_129 rfl rfl rfl (n_goto c_67_132 (n_fg (le_s (le_s (le_s (le_s (le_s (le_n (le_s (le_n le_0)))))))) ?_))
        exact ih.2.2.2.1 _ _ _ _ _ M hS (by omega) (by omega) (by omega) (by omega) (by omega) (by omega) (by omega) (by omega) (by omega) (by omega)
      · skip
        refine n_iinc (L2 := [some (2, 38), some (0, x1), some (0, 5), some (0, x3), some (0, x4), none, some (0, (x6 + 1)), none]) c_67_129 rfl rfl rfl (n_goto c_67_132 (n_fg (le_s (le_s (le_s (le_s (le_s (le_n (le_s (le_n le_0)))))))) ?_))
        exact ih.2.2.2.1 _ _ _ _ _ M hS (by omega) (by omega) (by omega) (by omega) (by omega) (by omega) (by omega) (by omega) (by omega) (by omega)
      · skip
        refine n_iinc (L2 := [some (2, 38), some (0, x1), some (0, 6), some (0, x3), some (0, x4), none, some (0, (x6 + 1)), none]) c_67_129 rfl rfl rfl (n_goto c_67_132 (n_fg (le_s (le_s (le_s (le_s (le_s (le_n (le_s (le_n le_0)))))))) ?_))
        exact ih.2.2.2.1 _ _ _ _ _ M hS (by omega) (by omega) (by omega) (by omega) (by omega) (by omega) (by omega) (by omega) (by omega) (by omega)
      · skip
        refine n_iinc (L2 := [some (2, 38), some (0, x1), some (0, 7), some (0, x3), some (0, x4), none, some (0, (x6 + 1)), none]) c_67_129 rfl rfl rfl (n_goto c_67_132 (n_fg (le_s (le_s (le_s (le_s (le_s (le_n (le_s (le_n le_0)))))))) ?_))
        exact ih.2.2.2.1 _ _ _ _ _ M hS (by omega) (by omega) (by omega) (by omega) (by omega) (by omega) (by omega) (by omega) (by omega) (by omega)
      · skip
        refine n_iinc (L2 := [some (2, 38), some (0, x1), some (0, 8), some (0, x3), some (0, x4), none, some (0, (x6 + 1)), none]) c_67_129 rfl rfl rfl (n_goto c_67_132 (n_fg (le_s (le_s (le_s (le_s (le_s (le_n (le_s (le_n le_0)))))))) ?_))
        exact ih.2.2.2.1 _ _ _ _ _ M hS (by omega) (by omega) (by omega) (by omega) (by omega) (by omega) (by omega) (by omega) (by omega) (by omega)
set_option maxHeartbeats 4000000 in
theorem order_2 {xs : List Int32} {e : Nat} {ac : Int} {M0 M : nM} (hS : Sf 2 ac M0 M)  : nW xs e 67 0 [some (2, 38), none, none, none, none, none, none, none] [] M (nPV fun M1 => Sf 2 ac M0 M1) := by
  have hd : (2 : Int) = 2 ∨ (2 : Int) = 3 := by decide
  have hac := hS.2.2.2.2
  refine n_iconst c_67_0 (n_istore_n (L2 := [some (2, 38), some (0, 0), none, none, none, none, none, none]) c_67_1 rfl rfl (n_iconst c_67_2 (n_istore_n (L2 := [some (2, 38), some (0, 0), some (0, 0), none, none, none, none, none]) c_67_3 rfl rfl (n_fg (le_s (le_s (le_s (le_n (le_n (le_n (le_n (le_n le_0)))))))) ?_))))
  exact (order_2_c hS  61500).1 _ _ M hS (by omega) (by omega) (by omega) (by omega)
