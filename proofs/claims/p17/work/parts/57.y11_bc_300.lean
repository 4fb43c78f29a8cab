/-! What the methods tell. -/
set_option maxHeartbeats 4000000 in
theorem bitCountX_3 {xs : List Int32} {e : Nat} {ac : Int} {M0 M : nM} {x : Int} (hS : Sf 3 ac M0 M) (hx : -9223372036854775808 ≤ x ∧ x ≤ 9223372036854775807) : nW xs e 203 0 [some (1, x), none] [] M (nPI fun z M1 => M = M1 ∧ (0 ≤ z ∧ z ≤ 127) ∧ (z = cf (bbt (un x)) 64)) := by
  have hd : (3 : Int) = 2 ∨ (3 : Int) = 3 := by decide
  have hac := hS.2.2.2.2
  refine n_lload_n c_203_0 rfl (n_lload_n c_203_1 rfl (n_iconst c_203_2 (n_i_lushr c_203_3 rfl ?_)))
  have f1 := n_lushr_r x 1
  generalize gz2 : (n_lushr x 1) = z2 at f1 ⊢
  refine n_ldc2 (n := 6148914691236517205) c_203_4 rfl (n_i_land c_203_7 rfl ?_)
  have f3 := n_land_r z2 6148914691236517205
  generalize gz4 : (n_land z2 6148914691236517205) = z4 at f3 ⊢
  refine n_lsub c_203_8 rfl (n_wrapl ?_)
  have f5 := n_wl_r (x - z4)
  generalize gz6 : n_wl (x - z4) = z6 at f5 ⊢
  refine n_lstore_n (L2 := [some (1, z6), none]) c_203_9 rfl rfl (n_lload_n c_203_10 rfl (n_ldc2 (n := 3689348814741910323) c_203_11 rfl (n_i_land c_203_14 rfl ?_)))
  have f7 := n_land_r z6 3689348814741910323
  generalize gz8 : (n_land z6 3689348814741910323) = z8 at f7 ⊢
  refine n_lload_n c_203_15 rfl (n_iconst c_203_16 (n_i_lushr c_203_17 rfl ?_))
  have f9 := n_lushr_r z6 2
  generalize gz10 : (n_lushr z6 2) = z10 at f9 ⊢
  refine n_ldc2 (n := 3689348814741910323) c_203_18 rfl (n_i_land c_203_21 rfl ?_)
  have f11 := n_land_r z10 3689348814741910323
  generalize gz12 : (n_land z10 3689348814741910323) = z12 at f11 ⊢
  refine n_ladd c_203_22 rfl (n_wrapl ?_)
  have f13 := n_wl_r (z8 + z12)
  generalize gz14 : n_wl (z8 + z12) = z14 at f13 ⊢
  refine n_lstore_n (L2 := [some (1, z14), none]) c_203_23 rfl rfl (n_lload_n c_203_24 rfl (n_lload_n c_203_25 rfl (n_iconst c_203_26 (n_i_lushr c_203_27 rfl ?_))))
  have f15 := n_lushr_r z14 4
  generalize gz16 : (n_lushr z14 4) = z16 at f15 ⊢
  refine n_ladd c_203_28 rfl (n_wrapl ?_)
  have f17 := n_wl_r (z14 + z16)
  generalize gz18 : n_wl (z14 + z16) = z18 at f17 ⊢
  refine n_ldc2 (n := 1085102592571150095) c_203_29 rfl (n_i_land c_203_32 rfl ?_)
  have f19 := n_land_r z18 1085102592571150095
  generalize gz20 : (n_land z18 1085102592571150095) = z20 at f19 ⊢
  refine n_lstore_n (L2 := [some (1, z20), none]) c_203_33 rfl rfl (n_lload_n c_203_34 rfl (n_lload_n c_203_35 rfl (n_bipush c_203_36 rfl (n_i_lushr c_203_38 rfl ?_))))
  have f21 := n_lushr_r z20 8
  generalize gz22 : (n_lushr z20 8) = z22 at f21 ⊢
  refine n_ladd c_203_39 rfl (n_wrapl ?_)
  have f23 := n_wl_r (z20 + z22)
  generalize gz24 : n_wl (z20 + z22) = z24 at f23 ⊢
  refine n_lstore_n (L2 := [some (1, z24), none]) c_203_40 rfl rfl (n_lload_n c_203_41 rfl (n_lload_n c_203_42 rfl (n_bipush c_203_43 rfl (n_i_lushr c_203_45 rfl ?_))))
  have f25 := n_lushr_r z24 16
  generalize gz26 : (n_lushr z24 16) = z26 at f25 ⊢
  refine n_ladd c_203_46 rfl (n_wrapl ?_)
  have f27 := n_wl_r (z24 + z26)
  generalize gz28 : n_wl (z24 + z26) = z28 at f27 ⊢
  refine n_lstore_n (L2 := [some (1, z28), none]) c_203_47 rfl rfl (n_lload_n c_203_48 rfl (n_lload_n c_203_49 rfl (n_bipush c_203_50 rfl (n_i_lushr c_203_52 rfl ?_))))
  have f29 := n_lushr_r z28 32
  generalize gz30 : (n_lushr z28 32) = z30 at f29 ⊢
  refine n_ladd c_203_53 rfl (n_wrapl ?_)
  have f31 := n_wl_r (z28 + z30)
  generalize gz32 : n_wl (z28 + z30) = z32 at f31 ⊢
  refine n_lstore_n (L2 := [some (1, z32), none]) c_203_54 rfl rfl (n_lload_n c_203_55 rfl (n_l2i c_203_56 (n_wrap ?_)))
  have f33 := n_wr_r z32
  generalize gz34 : n_wr z32 = z34 at f33 ⊢
  refine n_bipush c_203_57 rfl (n_i_iand c_203_59 rfl ?_)
  have f35 := n_and_y (x := z34) (y := 127) (by omega)
  generalize gz36 : (n_and z34 127) = z36 at f35 ⊢
  exact n_rI c_203_60 rfl ⟨rfl, by omega, by have q := swar gz2 gz4 gz6 gz8 gz10 gz12 gz14 gz16 gz18 gz20 gz22 gz24 gz26 gz28 gz30; have y := and127 z32; rw [← gz36, ← gz34, y, ← gz32]; exact q⟩

set_option maxHeartbeats 4000000 in
theorem nthBitX46_3_c {xs : List Int32} {e : Nat} {ac : Int} {M0 M : nM} {w n : Int} (hS : Sf 3 ac M0 M) (hw : -9223372036854775808 ≤ w ∧ w ≤ 9223372036854775807) (hn : 0 ≤ n ∧ n ≤ 63) (hn2 : n < cf (bbt (un w)) 64) : ∀ nn : Nat, (∀ (x4 x5 : Int), (0 ≤ x4 ∧ x4 ≤ 63) → (0 ≤ x5 ∧ x5 ≤ 64) → (x4 + cf (bbt (un w)) x5.toNat = n) → (0 ≤ x4) → (64 - x5) * 1 + 1 < (nn : Int) → nW xs e 34 6 [none, some (1, w), none, none, some (0, x4), some (0, x5)] [] M (nPI fun z M1 => M = M1 ∧ (-2147483648 ≤ z ∧ z ≤ 2147483647) ∧ (NB1 (un w) n z))) := by
  have hd : (3 : Int) = 2 ∨ (3 : Int) = 3 := by decide
  have hac := hS.2.2.2.2
  intro nn
  induction nn with
  | zero => intros; omega
  | succ nn ih =>
    intro x4 x5 k4 k5 v0 v1 hnn
    refine n_iload c_34_6 rfl (n_bipush c_34_8 rfl ?_)
    refine n_if2_ge c_34_10 (by omega) (by omega) ?_ ?_
    · intro h1
      refine n_iconst c_34_41 ?_
      exact n_rI c_34_42 rfl ⟨rfl, by omega, by exfalso; have e : x5 = 64 := (by omega); rw [e] at v0; have y : cf (bbt (un w)) (64 : Int).toNat = cf (bbt (un w)) 64 := rfl; omega⟩
    · intro h2
      refine n_lload_n c_34_13 rfl (n_iload c_34_14 rfl (n_i_lushr c_34_16 rfl ?_))
      have f3 := n_lushr_r w x5
      generalize gz4 : (n_lushr w x5) = z4 at f3 ⊢
      refine n_lconst (n := 1) c_34_17 rfl (n_i_land c_34_18 rfl ?_)
      have f5 := n_land_r z4 1
      generalize gz6 : (n_land z4 1) = z6 at f5 ⊢
      have hb : z6 = bbt (un w) x5 := by rw [← gz6, ← gz4]; exact lbit_v (by omega)
      have hbr := bbt_r (un w) x5
      refine n_lconst (n := 0) c_34_19 rfl (n_lcmp c_34_20 ?_)
      refine n_lif_eq c_34_21 (by omega) (by omega) ?_ ?_
      · intro h7
        refine n_iinc (L2 := [none, some (1, w), none, none, some (0, x4), some (0, (x5 + 1))]) c_34_35 rfl rfl rfl (n_goto c_34_38 (n_fg (le_n (le_s (le_n (le_n (le_s (le_s le_0)))))) ?_))
        exact ih _ _ (by omega) (by omega) (by rw [cf_step (by omega)]; omega) (by omega) (by omega)
      · intro h8
        refine n_iload c_34_24 rfl ?_
        refine n_if0_ne c_34_26 (by omega) ?_ ?_
        · intro h9
          refine n_iinc (L2 := [none, some (1, w), none, none, some (0, (x4 + (-1))), some (0, x5)]) c_34_32 rfl rfl rfl (n_iinc (L2 := [none, some (1, w), none, none, some (0, (x4 + (-1))), some (0, (x5 + 1))]) c_34_35 rfl rfl rfl (n_goto c_34_38 (n_fg (le_n (le_s (le_n (le_n (le_s (le_s le_0)))))) ?_)))
          exact ih _ _ (by omega) (by omega) (by rw [cf_step (by omega)]; omega) (by omega) (by omega)
        · intro h10
          refine n_iload c_34_29 rfl ?_
          exact n_rI c_34_31 rfl ⟨rfl, by omega, by exact ⟨by omega, by omega, by omega, by omega⟩⟩
set_option maxHeartbeats 4000000 in
theorem nthBitX46_3 {xs : List Int32} {e : Nat} {ac : Int} {M0 M : nM} {w n : Int} (hS : Sf 3 ac M0 M) (hw : -9223372036854775808 ≤ w ∧ w ≤ 9223372036854775807) (hn : 0 ≤ n ∧ n ≤ 63) (hn2 : n < cf (bbt (un w)) 64) : nW xs e 34 0 [some (2, 46), some (1, w), none, some (0, n), none, none] [] M (nPI fun z M1 => M = M1 ∧ (-2147483648 ≤ z ∧ z ≤ 2147483647) ∧ (NB1 (un w) n z)) := by
  have hd : (3 : Int) = 2 ∨ (3 : Int) = 3 := by decide
  have hac := hS.2.2.2.2
  refine n_iload_n c_34_0 rfl (n_istore (L2 := [some (2, 46), some (1, w), none, some (0, n), some (0, n), none]) c_34_1 rfl rfl (n_iconst c_34_3 (n_istore (L2 := [some (2, 46), some (1, w), none, some (0, n), some (0, n), some (0, 0)]) c_34_4 rfl rfl (n_fg (le_n (le_s (le_n (le_n (le_s (le_s le_0)))))) ?_))))
  exact (nthBitX46_3_c hS hw hn hn2 142) _ _ (by omega) (by omega) (by show n + 0 = n; omega) (by omega) (by omega)

set_option maxHeartbeats 4000000 in
theorem nthX46_3_c {xs : List Int32} {e : Nat} {ac : Int} {M0 M : nM} {i : Int} (hS : Sf 3 ac M0 M) (hi : -2147483648 ≤ i ∧ i ≤ 2147483647) (hct : cf (wbt M 47) 19712 = M 46 1) : ∀ nn : Nat, (∀ (x2 x3 : Int), (0 ≤ x2 ∧ x2 ≤ 19712) → (0 ≤ x3 ∧ x3 ≤ 308) → (x2 + cf (wbt M 47) (64 * x3).toNat = i) → (i < M 46 1) → (0 ≤ i) → (308 - x3) * 1 + 1 < (nn : Int) → nW xs (e + 1) 33 18 [some (2, 46), none, some (0, x2), some (0, x3), none] [] M (nPI fun z M1 => M = M1 ∧ (-2147483648 ≤ z ∧ z ≤ 2147483647) ∧ (Nth M 46 i z 19712))) := by
  have hd : (3 : Int) = 2 ∨ (3 : Int) = 3 := by decide
  have hac := hS.2.2.2.2
  have hcr := (cf_r (f := wbt M 47) (fun m => wbt_r M 47 m) 19712).2
  intro nn
  induction nn with
  | zero => intros; omega
  | succ nn ih =>
    intro x2 x3 k2 k3 v0 v1 v2 hnn
    refine n_iload_n c_33_18 rfl (n_aload_n c_33_19 rfl (n_getR c_33_20 sc_46.n rfl rfl rfl r_46_0 (n_alen c_33_23 sc_47.n rfl ?_)))
    refine n_if2_ge c_33_24 (by omega) (by omega) ?_ ?_
    · intro h1
      refine n_iconst c_33_72 ?_
      exact n_rI c_33_73 rfl ⟨rfl, by omega, by exfalso; have e : x3 = 308 := (by omega); rw [e] at v0; have y : cf (wbt M 47) (64 * (308 : Int)).toNat = cf (wbt M 47) 19712 := rfl; omega⟩
    · intro h2
      refine n_aload_n c_33_27 rfl (n_getR c_33_28 sc_46.n rfl rfl rfl r_46_0 (n_iload_n c_33_31 rfl (n_laloadV c_33_32 sc_47.n rfl rfl rfl (by omega) (t_47 hS (by omega)) ?_)))
      intro z3 ez3 f4
      refine n_s1I c_33_33 rfl rfl rfl rfl (bitCountX_3 (x := z3) hS (by omega)) ?_
      intro z5 M6 hP7
      obtain ⟨eM, f7, f7p0⟩ := hP7
      subst eM
      have bc : z5 = cf (bbt (un (M 47 x3))) 64 := by rw [f7p0, ez3]
      have cw := cf_w (M := M) (c := 47) (w := x3) (by omega) 64 (by omega)
      rw [show (64 * x3).toNat + 64 = (64 * (x3 + 1)).toNat by omega] at cw
      have bcr := (cf_r (f := bbt (un (M 47 x3))) (fun m => bbt_r _ m) 64).2
      refine n_istore (L2 := [some (2, 46), none, some (0, x2), some (0, x3), some (0, z5)]) c_33_36 rfl rfl (n_iload_n c_33_38 rfl (n_iload c_33_39 rfl ?_))
      refine n_if2_ge c_33_41 (by omega) (by omega) ?_ ?_
      · intro h8
        refine n_iload_n c_33_61 rfl (n_iload c_33_62 rfl (n_isub c_33_64 rfl (n_istore_n (L2 := [some (2, 46), none, some (0, (x2 - z5)), some (0, x3), some (0, z5)]) c_33_65 rfl rfl (n_iinc (L2 := [some (2, 46), none, some (0, (x2 - z5)), some (0, (x3 + 1)), some (0, z5)]) c_33_66 rfl rfl rfl (n_goto c_33_69 (n_fg (le_s (le_n (le_s (le_s (le_n le_0))))) ?_))))))
        exact ih _ _ (by omega) (by omega) (by omega) (by omega) (by omega) (by omega)
      · intro h9
        refine n_iload_n c_33_44 rfl (n_bipush c_33_45 rfl (n_imul c_33_47 rfl (n_aload_n c_33_48 rfl (n_aload_n c_33_49 rfl (n_getR c_33_50 sc_46.n rfl rfl rfl r_46_0 (n_iload_n c_33_53 rfl (n_laloadV c_33_54 sc_47.n rfl rfl rfl (by omega) (t_47 hS (by omega)) ?_)))))))
        intro z10 ez10 f11
        have bc2 : z5 = cf (bbt (un z10)) 64 := by rw [ez10]; exact bc
        refine n_iload_n c_33_55 rfl (n_v2I c_33_56 rfl sc_46.n rfl rfl rfl rfl (nthBitX46_3 (w := z10) (n := x2) hS (by omega) (by omega) (by omega)) ?_)
        intro z12 M13 hP14
        obtain ⟨eM, f14, f14p0⟩ := hP14
        subst eM
        have nz : 0 ≤ z12 ∧ z12 ≤ 63 := ⟨f14p0.1, by have y := f14p0.2.1; omega⟩
        refine n_iadd c_33_59 rfl ?_
        exact n_rI c_33_60 rfl ⟨rfl, by omega, by obtain ⟨n0, n1, n2, n3⟩ := f14p0; rw [ez10] at n2 n3; exact Or.inr ⟨by omega, by omega, by omega, by rw [show x3 * 64 + z12 = 64 * x3 + z12 by omega, show 46 + 1 = (47 : Int) from rfl, wbt_64 (by omega) ⟨n0, n1⟩]; exact n2, by have y := cf_w (M := M) (c := 47) (w := x3) (by omega) z12.toNat (by omega); rw [show (x3 * 64 + z12).toNat = (64 * x3).toNat + z12.toNat by omega]; show cf (wbt M 47) _ = i; rw [y, n3]; omega⟩⟩
set_option maxHeartbeats 4000000 in
theorem nthX46_3 {xs : List Int32} {e : Nat} {ac : Int} {M0 M : nM} {i : Int} (hS : Sf 3 ac M0 M) (hi : -2147483648 ≤ i ∧ i ≤ 2147483647) (hct : cf (wbt M 47) 19712 = M 46 1) : nW xs (e + 1) 33 0 [some (2, 46), some (0, i), none, none, none] [] M (nPI fun z M1 => M = M1 ∧ (-2147483648 ≤ z ∧ z ≤ 2147483647) ∧ (Nth M 46 i z 19712)) := by
  have hd : (3 : Int) = 2 ∨ (3 : Int) = 3 := by decide
  have hac := hS.2.2.2.2
  have hcr := (cf_r (f := wbt M 47) (fun m => wbt_r M 47 m) 19712).2
  refine n_iload_n c_33_0 rfl ?_
  refine n_if0_lt c_33_1 (by omega) ?_ ?_
  · intro h1
    refine n_iconst c_33_12 ?_
    exact n_rI c_33_13 rfl ⟨rfl, by omega, by exact Or.inl ⟨by omega, rfl⟩⟩
  · intro h2
    refine n_iload_n c_33_4 rfl (n_aload_n c_33_5 rfl (n_getV (bi := 1) c_33_6 sc_46.n rfl rfl rfl (t_46_1 hS) ?_))
    intro z3 ez3 f4
    refine n_if2_lt c_33_9 (by omega) (by omega) ?_ ?_
    · intro h5
      refine n_iload_n c_33_14 rfl (n_istore_n (L2 := [some (2, 46), some (0, i), some (0, i), none, none]) c_33_15 rfl rfl (n_iconst c_33_16 (n_istore_n (L2 := [some (2, 46), some (0, i), some (0, i), some (0, 0), none]) c_33_17 rfl rfl (n_fg (le_s (le_n (le_s (le_s (le_n le_0))))) ?_))))
      exact (nthX46_3_c hS hi hct 630) _ _ (by omega) (by omega) (by show i + 0 = i; omega) (by omega) (by omega) (by omega)
    · intro h6
      refine n_iconst c_33_12 ?_
      exact n_rI c_33_13 rfl ⟨rfl, by omega, by exact Or.inl ⟨by omega, rfl⟩⟩
