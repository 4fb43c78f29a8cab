/-! What the methods tell. -/
set_option maxHeartbeats 4000000 in
theorem imageXH1_2 {xs : List Int32} {e : Nat} {ac : Int} {M0 M : nM} {m f x y z0 : Int} (hS : Sf 2 ac M0 M) (hdm : M0 112 0 = 2) (hm : 1 ≤ m ∧ m ≤ 3) (hf : 0 ≤ f ∧ f ≤ 0) (hx : 0 ≤ x ∧ x ≤ 26) (hy : 0 ≤ y ∧ y ≤ 26) (hz0 : 0 ≤ z0 ∧ z0 ≤ 26) : nW xs (e + 1) 153 0 [some (2, 112), some (0, m), some (2, 127), some (0, f), some (0, 1), some (0, x), some (0, y), some (0, z0), none, none, none, none] [] M (nPI fun z M1 => M = M1 ∧ (0 ≤ z ∧ z ≤ 26) ∧ (z = im 2 m (fun i => M 127 (f + i)) 1 x y z0)) := by
  have hd : (2 : Int) = 2 ∨ (2 : Int) = 3 := by decide
  have hac := hS.2.2.2.2
  refine n_iconst c_153_0 (n_istore (L2 := [some (2, 112), some (0, m), some (2, 127), some (0, f), some (0, 1), some (0, x), some (0, y), some (0, z0), some (0, 0), none, none, none]) c_153_1 rfl rfl (n_aload_n c_153_3 rfl (n_getV (bi := 0) c_153_4 sc_112.n rfl rfl rfl (t_dm hS hdm) ?_)))
  intro z1 ez1 f2
  obtain rfl : z1 = 2 := by omega
  refine n_iload c_153_7 rfl (n_iconst c_153_9 (n_isub c_153_10 rfl ?_))
  have hcst : ((1 - 1) : Int) = 0 := by omega
  rw [hcst]
  refine n_s2I c_153_11 rfl rfl rfl rfl (mpower0_2  hS ) ?_
  intro z3 M4 hP5
  obtain ⟨eM, f5⟩ := hP5
  subst eM
  obtain rfl : z3 = 1 := by omega
  refine n_istore (L2 := [some (2, 112), some (0, m), some (2, 127), some (0, f), some (0, 1), some (0, x), some (0, y), some (0, z0), some (0, 0), some (0, 1), none, none]) c_153_14 rfl rfl (n_iconst c_153_16 (n_istore (L2 := [some (2, 112), some (0, m), some (2, 127), some (0, f), some (0, 1), some (0, x), some (0, y), some (0, z0), some (0, 0), some (0, 1), some (0, 0), none]) c_153_17 rfl rfl (n_iload c_153_19 rfl (n_iload c_153_21 rfl ?_))))
  refine n_if2_ge c_153_23 (by omega) (by omega) ?_ ?_
  · intro h6
    exfalso; omega
  · intro h7
    refine n_iload c_153_26 rfl (n_iload c_153_28 rfl (n_idivV c_153_30 (by omega) (by omega) ?_))
    intro z8 ez8 f9
    refine n_aload_n c_153_31 rfl (n_getV (bi := 0) c_153_32 sc_112.n rfl rfl rfl (t_dm hS hdm) ?_)
    intro z10 ez10 f11
    obtain rfl : z10 = 2 := by omega
    refine n_iremV c_153_35 (by omega) (by omega) ?_
    intro z12 ez12 f13
    refine n_istore (L2 := [some (2, 112), some (0, m), some (2, 127), some (0, f), some (0, 1), some (0, x), some (0, y), some (0, z0), some (0, 0), some (0, 1), some (0, 0), some (0, z12)]) c_153_36 rfl rfl (n_iload_n c_153_38 rfl (n_iconst c_153_39 ?_))
    refine n_if2_le c_153_40 (by omega) (by omega) ?_ ?_
    · intro h14
      refine n_iload_n c_153_63 rfl (n_iconst c_153_64 ?_)
      refine n_if2_le c_153_65 (by omega) (by omega) ?_ ?_
      · intro h15
        refine n_iload c_153_88 rfl (n_aload_n c_153_90 rfl (n_getV (bi := 0) c_153_91 sc_112.n rfl rfl rfl (t_dm hS hdm) ?_))
        intro z16 ez16 f17
        obtain rfl : z16 = 2 := by omega
        refine n_imul c_153_94 rfl (n_aload_n c_153_95 rfl (n_iload_n c_153_96 rfl (n_iload c_153_97 rfl (n_iadd c_153_99 rfl (n_ialoadV c_153_100 sc_127.n rfl rfl rfl (by omega) (t_127 hS (by omega)) ?_)))))
        intro z18 ez18 f19
        refine n_iadd c_153_101 rfl (n_istore (L2 := [some (2, 112), some (0, m), some (2, 127), some (0, f), some (0, 1), some (0, x), some (0, y), some (0, z0), some (0, ((0 * 2) + z18)), some (0, 1), some (0, 0), some (0, z12)]) c_153_102 rfl rfl (n_iload c_153_104 rfl (n_aload_n c_153_106 rfl (n_getV (bi := 0) c_153_107 sc_112.n rfl rfl rfl (t_dm hS hdm) ?_))))
        intro z20 ez20 f21
        obtain rfl : z20 = 2 := by omega
        refine n_idivT (z := 0) c_153_110 (by omega) (by omega) (by omega) (by decide) ?_
        refine n_istore (L2 := [some (2, 112), some (0, m), some (2, 127), some (0, f), some (0, 1), some (0, x), some (0, y), some (0, z0), some (0, ((0 * 2) + z18)), some (0, 0), some (0, 0), some (0, z12)]) c_153_111 rfl rfl (n_iinc (L2 := [some (2, 112), some (0, m), some (2, 127), some (0, f), some (0, 1), some (0, x), some (0, y), some (0, z0), some (0, ((0 * 2) + z18)), some (0, 0), some (0, (0 + 1)), some (0, z12)]) c_153_113 rfl rfl rfl (n_goto c_153_116 (n_iload c_153_19 rfl (n_iload c_153_21 rfl ?_))))
        refine n_if2_ge c_153_23 (by omega) (by omega) ?_ ?_
        · intro h22
          refine n_iload c_153_119 rfl ?_
          exact n_rI c_153_121 rfl ⟨rfl, by omega, by obtain rfl : m = 1 := (by omega); subst_vars; show _ = M 127 (f + x % 2); simp only [Int.ediv_one]; omega⟩
        · intro h23
          exfalso; omega
      · intro h24
        exfalso; omega
    · intro h25
      refine n_iload c_153_43 rfl (n_aload_n c_153_45 rfl (n_getV (bi := 0) c_153_46 sc_112.n rfl rfl rfl (t_dm hS hdm) ?_))
      intro z26 ez26 f27
      obtain rfl : z26 = 2 := by omega
      refine n_imul c_153_49 rfl (n_iload c_153_50 rfl (n_iload c_153_52 rfl (n_idivV c_153_54 (by omega) (by omega) ?_)))
      intro z28 ez28 f29
      refine n_aload_n c_153_55 rfl (n_getV (bi := 0) c_153_56 sc_112.n rfl rfl rfl (t_dm hS hdm) ?_)
      intro z30 ez30 f31
      obtain rfl : z30 = 2 := by omega
      refine n_iremV c_153_59 (by omega) (by omega) ?_
      intro z32 ez32 f33
      refine n_iadd c_153_60 rfl (n_istore (L2 := [some (2, 112), some (0, m), some (2, 127), some (0, f), some (0, 1), some (0, x), some (0, y), some (0, z0), some (0, 0), some (0, 1), some (0, 0), some (0, ((z12 * 2) + z32))]) c_153_61 rfl rfl (n_iload_n c_153_63 rfl (n_iconst c_153_64 ?_)))
      refine n_if2_le c_153_65 (by omega) (by omega) ?_ ?_
      · intro h34
        refine n_iload c_153_88 rfl (n_aload_n c_153_90 rfl (n_getV (bi := 0) c_153_91 sc_112.n rfl rfl rfl (t_dm hS hdm) ?_))
        intro z35 ez35 f36
        obtain rfl : z35 = 2 := by omega
        refine n_imul c_153_94 rfl (n_aload_n c_153_95 rfl (n_iload_n c_153_96 rfl (n_iload c_153_97 rfl (n_iadd c_153_99 rfl (n_ialoadV c_153_100 sc_127.n rfl rfl rfl (by omega) (t_127 hS (by omega)) ?_)))))
        intro z37 ez37 f38
        refine n_iadd c_153_101 rfl (n_istore (L2 := [some (2, 112), some (0, m), some (2, 127), some (0, f), some (0, 1), some (0, x), some (0, y), some (0, z0), some (0, ((0 * 2) + z37)), some (0, 1), some (0, 0), some (0, ((z12 * 2) + z32))]) c_153_102 rfl rfl (n_iload c_153_104 rfl (n_aload_n c_153_106 rfl (n_getV (bi := 0) c_153_107 sc_112.n rfl rfl rfl (t_dm hS hdm) ?_))))
        intro z39 ez39 f40
        obtain rfl : z39 = 2 := by omega
        refine n_idivT (z := 0) c_153_110 (by omega) (by omega) (by omega) (by decide) ?_
        refine n_istore (L2 := [some (2, 112), some (0, m), some (2, 127), some (0, f), some (0, 1), some (0, x), some (0, y), some (0, z0), some (0, ((0 * 2) + z37)), some (0, 0), some (0, 0), some (0, ((z12 * 2) + z32))]) c_153_111 rfl rfl (n_iinc (L2 := [some (2, 112), some (0, m), some (2, 127), some (0, f), some (0, 1), some (0, x), some (0, y), some (0, z0), some (0, ((0 * 2) + z37)), some (0, 0), some (0, (0 + 1)), some (0, ((z12 * 2) + z32))]) c_153_113 rfl rfl rfl (n_goto c_153_116 (n_iload c_153_19 rfl (n_iload c_153_21 rfl ?_))))
        refine n_if2_ge c_153_23 (by omega) (by omega) ?_ ?_
        · intro h41
          refine n_iload c_153_119 rfl ?_
          exact n_rI c_153_121 rfl ⟨rfl, by omega, by obtain rfl : m = 2 := (by omega); subst_vars; show _ = M 127 (f + (x % 2 * 2 + y % 2)); simp only [Int.ediv_one]; omega⟩
        · intro h42
          exfalso; omega
      · intro h43
        refine n_iload c_153_68 rfl (n_aload_n c_153_70 rfl (n_getV (bi := 0) c_153_71 sc_112.n rfl rfl rfl (t_dm hS hdm) ?_))
        intro z44 ez44 f45
        obtain rfl : z44 = 2 := by omega
        refine n_imul c_153_74 rfl (n_iload c_153_75 rfl (n_iload c_153_77 rfl (n_idivV c_153_79 (by omega) (by omega) ?_)))
        intro z46 ez46 f47
        refine n_aload_n c_153_80 rfl (n_getV (bi := 0) c_153_81 sc_112.n rfl rfl rfl (t_dm hS hdm) ?_)
        intro z48 ez48 f49
        obtain rfl : z48 = 2 := by omega
        refine n_iremV c_153_84 (by omega) (by omega) ?_
        intro z50 ez50 f51
        refine n_iadd c_153_85 rfl (n_istore (L2 := [some (2, 112), some (0, m), some (2, 127), some (0, f), some (0, 1), some (0, x), some (0, y), some (0, z0), some (0, 0), some (0, 1), some (0, 0), some (0, ((((z12 * 2) + z32) * 2) + z50))]) c_153_86 rfl rfl (n_iload c_153_88 rfl (n_aload_n c_153_90 rfl (n_getV (bi := 0) c_153_91 sc_112.n rfl rfl rfl (t_dm hS hdm) ?_))))
        intro z52 ez52 f53
        obtain rfl : z52 = 2 := by omega
        refine n_imul c_153_94 rfl (n_aload_n c_153_95 rfl (n_iload_n c_153_96 rfl (n_iload c_153_97 rfl (n_iadd c_153_99 rfl (n_ialoadV c_153_100 sc_127.n rfl rfl rfl (by omega) (t_127 hS (by omega)) ?_)))))
        intro z54 ez54 f55
        refine n_iadd c_153_101 rfl (n_istore (L2 := [some (2, 112), some (0, m), some (2, 127), some (0, f), some (0, 1), some (0, x), some (0, y), some (0, z0), some (0, ((0 * 2) + z54)), some (0, 1), some (0, 0), some (0, ((((z12 * 2) + z32) * 2) + z50))]) c_153_102 rfl rfl (n_iload c_153_104 rfl (n_aload_n c_153_106 rfl (n_getV (bi := 0) c_153_107 sc_112.n rfl rfl rfl (t_dm hS hdm) ?_))))
        intro z56 ez56 f57
        obtain rfl : z56 = 2 := by omega
        refine n_idivT (z := 0) c_153_110 (by omega) (by omega) (by omega) (by decide) ?_
        refine n_istore (L2 := [some (2, 112), some (0, m), some (2, 127), some (0, f), some (0, 1), some (0, x), some (0, y), some (0, z0), some (0, ((0 * 2) + z54)), some (0, 0), some (0, 0), some (0, ((((z12 * 2) + z32) * 2) + z50))]) c_153_111 rfl rfl (n_iinc (L2 := [some (2, 112), some (0, m), some (2, 127), some (0, f), some (0, 1), some (0, x), some (0, y), some (0, z0), some (0, ((0 * 2) + z54)), some (0, 0), some (0, (0 + 1)), some (0, ((((z12 * 2) + z32) * 2) + z50))]) c_153_113 rfl rfl rfl (n_goto c_153_116 (n_iload c_153_19 rfl (n_iload c_153_21 rfl ?_))))
        refine n_if2_ge c_153_23 (by omega) (by omega) ?_ ?_
        · intro h58
          refine n_iload c_153_119 rfl ?_
          exact n_rI c_153_121 rfl ⟨rfl, by omega, by obtain rfl : m = 3 := (by omega); subst_vars; show _ = M 127 (f + ((x % 2 * 2 + y % 2) * 2 + z0 % 2)); simp only [Int.ediv_one]; omega⟩
        · intro h59
          exfalso; omega

set_option maxHeartbeats 4000000 in
theorem imageXH2_2 {xs : List Int32} {e : Nat} {ac : Int} {M0 M : nM} {m f x y z0 : Int} (hS : Sf 2 ac M0 M) (hdm : M0 112 0 = 2) (hm : 1 ≤ m ∧ m ≤ 3) (hf : 0 ≤ f ∧ f ≤ 0) (hx : 0 ≤ x ∧ x ≤ 26) (hy : 0 ≤ y ∧ y ≤ 26) (hz0 : 0 ≤ z0 ∧ z0 ≤ 26) : nW xs (e + 1) 153 0 [some (2, 112), some (0, m), some (2, 127), some (0, f), some (0, 2), some (0, x), some (0, y), some (0, z0), none, none, none, none] [] M (nPI fun z M1 => M = M1 ∧ (0 ≤ z ∧ z ≤ 26) ∧ (z = im 2 m (fun i => M 127 (f + i)) 2 x y z0)) := by
  have hd : (2 : Int) = 2 ∨ (2 : Int) = 3 := by decide
  have hac := hS.2.2.2.2
  refine n_iconst c_153_0 (n_istore (L2 := [some (2, 112), some (0, m), some (2, 127), some (0, f), some (0, 2), some (0, x), some (0, y), some (0, z0), some (0, 0), none, none, none]) c_153_1 rfl rfl (n_aload_n c_153_3 rfl (n_getV (bi := 0) c_153_4 sc_112.n rfl rfl rfl (t_dm hS hdm) ?_)))
  intro z1 ez1 f2
  obtain rfl : z1 = 2 := by omega
  refine n_iload c_153_7 rfl (n_iconst c_153_9 (n_isub c_153_10 rfl ?_))
  have hcst : ((2 - 1) : Int) = 1 := by omega
  rw [hcst]
  refine n_s2I c_153_11 rfl rfl rfl rfl (mpower1_2  hS ) ?_
  intro z3 M4 hP5
  obtain ⟨eM, f5⟩ := hP5
  subst eM
  obtain rfl : z3 = 2 := by omega
  refine n_istore (L2 := [some (2, 112), some (0, m), some (2, 127), some (0, f), some (0, 2), some (0, x), some (0, y), some (0, z0), some (0, 0), some (0, 2), none, none]) c_153_14 rfl rfl (n_iconst c_153_16 (n_istore (L2 := [some (2, 112), some (0, m), some (2, 127), some (0, f), some (0, 2), some (0, x), some (0, y), some (0, z0), some (0, 0), some (0, 2), some (0, 0), none]) c_153_17 rfl rfl (n_iload c_153_19 rfl (n_iload c_153_21 rfl ?_))))
  refine n_if2_ge c_153_23 (by omega) (by omega) ?_ ?_
  · intro h6
    exfalso; omega
  · intro h7
    refine n_iload c_153_26 rfl (n_iload c_153_28 rfl (n_idivV c_153_30 (by omega) (by omega) ?_))
    intro z8 ez8 f9
    refine n_aload_n c_153_31 rfl (n_getV (bi := 0) c_153_32 sc_112.n rfl rfl rfl (t_dm hS hdm) ?_)
    intro z10 ez10 f11
    obtain rfl : z10 = 2 := by omega
    refine n_iremV c_153_35 (by omega) (by omega) ?_
    intro z12 ez12 f13
    refine n_istore (L2 := [some (2, 112), some (0, m), some (2, 127), some (0, f), some (0, 2), some (0, x), some (0, y), some (0, z0), some (0, 0), some (0, 2), some (0, 0), some (0, z12)]) c_153_36 rfl rfl (n_iload_n c_153_38 rfl (n_iconst c_153_39 ?_))
    refine n_if2_le c_153_40 (by omega) (by omega) ?_ ?_
    · intro h14
      refine n_iload_n c_153_63 rfl (n_iconst c_153_64 ?_)
      refine n_if2_le c_153_65 (by omega) (by omega) ?_ ?_
      · intro h15
        refine n_iload c_153_88 rfl (n_aload_n c_153_90 rfl (n_getV (bi := 0) c_153_91 sc_112.n rfl rfl rfl (t_dm hS hdm) ?_))
        intro z16 ez16 f17
        obtain rfl : z16 = 2 := by omega
        refine n_imul c_153_94 rfl (n_aload_n c_153_95 rfl (n_iload_n c_153_96 rfl (n_iload c_153_97 rfl (n_iadd c_153_99 rfl (n_ialoadV c_153_100 sc_127.n rfl rfl rfl (by omega) (t_127 hS (by omega)) ?_)))))
        intro z18 ez18 f19
        refine n_iadd c_153_101 rfl (n_istore (L2 := [some (2, 112), some (0, m), some (2, 127), some (0, f), some (0, 2), some (0, x), some (0, y), some (0, z0), some (0, ((0 * 2) + z18)), some (0, 2), some (0, 0), some (0, z12)]) c_153_102 rfl rfl (n_iload c_153_104 rfl (n_aload_n c_153_106 rfl (n_getV (bi := 0) c_153_107 sc_112.n rfl rfl rfl (t_dm hS hdm) ?_))))
        intro z20 ez20 f21
        obtain rfl : z20 = 2 := by omega
        refine n_idivT (z := 1) c_153_110 (by omega) (by omega) (by omega) (by decide) ?_
        refine n_istore (L2 := [some (2, 112), some (0, m), some (2, 127), some (0, f), some (0, 2), some (0, x), some (0, y), some (0, z0), some (0, ((0 * 2) + z18)), some (0, 1), some (0, 0), some (0, z12)]) c_153_111 rfl rfl (n_iinc (L2 := [some (2, 112), some (0, m), some (2, 127), some (0, f), some (0, 2), some (0, x), some (0, y), some (0, z0), some (0, ((0 * 2) + z18)), some (0, 1), some (0, (0 + 1)), some (0, z12)]) c_153_113 rfl rfl rfl (n_goto c_153_116 (n_iload c_153_19 rfl (n_iload c_153_21 rfl ?_))))
        refine n_if2_ge c_153_23 (by omega) (by omega) ?_ ?_
        · intro h22
          exfalso; omega
        · intro h23
          refine n_iload c_153_26 rfl (n_iload c_153_28 rfl (n_idivV c_153_30 (by omega) (by omega) ?_))
          intro z24 ez24 f25
          refine n_aload_n c_153_31 rfl (n_getV (bi := 0) c_153_32 sc_112.n rfl rfl rfl (t_dm hS hdm) ?_)
          intro z26 ez26 f27
          obtain rfl : z26 = 2 := by omega
          refine n_iremV c_153_35 (by omega) (by omega) ?_
          intro z28 ez28 f29
          refine n_istore (L2 := [some (2, 112), some (0, m), some (2, 127), some (0, f), some (0, 2), some (0, x), some (0, y), some (0, z0), some (0, ((0 * 2) + z18)), some (0, 1), some (0, (0 + 1)), some (0, z28)]) c_153_36 rfl rfl (n_iload_n c_153_38 rfl (n_iconst c_153_39 ?_))
          refine n_if2_le c_153_40 (by omega) (by omega) ?_ ?_
          · intro h30
            refine n_iload_n c_153_63 rfl (n_iconst c_153_64 ?_)
            refine n_if2_le c_153_65 (by omega) (by omega) ?_ ?_
            · intro h31
              refine n_iload c_153_88 rfl (n_aload_n c_153_90 rfl (n_getV (bi := 0) c_153_91 sc_112.n rfl rfl rfl (t_dm hS hdm) ?_))
              intro z32 ez32 f33
              obtain rfl : z32 = 2 := by omega
              refine n_imul c_153_94 rfl (n_aload_n c_153_95 rfl (n_iload_n c_153_96 rfl (n_iload c_153_97 rfl (n_iadd c_153_99 rfl (n_ialoadV c_153_100 sc_127.n rfl rfl rfl (by omega) (t_127 hS (by omega)) ?_)))))
              intro z34 ez34 f35
              refine n_iadd c_153_101 rfl (n_istore (L2 := [some (2, 112), some (0, m), some (2, 127), some (0, f), some (0, 2), some (0, x), some (0, y), some (0, z0), some (0, ((((0 * 2) + z18) * 2) + z34)), some (0, 1), some (0, (0 + 1)), some (0, z28)]) c_153_102 rfl rfl (n_iload c_153_104 rfl (n_aload_n c_153_106 rfl (n_getV (bi := 0) c_153_107 sc_112.n rfl rfl rfl (t_dm hS hdm) ?_))))
              intro z36 ez36 f37
              obtain rfl : z36 = 2 := by omega
              refine n_idivT (z := 0) c_153_110 (by omega) (by omega) (by omega) (by decide) ?_
              refine n_istore (L2 := [some (2, 112), some (0, m), some (2, 127), some (0, f), some (0, 2), some (0, x), some (0, y), some (0, z0), some (0, ((((0 * 2) + z18) * 2) + z34)), some (0, 0), some (0, (0 + 1)), some (0, z28)]) c_153_111 rfl rfl (n_iinc (L2 := [some (2, 112), some (0, m), some (2, 127), some (0, f), some (0, 2), some (0, x), some (0, y), some (0, z0), some (0, ((((0 * 2) + z18) * 2) + z34)), some (0, 0), some (0, ((0 + 1) + 1)), some (0, z28)]) c_153_113 rfl rfl rfl (n_goto c_153_116 (n_iload c_153_19 rfl (n_iload c_153_21 rfl ?_))))
              refine n_if2_ge c_153_23 (by omega) (by omega) ?_ ?_
              · intro h38
                refine n_iload c_153_119 rfl ?_
                exact n_rI c_153_121 rfl ⟨rfl, by omega, by obtain rfl : m = 1 := (by omega); subst_vars; show _ = M 127 (f + x / 2 % 2) * 2 + M 127 (f + x % 2); simp only [Int.ediv_one]; omega⟩
              · intro h39
                exfalso; omega
            · intro h40
              exfalso; omega
          · intro h41
            exfalso; omega
      · intro h42
        exfalso; omega
    · intro h43
      refine n_iload c_153_43 rfl (n_aload_n c_153_45 rfl (n_getV (bi := 0) c_153_46 sc_112.n rfl rfl rfl (t_dm hS hdm) ?_))
      intro z44 ez44 f45
      obtain rfl : z44 = 2 := by omega
      refine n_imul c_153_49 rfl (n_iload c_153_50 rfl (n_iload c_153_52 rfl (n_idivV c_153_54 (by omega) (by omega) ?_)))
      intro z46 ez46 f47
      refine n_aload_n c_153_55 rfl (n_getV (bi := 0) c_153_56 sc_112.n rfl rfl rfl (t_dm hS hdm) ?_)
      intro z48 ez48 f49
      obtain rfl : z48 = 2 := by omega
      refine n_iremV c_153_59 (by omega) (by omega) ?_
      intro z50 ez50 f51
      refine n_iadd c_153_60 rfl (n_istore (L2 := [some (2, 112), some (0, m), some (2, 127), some (0, f), some (0, 2), some (0, x), some (0, y), some (0, z0), some (0, 0), some (0, 2), some (0, 0), some (0, ((z12 * 2) + z50))]) c_153_61 rfl rfl (n_iload_n c_153_63 rfl (n_iconst c_153_64 ?_)))
      refine n_if2_le c_153_65 (by omega) (by omega) ?_ ?_
      · intro h52
        refine n_iload c_153_88 rfl (n_aload_n c_153_90 rfl (n_getV (bi := 0) c_153_91 sc_112.n rfl rfl rfl (t_dm hS hdm) ?_))
        intro z53 ez53 f54
        obtain rfl : z53 = 2 := by omega
        refine n_imul c_153_94 rfl (n_aload_n c_153_95 rfl (n_iload_n c_153_96 rfl (n_iload c_153_97 rfl (n_iadd c_153_99 rfl (n_ialoadV c_153_100 sc_127.n rfl rfl rfl (by omega) (t_127 hS (by omega)) ?_)))))
        intro z55 ez55 f56
        refine n_iadd c_153_101 rfl (n_istore (L2 := [some (2, 112), some (0, m), some (2, 127), some (0, f), some (0, 2), some (0, x), some (0, y), some (0, z0), some (0, ((0 * 2) + z55)), some (0, 2), some (0, 0), some (0, ((z12 * 2) + z50))]) c_153_102 rfl rfl (n_iload c_153_104 rfl (n_aload_n c_153_106 rfl (n_getV (bi := 0) c_153_107 sc_112.n rfl rfl rfl (t_dm hS hdm) ?_))))
        intro z57 ez57 f58
        obtain rfl : z57 = 2 := by omega
        refine n_idivT (z := 1) c_153_110 (by omega) (by omega) (by omega) (by decide) ?_
        refine n_istore (L2 := [some (2, 112), some (0, m), some (2, 127), some (0, f), some (0, 2), some (0, x), some (0, y), some (0, z0), some (0, ((0 * 2) + z55)), some (0, 1), some (0, 0), some (0, ((z12 * 2) + z50))]) c_153_111 rfl rfl (n_iinc (L2 := [some (2, 112), some (0, m), some (2, 127), some (0, f), some (0, 2), some (0, x), some (0, y), some (0, z0), some (0, ((0 * 2) + z55)), some (0, 1), some (0, (0 + 1)), some (0, ((z12 * 2) + z50))]) c_153_113 rfl rfl rfl (n_goto c_153_116 (n_iload c_153_19 rfl (n_iload c_153_21 rfl ?_))))
        refine n_if2_ge c_153_23 (by omega) (by omega) ?_ ?_
        · intro h59
          exfalso; omega
        · intro h60
          refine n_iload c_153_26 rfl (n_iload c_153_28 rfl (n_idivV c_153_30 (by omega) (by omega) ?_))
          intro z61 ez61 f62
          refine n_aload_n c_153_31 rfl (n_getV (bi := 0) c_153_32 sc_112.n rfl rfl rfl (t_dm hS hdm) ?_)
          intro z63 ez63 f64
          obtain rfl : z63 = 2 := by omega
          refine n_iremV c_153_35 (by omega) (by omega) ?_
          intro z65 ez65 f66
          refine n_istore (L2 := [some (2, 112), some (0, m), some (2, 127), some (0, f), some (0, 2), some (0, x), some (0, y), some (0, z0), some (0, ((0 * 2) + z55)), some (0, 1), some (0, (0 + 1)), some (0, z65)]) c_153_36 rfl rfl (n_iload_n c_153_38 rfl (n_iconst c_153_39 ?_))
          refine n_if2_le c_153_40 (by omega) (by omega) ?_ ?_
          · intro h67
            exfalso; omega
          · intro h68
            refine n_iload c_153_43 rfl (n_aload_n c_153_45 rfl (n_getV (bi := 0) c_153_46 sc_112.n rfl rfl rfl (t_dm hS hdm) ?_))
            intro z69 ez69 f70
            obtain rfl : z69 = 2 := by omega
            refine n_imul c_153_49 rfl (n_iload c_153_50 rfl (n_iload c_153_52 rfl (n_idivV c_153_54 (by omega) (by omega) ?_)))
            intro z71 ez71 f72
            refine n_aload_n c_153_55 rfl (n_getV (bi := 0) c_153_56 sc_112.n rfl rfl rfl (t_dm hS hdm) ?_)
            intro z73 ez73 f74
            obtain rfl : z73 = 2 := by omega
            refine n_iremV c_153_59 (by omega) (by omega) ?_
            intro z75 ez75 f76
            refine n_iadd c_153_60 rfl (n_istore (L2 := [some (2, 112), some (0, m), some (2, 127), some (0, f), some (0, 2), some (0, x), some (0, y), some (0, z0), some (0, ((0 * 2) + z55)), some (0, 1), some (0, (0 + 1)), some (0, ((z65 * 2) + z75))]) c_153_61 rfl rfl (n_iload_n c_153_63 rfl (n_iconst c_153_64 ?_)))
            refine n_if2_le c_153_65 (by omega) (by omega) ?_ ?_
            · intro h77
              refine n_iload c_153_88 rfl (n_aload_n c_153_90 rfl (n_getV (bi := 0) c_153_91 sc_112.n rfl rfl rfl (t_dm hS hdm) ?_))
              intro z78 ez78 f79
              obtain rfl : z78 = 2 := by omega
              refine n_imul c_153_94 rfl (n_aload_n c_153_95 rfl (n_iload_n c_153_96 rfl (n_iload c_153_97 rfl (n_iadd c_153_99 rfl (n_ialoadV c_153_100 sc_127.n rfl rfl rfl (by omega) (t_127 hS (by omega)) ?_)))))
              intro z80 ez80 f81
              refine n_iadd c_153_101 rfl (n_istore (L2 := [some (2, 112), some (0, m), some (2, 127), some (0, f), some (0, 2), some (0, x), some (0, y), some (0, z0), some (0, ((((0 * 2) + z55) * 2) + z80)), some (0, 1), some (0, (0 + 1)), some (0, ((z65 * 2) + z75))]) c_153_102 rfl rfl (n_iload c_153_104 rfl (n_aload_n c_153_106 rfl (n_getV (bi := 0) c_153_107 sc_112.n rfl rfl rfl (t_dm hS hdm) ?_))))
              intro z82 ez82 f83
              obtain rfl : z82 = 2 := by omega
              refine n_idivT (z := 0) c_153_110 (by omega) (by omega) (by omega) (by decide) ?_
              refine n_istore (L2 := [some (2, 112), some (0, m), some (2, 127), some (0, f), some (0, 2), some (0, x), some (0, y), some (0, z0), some (0, ((((0 * 2) + z55) * 2) + z80)), some (0, 0), some (0, (0 + 1)), some (0, ((z65 * 2) + z75))]) c_153_111 rfl rfl (n_iinc (L2 := [some (2, 112), some (0, m), some (2, 127), some (0, f), some (0, 2), some (0, x), some (0, y), some (0, z0), some (0, ((((0 * 2) + z55) * 2) + z80)), some (0, 0), some (0, ((0 + 1) + 1)), some (0, ((z65 * 2) + z75))]) c_153_113 rfl rfl rfl (n_goto c_153_116 (n_iload c_153_19 rfl (n_iload c_153_21 rfl ?_))))
              refine n_if2_ge c_153_23 (by omega) (by omega) ?_ ?_
              · intro h84
                refine n_iload c_153_119 rfl ?_
                exact n_rI c_153_121 rfl ⟨rfl, by omega, by obtain rfl : m = 2 := (by omega); subst_vars; show _ = M 127 (f + (x / 2 % 2 * 2 + y / 2 % 2)) * 2 + M 127 (f + (x % 2 * 2 + y % 2)); simp only [Int.ediv_one]; omega⟩
              · intro h85
                exfalso; omega
            · intro h86
              exfalso; omega
      · intro h87
        refine n_iload c_153_68 rfl (n_aload_n c_153_70 rfl (n_getV (bi := 0) c_153_71 sc_112.n rfl rfl rfl (t_dm hS hdm) ?_))
        intro z88 ez88 f89
        obtain rfl : z88 = 2 := by omega
        refine n_imul c_153_74 rfl (n_iload c_153_75 rfl (n_iload c_153_77 rfl (n_idivV c_153_79 (by omega) (by omega) ?_)))
        intro z90 ez90 f91
        refine n_aload_n c_153_80 rfl (n_getV (bi := 0) c_153_81 sc_112.n rfl rfl rfl (t_dm hS hdm) ?_)
        intro z92 ez92 f93
        obtain rfl : z92 = 2 := by omega
        refine n_iremV c_153_84 (by omega) (by omega) ?_
        intro z94 ez94 f95
        refine n_iadd c_153_85 rfl (n_istore (L2 := [some (2, 112), some (0, m), some (2, 127), some (0, f), some (0, 2), some (0, x), some (0, y), some (0, z0), some (0, 0), some (0, 2), some (0, 0), some (0, ((((z12 * 2) + z50) * 2) + z94))]) c_153_86 rfl rfl (n_iload c_153_88 rfl (n_aload_n c_153_90 rfl (n_getV (bi := 0) c_153_91 sc_112.n rfl rfl rfl (t_dm hS hdm) ?_))))
        intro z96 ez96 f97
        obtain rfl : z96 = 2 := by omega
        refine n_imul c_153_94 rfl (n_aload_n c_153_95 rfl (n_iload_n c_153_96 rfl (n_iload c_153_97 rfl (n_iadd c_153_99 rfl (n_ialoadV c_153_100 sc_127.n rfl rfl rfl (by omega) (t_127 hS (by omega)) ?_)))))
        intro z98 ez98 f99
        refine n_iadd c_153_101 rfl (n_istore (L2 := [some (2, 112), some (0, m), some (2, 127), some (0, f), some (0, 2), some (0, x), some (0, y), some (0, z0), some (0, ((0 * 2) + z98)), some (0, 2), some (0, 0), some (0, ((((z12 * 2) + z50) * 2) + z94))]) c_153_102 rfl rfl (n_iload c_153_104 rfl (n_aload_n c_153_106 rfl (n_getV (bi := 0) c_153_107 sc_112.n rfl rfl rfl (t_dm hS hdm) ?_))))
        intro z100 ez100 f101
        obtain rfl : z100 = 2 := by omega
        refine n_idivT (z := 1) c_153_110 (by omega) (by omega) (by omega) (by decide) ?_
        refine n_istore (L2 := [some (2, 112), some (0, m), some (2, 127), some (0, f), some (0, 2), some (0, x), some (0, y), some (0, z0), some (0, ((0 * 2) + z98)), some (0, 1), some (0, 0), some (0, ((((z12 * 2) + z50) * 2) + z94))]) c_153_111 rfl rfl (n_iinc (L2 := [some (2, 112), some (0, m), some (2, 127), some (0, f), some (0, 2), some (0, x), some (0, y), some (0, z0), some (0, ((0 * 2) + z98)), some (0, 1), some (0, (0 + 1)), some (0, ((((z12 * 2) + z50) * 2) + z94))]) c_153_113 rfl rfl rfl (n_goto c_153_116 (n_iload c_153_19 rfl (n_iload c_153_21 rfl ?_))))
        refine n_if2_ge c_153_23 (by omega) (by omega) ?_ ?_
        · intro h102
          exfalso; omega
        · intro h103
          refine n_iload c_153_26 rfl (n_iload c_153_28 rfl (n_idivV c_153_30 (by omega) (by omega) ?_))
          intro z104 ez104 f105
          refine n_aload_n c_153_31 rfl (n_getV (bi := 0) c_153_32 sc_112.n rfl rfl rfl (t_dm hS hdm) ?_)
          intro z106 ez106 f107
          obtain rfl : z106 = 2 := by omega
          refine n_iremV c_153_35 (by omega) (by omega) ?_
          intro z108 ez108 f109
          refine n_istore (L2 := [some (2, 112), some (0, m), some (2, 127), some (0, f), some (0, 2), some (0, x), some (0, y), some (0, z0), some (0, ((0 * 2) + z98)), some (0, 1), some (0, (0 + 1)), some (0, z108)]) c_153_36 rfl rfl (n_iload_n c_153_38 rfl (n_iconst c_153_39 ?_))
          refine n_if2_le c_153_40 (by omega) (by omega) ?_ ?_
          · intro h110
            exfalso; omega
          · intro h111
            refine n_iload c_153_43 rfl (n_aload_n c_153_45 rfl (n_getV (bi := 0) c_153_46 sc_112.n rfl rfl rfl (t_dm hS hdm) ?_))
            intro z112 ez112 f113
            obtain rfl : z112 = 2 := by omega
            refine n_imul c_153_49 rfl (n_iload c_153_50 rfl (n_iload c_153_52 rfl (n_idivV c_153_54 (by omega) (by omega) ?_)))
            intro z114 ez114 f115
            refine n_aload_n c_153_55 rfl (n_getV (bi := 0) c_153_56 sc_112.n rfl rfl rfl (t_dm hS hdm) ?_)
            intro z116 ez116 f117
            obtain rfl : z116 = 2 := by omega
            refine n_iremV c_153_59 (by omega) (by omega) ?_
            intro z118 ez118 f119
            refine n_iadd c_153_60 rfl (n_istore (L2 := [some (2, 112), some (0, m), some (2, 127), some (0, f), some (0, 2), some (0, x), some (0, y), some (0, z0), some (0, ((0 * 2) + z98)), some (0, 1), some (0, (0 + 1)), some (0, ((z108 * 2) + z118))]) c_153_61 rfl rfl (n_iload_n c_153_63 rfl (n_iconst c_153_64 ?_)))
            refine n_if2_le c_153_65 (by omega) (by omega) ?_ ?_
            · intro h120
              exfalso; omega
            · intro h121
              refine n_iload c_153_68 rfl (n_aload_n c_153_70 rfl (n_getV (bi := 0) c_153_71 sc_112.n rfl rfl rfl (t_dm hS hdm) ?_))
              intro z122 ez122 f123
              obtain rfl : z122 = 2 := by omega
              refine n_imul c_153_74 rfl (n_iload c_153_75 rfl (n_iload c_153_77 rfl (n_idivV c_153_79 (by omega) (by omega) ?_)))
              intro z124 ez124 f125
              refine n_aload_n c_153_80 rfl (n_getV (bi := 0) c_153_81 sc_112.n rfl rfl rfl (t_dm hS hdm) ?_)
              intro z126 ez126 f127
              obtain rfl : z126 = 2 := by omega
              refine n_iremV c_153_84 (by omega) (by omega) ?_
              intro z128 ez128 f129
              refine n_iadd c_153_85 rfl (n_istore (L2 := [some (2, 112), some (0, m), some (2, 127), some (0, f), some (0, 2), some (0, x), some (0, y), some (0, z0), some (0, ((0 * 2) + z98)), some (0, 1), some (0, (0 + 1)), some (0, ((((z108 * 2) + z118) * 2) + z128))]) c_153_86 rfl rfl (n_iload c_153_88 rfl (n_aload_n c_153_90 rfl (n_getV (bi := 0) c_153_91 sc_112.n rfl rfl rfl (t_dm hS hdm) ?_))))
              intro z130 ez130 f131
              obtain rfl : z130 = 2 := by omega
              refine n_imul c_153_94 rfl (n_aload_n c_153_95 rfl (n_iload_n c_153_96 rfl (n_iload c_153_97 rfl (n_iadd c_153_99 rfl (n_ialoadV c_153_100 sc_127.n rfl rfl rfl (by omega) (t_127 hS (by omega)) ?_)))))
              intro z132 ez132 f133
              refine n_iadd c_153_101 rfl (n_istore (L2 := [some (2, 112), some (0, m), some (2, 127), some (0, f), some (0, 2), some (0, x), some (0, y), some (0, z0), some (0, ((((0 * 2) + z98) * 2) + z132)), some (0, 1), some (0, (0 + 1)), some (0, ((((z108 * 2) + z118) * 2) + z128))]) c_153_102 rfl rfl (n_iload c_153_104 rfl (n_aload_n c_153_106 rfl (n_getV (bi := 0) c_153_107 sc_112.n rfl rfl rfl (t_dm hS hdm) ?_))))
              intro z134 ez134 f135
              obtain rfl : z134 = 2 := by omega
              refine n_idivT (z := 0) c_153_110 (by omega) (by omega) (by omega) (by decide) ?_
              refine n_istore (L2 := [some (2, 112), some (0, m), some (2, 127), some (0, f), some (0, 2), some (0, x), some (0, y), some (0, z0), some (0, ((((0 * 2) + z98) * 2) + z132)), some (0, 0), some (0, (0 + 1)), some (0, ((((z108 * 2) + z118) * 2) + z128))]) c_153_111 rfl rfl (n_iinc (L2 := [some (2, 112), some (0, m), some (2, 127), some (0, f), some (0, 2), some (0, x), some (0, y), some (0, z0), some (0, ((((0 * 2) + z98) * 2) + z132)), some (0, 0), some (0, ((0 + 1) + 1)), some (0, ((((z108 * 2) + z118) * 2) + z128))]) c_153_113 rfl rfl rfl (n_goto c_153_116 (n_iload c_153_19 rfl (n_iload c_153_21 rfl ?_))))
              refine n_if2_ge c_153_23 (by omega) (by omega) ?_ ?_
              · intro h136
                refine n_iload c_153_119 rfl ?_
                exact n_rI c_153_121 rfl ⟨rfl, by omega, by obtain rfl : m = 3 := (by omega); subst_vars; show _ = M 127 (f + ((x / 2 % 2 * 2 + y / 2 % 2) * 2 + z0 / 2 % 2)) * 2 + M 127 (f + ((x % 2 * 2 + y % 2) * 2 + z0 % 2)); simp only [Int.ediv_one]; omega⟩
              · intro h137
                exfalso; omega

set_option maxHeartbeats 4000000 in
theorem imageXH3_2 {xs : List Int32} {e : Nat} {ac : Int} {M0 M : nM} {m f x y z0 : Int} (hS : Sf 2 ac M0 M) (hdm : M0 112 0 = 2) (hm : 1 ≤ m ∧ m ≤ 3) (hf : 0 ≤ f ∧ f ≤ 0) (hx : 0 ≤ x ∧ x ≤ 26) (hy : 0 ≤ y ∧ y ≤ 26) (hz0 : 0 ≤ z0 ∧ z0 ≤ 26) : nW xs (e + 1) 153 0 [some (2, 112), some (0, m), some (2, 127), some (0, f), some (0, 3), some (0, x), some (0, y), some (0, z0), none, none, none, none] [] M (nPI fun z M1 => M = M1 ∧ (0 ≤ z ∧ z ≤ 26) ∧ (z = im 2 m (fun i => M 127 (f + i)) 3 x y z0)) := by
  have hd : (2 : Int) = 2 ∨ (2 : Int) = 3 := by decide
  have hac := hS.2.2.2.2
  refine n_iconst c_153_0 (n_istore (L2 := [some (2, 112), some (0, m), some (2, 127), some (0, f), some (0, 3), some (0, x), some (0, y), some (0, z0), some (0, 0), none, none, none]) c_153_1 rfl rfl (n_aload_n c_153_3 rfl (n_getV (bi := 0) c_153_4 sc_112.n rfl rfl rfl (t_dm hS hdm) ?_)))
  intro z1 ez1 f2
  obtain rfl : z1 = 2 := by omega
  refine n_iload c_153_7 rfl (n_iconst c_153_9 (n_isub c_153_10 rfl ?_))
  have hcst : ((3 - 1) : Int) = 2 := by omega
  rw [hcst]
  refine n_s2I c_153_11 rfl rfl rfl rfl (mpower2_2  hS ) ?_
  intro z3 M4 hP5
  obtain ⟨eM, f5⟩ := hP5
  subst eM
  obtain rfl : z3 = 4 := by omega
  refine n_istore (L2 := [some (2, 112), some (0, m), some (2, 127), some (0, f), some (0, 3), some (0, x), some (0, y), some (0, z0), some (0, 0), some (0, 4), none, none]) c_153_14 rfl rfl (n_iconst c_153_16 (n_istore (L2 := [some (2, 112), some (0, m), some (2, 127), some (0, f), some (0, 3), some (0, x), some (0, y), some (0, z0), some (0, 0), some (0, 4), some (0, 0), none]) c_153_17 rfl rfl (n_iload c_153_19 rfl (n_iload c_153_21 rfl ?_))))
  refine n_if2_ge c_153_23 (by omega) (by omega) ?_ ?_
  · intro h6
    exfalso; omega
  · intro h7
    refine n_iload c_153_26 rfl (n_iload c_153_28 rfl (n_idivV c_153_30 (by omega) (by omega) ?_))
    intro z8 ez8 f9
    refine n_aload_n c_153_31 rfl (n_getV (bi := 0) c_153_32 sc_112.n rfl rfl rfl (t_dm hS hdm) ?_)
    intro z10 ez10 f11
    obtain rfl : z10 = 2 := by omega
    refine n_iremV c_153_35 (by omega) (by omega) ?_
    intro z12 ez12 f13
    refine n_istore (L2 := [some (2, 112), some (0, m), some (2, 127), some (0, f), some (0, 3), some (0, x), some (0, y), some (0, z0), some (0, 0), some (0, 4), some (0, 0), some (0, z12)]) c_153_36 rfl rfl (n_iload_n c_153_38 rfl (n_iconst c_153_39 ?_))
    refine n_if2_le c_153_40 (by omega) (by omega) ?_ ?_
    · intro h14
      refine n_iload_n c_153_63 rfl (n_iconst c_153_64 ?_)
      refine n_if2_le c_153_65 (by omega) (by omega) ?_ ?_
      · intro h15
        refine n_iload c_153_88 rfl (n_aload_n c_153_90 rfl (n_getV (bi := 0) c_153_91 sc_112.n rfl rfl rfl (t_dm hS hdm) ?_))
        intro z16 ez16 f17
        obtain rfl : z16 = 2 := by omega
        refine n_imul c_153_94 rfl (n_aload_n c_153_95 rfl (n_iload_n c_153_96 rfl (n_iload c_153_97 rfl (n_iadd c_153_99 rfl (n_ialoadV c_153_100 sc_127.n rfl rfl rfl (by omega) (t_127 hS (by omega)) ?_)))))
        intro z18 ez18 f19
        refine n_iadd c_153_101 rfl (n_istore (L2 := [some (2, 112), some (0, m), some (2, 127), some (0, f), some (0, 3), some (0, x), some (0, y), some (0, z0), some (0, ((0 * 2) + z18)), some (0, 4), some (0, 0), some (0, z12)]) c_153_102 rfl rfl (n_iload c_153_104 rfl (n_aload_n c_153_106 rfl (n_getV (bi := 0) c_153_107 sc_112.n rfl rfl rfl (t_dm hS hdm) ?_))))
        intro z20 ez20 f21
        obtain rfl : z20 = 2 := by omega
        refine n_idivT (z := 2) c_153_110 (by omega) (by omega) (by omega) (by decide) ?_
        refine n_istore (L2 := [some (2, 112), some (0, m), some (2, 127), some (0, f), some (0, 3), some (0, x), some (0, y), some (0, z0), some (0, ((0 * 2) + z18)), some (0, 2), some (0, 0), some (0, z12)]) c_153_111 rfl rfl (n_iinc (L2 := [some (2, 112), some (0, m), some (2, 127), some (0, f), some (0, 3), some (0, x), some (0, y), some (0, z0), some (0, ((0 * 2) + z18)), some (0, 2), some (0, (0 + 1)), some (0, z12)]) c_153_113 rfl rfl rfl (n_goto c_153_116 (n_iload c_153_19 rfl (n_iload c_153_21 rfl ?_))))
        refine n_if2_ge c_153_23 (by omega) (by omega) ?_ ?_
        · intro h22
          exfalso; omega
        · intro h23
          refine n_iload c_153_26 rfl (n_iload c_153_28 rfl (n_idivV c_153_30 (by omega) (by omega) ?_))
          intro z24 ez24 f25
          refine n_aload_n c_153_31 rfl (n_getV (bi := 0) c_153_32 sc_112.n rfl rfl rfl (t_dm hS hdm) ?_)
          intro z26 ez26 f27
          obtain rfl : z26 = 2 := by omega
          refine n_iremV c_153_35 (by omega) (by omega) ?_
          intro z28 ez28 f29
          refine n_istore (L2 := [some (2, 112), some (0, m), some (2, 127), some (0, f), some (0, 3), some (0, x), some (0, y), some (0, z0), some (0, ((0 * 2) + z18)), some (0, 2), some (0, (0 + 1)), some (0, z28)]) c_153_36 rfl rfl (n_iload_n c_153_38 rfl (n_iconst c_153_39 ?_))
          refine n_if2_le c_153_40 (by omega) (by omega) ?_ ?_
          · intro h30
            refine n_iload_n c_153_63 rfl (n_iconst c_153_64 ?_)
            refine n_if2_le c_153_65 (by omega) (by omega) ?_ ?_
            · intro h31
              refine n_iload c_153_88 rfl (n_aload_n c_153_90 rfl (n_getV (bi := 0) c_153_91 sc_112.n rfl rfl rfl (t_dm hS hdm) ?_))
              intro z32 ez32 f33
              obtain rfl : z32 = 2 := by omega
              refine n_imul c_153_94 rfl (n_aload_n c_153_95 rfl (n_iload_n c_153_96 rfl (n_iload c_153_97 rfl (n_iadd c_153_99 rfl (n_ialoadV c_153_100 sc_127.n rfl rfl rfl (by omega) (t_127 hS (by omega)) ?_)))))
              intro z34 ez34 f35
              refine n_iadd c_153_101 rfl (n_istore (L2 := [some (2, 112), some (0, m), some (2, 127), some (0, f), some (0, 3), some (0, x), some (0, y), some (0, z0), some (0, ((((0 * 2) + z18) * 2) + z34)), some (0, 2), some (0, (0 + 1)), some (0, z28)]) c_153_102 rfl rfl (n_iload c_153_104 rfl (n_aload_n c_153_106 rfl (n_getV (bi := 0) c_153_107 sc_112.n rfl rfl rfl (t_dm hS hdm) ?_))))
              intro z36 ez36 f37
              obtain rfl : z36 = 2 := by omega
              refine n_idivT (z := 1) c_153_110 (by omega) (by omega) (by omega) (by decide) ?_
              refine n_istore (L2 := [some (2, 112), some (0, m), some (2, 127), some (0, f), some (0, 3), some (0, x), some (0, y), some (0, z0), some (0, ((((0 * 2) + z18) * 2) + z34)), some (0, 1), some (0, (0 + 1)), some (0, z28)]) c_153_111 rfl rfl (n_iinc (L2 := [some (2, 112), some (0, m), some (2, 127), some (0, f), some (0, 3), some (0, x), some (0, y), some (0, z0), some (0, ((((0 * 2) + z18) * 2) + z34)), some (0, 1), some (0, ((0 + 1) + 1)), some (0, z28)]) c_153_113 rfl rfl rfl (n_goto c_153_116 (n_iload c_153_19 rfl (n_iload c_153_21 rfl ?_))))
              refine n_if2_ge c_153_23 (by omega) (by omega) ?_ ?_
              · intro h38
                exfalso; omega
              · intro h39
                refine n_iload c_153_26 rfl (n_iload c_153_28 rfl (n_idivV c_153_30 (by omega) (by omega) ?_))
                intro z40 ez40 f41
                refine n_aload_n c_153_31 rfl (n_getV (bi := 0) c_153_32 sc_112.n rfl rfl rfl (t_dm hS hdm) ?_)
                intro z42 ez42 f43
                obtain rfl : z42 = 2 := by omega
                refine n_iremV c_153_35 (by omega) (by omega) ?_
                intro z44 ez44 f45
                refine n_istore (L2 := [some (2, 112), some (0, m), some (2, 127), some (0, f), some (0, 3), some (0, x), some (0, y), some (0, z0), some (0, ((((0 * 2) + z18) * 2) + z34)), some (0, 1), some (0, ((0 + 1) + 1)), some (0, z44)]) c_153_36 rfl rfl (n_iload_n c_153_38 rfl (n_iconst c_153_39 ?_))
                refine n_if2_le c_153_40 (by omega) (by omega) ?_ ?_
                · intro h46
                  refine n_iload_n c_153_63 rfl (n_iconst c_153_64 ?_)
                  refine n_if2_le c_153_65 (by omega) (by omega) ?_ ?_
                  · intro h47
                    refine n_iload c_153_88 rfl (n_aload_n c_153_90 rfl (n_getV (bi := 0) c_153_91 sc_112.n rfl rfl rfl (t_dm hS hdm) ?_))
                    intro z48 ez48 f49
                    obtain rfl : z48 = 2 := by omega
                    refine n_imul c_153_94 rfl (n_aload_n c_153_95 rfl (n_iload_n c_153_96 rfl (n_iload c_153_97 rfl (n_iadd c_153_99 rfl (n_ialoadV c_153_100 sc_127.n rfl rfl rfl (by omega) (t_127 hS (by omega)) ?_)))))
                    intro z50 ez50 f51
                    refine n_iadd c_153_101 rfl (n_istore (L2 := [some (2, 112), some (0, m), some (2, 127), some (0, f), some (0, 3), some (0, x), some (0, y), some (0, z0), some (0, ((((((0 * 2) + z18) * 2) + z34) * 2) + z50)), some (0, 1), some (0, ((0 + 1) + 1)), some (0, z44)]) c_153_102 rfl rfl (n_iload c_153_104 rfl (n_aload_n c_153_106 rfl (n_getV (bi := 0) c_153_107 sc_112.n rfl rfl rfl (t_dm hS hdm) ?_))))
                    intro z52 ez52 f53
                    obtain rfl : z52 = 2 := by omega
                    refine n_idivT (z := 0) c_153_110 (by omega) (by omega) (by omega) (by decide) ?_
                    refine n_istore (L2 := [some (2, 112), some (0, m), some (2, 127), some (0, f), some (0, 3), some (0, x), some (0, y), some (0, z0), some (0, ((((((0 * 2) + z18) * 2) + z34) * 2) + z50)), some (0, 0), some (0, ((0 + 1) + 1)), some (0, z44)]) c_153_111 rfl rfl (n_iinc (L2 := [some (2, 112), some (0, m), some (2, 127), some (0, f), some (0, 3), some (0, x), some (0, y), some (0, z0), some (0, ((((((0 * 2) + z18) * 2) + z34) * 2) + z50)), some (0, 0), some (0, (((0 + 1) + 1) + 1)), some (0, z44)]) c_153_113 rfl rfl rfl (n_goto c_153_116 (n_iload c_153_19 rfl (n_iload c_153_21 rfl ?_))))
                    refine n_if2_ge c_153_23 (by omega) (by omega) ?_ ?_
                    · intro h54
                      refine n_iload c_153_119 rfl ?_
                      exact n_rI c_153_121 rfl ⟨rfl, by omega, by obtain rfl : m = 1 := (by omega); subst_vars; show _ = (M 127 (f + x / 4 % 2) * 2 + M 127 (f + x / 2 % 2)) * 2 + M 127 (f + x % 2); simp only [Int.ediv_one]; omega⟩
                    · intro h55
                      exfalso; omega
                  · intro h56
                    exfalso; omega
                · intro h57
                  exfalso; omega
            · intro h58
              exfalso; omega
          · intro h59
            exfalso; omega
      · intro h60
        exfalso; omega
    · intro h61
      refine n_iload c_153_43 rfl (n_aload_n c_153_45 rfl (n_getV (bi := 0) c_153_46 sc_112.n rfl rfl rfl (t_dm hS hdm) ?_))
      intro z62 ez62 f63
      obtain rfl : z62 = 2 := by omega
      refine n_imul c_153_49 rfl (n_iload c_153_50 rfl (n_iload c_153_52 rfl (n_idivV c_153_54 (by omega) (by omega) ?_)))
      intro z64 ez64 f65
      refine n_aload_n c_153_55 rfl (n_getV (bi := 0) c_153_56 sc_112.n rfl rfl rfl (t_dm hS hdm) ?_)
      intro z66 ez66 f67
      obtain rfl : z66 = 2 := by omega
      refine n_iremV c_153_59 (by omega) (by omega) ?_
      intro z68 ez68 f69
      refine n_iadd c_153_60 rfl (n_istore (L2 := [some (2, 112), some (0, m), some (2, 127), some (0, f), some (0, 3), some (0, x), some (0, y), some (0, z0), some (0, 0), some (0, 4), some (0, 0), some (0, ((z12 * 2) + z68))]) c_153_61 rfl rfl (n_iload_n c_153_63 rfl (n_iconst c_153_64 ?_)))
      refine n_if2_le c_153_65 (by omega) (by omega) ?_ ?_
      · intro h70
        refine n_iload c_153_88 rfl (n_aload_n c_153_90 rfl (n_getV (bi := 0) c_153_91 sc_112.n rfl rfl rfl (t_dm hS hdm) ?_))
        intro z71 ez71 f72
        obtain rfl : z71 = 2 := by omega
        refine n_imul c_153_94 rfl (n_aload_n c_153_95 rfl (n_iload_n c_153_96 rfl (n_iload c_153_97 rfl (n_iadd c_153_99 rfl (n_ialoadV c_153_100 sc_127.n rfl rfl rfl (by omega) (t_127 hS (by omega)) ?_)))))
        intro z73 ez73 f74
        refine n_iadd c_153_101 rfl (n_istore (L2 := [some (2, 112), some (0, m), some (2, 127), some (0, f), some (0, 3), some (0, x), some (0, y), some (0, z0), some (0, ((0 * 2) + z73)), some (0, 4), some (0, 0), some (0, ((z12 * 2) + z68))]) c_153_102 rfl rfl (n_iload c_153_104 rfl (n_aload_n c_153_106 rfl (n_getV (bi := 0) c_153_107 sc_112.n rfl rfl rfl (t_dm hS hdm) ?_))))
        intro z75 ez75 f76
        obtain rfl : z75 = 2 := by omega
        refine n_idivT (z := 2) c_153_110 (by omega) (by omega) (by omega) (by decide) ?_
        refine n_istore (L2 := [some (2, 112), some (0, m), some (2, 127), some (0, f), some (0, 3), some (0, x), some (0, y), some (0, z0), some (0, ((0 * 2) + z73)), some (0, 2), some (0, 0), some (0, ((z12 * 2) + z68))]) c_153_111 rfl rfl (n_iinc (L2 := [some (2, 112), some (0, m), some (2, 127), some (0, f), some (0, 3), some (0, x), some (0, y), some (0, z0), some (0, ((0 * 2) + z73)), some (0, 2), some (0, (0 + 1)), some (0, ((z12 * 2) + z68))]) c_153_113 rfl rfl rfl (n_goto c_153_116 (n_iload c_153_19 rfl (n_iload c_153_21 rfl ?_))))
        refine n_if2_ge c_153_23 (by omega) (by omega) ?_ ?_
        · intro h77
          exfalso; omega
        · intro h78
          refine n_iload c_153_26 rfl (n_iload c_153_28 rfl (n_idivV c_153_30 (by omega) (by omega) ?_))
          intro z79 ez79 f80
          refine n_aload_n c_153_31 rfl (n_getV (bi := 0) c_153_32 sc_112.n rfl rfl rfl (t_dm hS hdm) ?_)
          intro z81 ez81 f82
          obtain rfl : z81 = 2 := by omega
          refine n_iremV c_153_35 (by omega) (by omega) ?_
          intro z83 ez83 f84
          refine n_istore (L2 := [some (2, 112), some (0, m), some (2, 127), some (0, f), some (0, 3), some (0, x), some (0, y), some (0, z0), some (0, ((0 * 2) + z73)), some (0, 2), some (0, (0 + 1)), some (0, z83)]) c_153_36 rfl rfl (n_iload_n c_153_38 rfl (n_iconst c_153_39 ?_))
          refine n_if2_le c_153_40 (by omega) (by omega) ?_ ?_
          · intro h85
            exfalso; omega
          · intro h86
            refine n_iload c_153_43 rfl (n_aload_n c_153_45 rfl (n_getV (bi := 0) c_153_46 sc_112.n rfl rfl rfl (t_dm hS hdm) ?_))
            intro z87 ez87 f88
            obtain rfl : z87 = 2 := by omega
            refine n_imul c_153_49 rfl (n_iload c_153_50 rfl (n_iload c_153_52 rfl (n_idivV c_153_54 (by omega) (by omega) ?_)))
            intro z89 ez89 f90
            refine n_aload_n c_153_55 rfl (n_getV (bi := 0) c_153_56 sc_112.n rfl rfl rfl (t_dm hS hdm) ?_)
            intro z91 ez91 f92
            obtain rfl : z91 = 2 := by omega
            refine n_iremV c_153_59 (by omega) (by omega) ?_
            intro z93 ez93 f94
            refine n_iadd c_153_60 rfl (n_istore (L2 := [some (2, 112), some (0, m), some (2, 127), some (0, f), some (0, 3), some (0, x), some (0, y), some (0, z0), some (0, ((0 * 2) + z73)), some (0, 2), some (0, (0 + 1)), some (0, ((z83 * 2) + z93))]) c_153_61 rfl rfl (n_iload_n c_153_63 rfl (n_iconst c_153_64 ?_)))
            refine n_if2_le c_153_65 (by omega) (by omega) ?_ ?_
            · intro h95
              refine n_iload c_153_88 rfl (n_aload_n c_153_90 rfl (n_getV (bi := 0) c_153_91 sc_112.n rfl rfl rfl (t_dm hS hdm) ?_))
              intro z96 ez96 f97
              obtain rfl : z96 = 2 := by omega
              refine n_imul c_153_94 rfl (n_aload_n c_153_95 rfl (n_iload_n c_153_96 rfl (n_iload c_153_97 rfl (n_iadd c_153_99 rfl (n_ialoadV c_153_100 sc_127.n rfl rfl rfl (by omega) (t_127 hS (by omega)) ?_)))))
              intro z98 ez98 f99
              refine n_iadd c_153_101 rfl (n_istore (L2 := [some (2, 112), some (0, m), some (2, 127), some (0, f), some (0, 3), some (0, x), some (0, y), some (0, z0), some (0, ((((0 * 2) + z73) * 2) + z98)), some (0, 2), some (0, (0 + 1)), some (0, ((z83 * 2) + z93))]) c_153_102 rfl rfl (n_iload c_153_104 rfl (n_aload_n c_153_106 rfl (n_getV (bi := 0) c_153_107 sc_112.n rfl rfl rfl (t_dm hS hdm) ?_))))
              intro z100 ez100 f101
              obtain rfl : z100 = 2 := by omega
              refine n_idivT (z := 1) c_153_110 (by omega) (by omega) (by omega) (by decide) ?_
              refine n_istore (L2 := [some (2, 112), some (0, m), some (2, 127), some (0, f), some (0, 3), some (0, x), some (0, y), some (0, z0), some (0, ((((0 * 2) + z73) * 2) + z98)), some (0, 1), some (0, (0 + 1)), some (0, ((z83 * 2) + z93))]) c_153_111 rfl rfl (n_iinc (L2 := [some (2, 112), some (0, m), some (2, 127), some (0, f), some (0, 3), some (0, x), some (0, y), some (0, z0), some (0, ((((0 * 2) + z73) * 2) + z98)), some (0, 1), some (0, ((0 + 1) + 1)), some (0, ((z83 * 2) + z93))]) c_153_113 rfl rfl rfl (n_goto c_153_116 (n_iload c_153_19 rfl (n_iload c_153_21 rfl ?_))))
              refine n_if2_ge c_153_23 (by omega) (by omega) ?_ ?_
              · intro h102
                exfalso; omega
              · intro h103
                refine n_iload c_153_26 rfl (n_iload c_153_28 rfl (n_idivV c_153_30 (by omega) (by omega) ?_))
                intro z104 ez104 f105
                refine n_aload_n c_153_31 rfl (n_getV (bi := 0) c_153_32 sc_112.n rfl rfl rfl (t_dm hS hdm) ?_)
                intro z106 ez106 f107
                obtain rfl : z106 = 2 := by omega
                refine n_iremV c_153_35 (by omega) (by omega) ?_
                intro z108 ez108 f109
                refine n_istore (L2 := [some (2, 112), some (0, m), some (2, 127), some (0, f), some (0, 3), some (0, x), some (0, y), some (0, z0), some (0, ((((0 * 2) + z73) * 2) + z98)), some (0, 1), some (0, ((0 + 1) + 1)), some (0, z108)]) c_153_36 rfl rfl (n_iload_n c_153_38 rfl (n_iconst c_153_39 ?_))
                refine n_if2_le c_153_40 (by omega) (by omega) ?_ ?_
                · intro h110
                  exfalso; omega
                · intro h111
                  refine n_iload c_153_43 rfl (n_aload_n c_153_45 rfl (n_getV (bi := 0) c_153_46 sc_112.n rfl rfl rfl (t_dm hS hdm) ?_))
                  intro z112 ez112 f113
                  obtain rfl : z112 = 2 := by omega
                  refine n_imul c_153_49 rfl (n_iload c_153_50 rfl (n_iload c_153_52 rfl (n_idivV c_153_54 (by omega) (by omega) ?_)))
                  intro z114 ez114 f115
                  refine n_aload_n c_153_55 rfl (n_getV (bi := 0) c_153_56 sc_112.n rfl rfl rfl (t_dm hS hdm) ?_)
                  intro z116 ez116 f117
                  obtain rfl : z116 = 2 := by omega
                  refine n_iremV c_153_59 (by omega) (by omega) ?_
                  intro z118 ez118 f119
                  refine n_iadd c_153_60 rfl (n_istore (L2 := [some (2, 112), some (0, m), some (2, 127), some (0, f), some (0, 3), some (0, x), some (0, y), some (0, z0), some (0, ((((0 * 2) + z73) * 2) + z98)), some (0, 1), some (0, ((0 + 1) + 1)), some (0, ((z108 * 2) + z118))]) c_153_61 rfl rfl (n_iload_n c_153_63 rfl (n_iconst c_153_64 ?_)))
                  refine n_if2_le c_153_65 (by omega) (by omega) ?_ ?_
                  · intro h120
                    refine n_iload c_153_88 rfl (n_aload_n c_153_90 rfl (n_getV (bi := 0) c_153_91 sc_112.n rfl rfl rfl (t_dm hS hdm) ?_))
                    intro z121 ez121 f122
                    obtain rfl : z121 = 2 := by omega
                    refine n_imul c_153_94 rfl (n_aload_n c_153_95 rfl (n_iload_n c_153_96 rfl (n_iload c_153_97 rfl (n_iadd c_153_99 rfl (n_ialoadV c_153_100 sc_127.n rfl rfl rfl (by omega) (t_127 hS (by omega)) ?_)))))
                    intro z123 ez123 f124
                    refine n_iadd c_153_101 rfl (n_istore (L2 := [some (2, 112), some (0, m), some (2, 127), some (0, f), some (0, 3), some (0, x), some (0, y), some (0, z0), some (0, ((((((0 * 2) + z73) * 2) + z98) * 2) + z123)), some (0, 1), some (0, ((0 + 1) + 1)), some (0, ((z108 * 2) + z118))]) c_153_102 rfl rfl (n_iload c_153_104 rfl (n_aload_n c_153_106 rfl (n_getV (bi := 0) c_153_107 sc_112.n rfl rfl rfl (t_dm hS hdm) ?_))))
                    intro z125 ez125 f126
                    obtain rfl : z125 = 2 := by omega
                    refine n_idivT (z := 0) c_153_110 (by omega) (by omega) (by omega) (by decide) ?_
                    refine n_istore (L2 := [some (2, 112), some (0, m), some (2, 127), some (0, f), some (0, 3), some (0, x), some (0, y), some (0, z0), some (0, ((((((0 * 2) + z73) * 2) + z98) * 2) + z123)), some (0, 0), some (0, ((0 + 1) + 1)), some (0, ((z108 * 2) + z118))]) c_153_111 rfl rfl (n_iinc (L2 := [some (2, 112), some (0, m), some (2, 127), some (0, f), some (0, 3), some (0, x), some (0, y), some (0, z0), some (0, ((((((0 * 2) + z73) * 2) + z98) * 2) + z123)), some (0, 0), some (0, (((0 + 1) + 1) + 1)), some (0, ((z108 * 2) + z118))]) c_153_113 rfl rfl rfl (n_goto c_153_116 (n_iload c_153_19 rfl (n_iload c_153_21 rfl ?_))))
                    refine n_if2_ge c_153_23 (by omega) (by omega) ?_ ?_
                    · intro h127
                      refine n_iload c_153_119 rfl ?_
                      exact n_rI c_153_121 rfl ⟨rfl, by omega, by obtain rfl : m = 2 := (by omega); subst_vars; show _ = (M 127 (f + (x / 4 % 2 * 2 + y / 4 % 2)) * 2 + M 127 (f + (x / 2 % 2 * 2 + y / 2 % 2))) * 2 + M 127 (f + (x % 2 * 2 + y % 2)); simp only [Int.ediv_one]; omega⟩
                    · intro h128
                      exfalso; omega
                  · intro h129
                    exfalso; omega
            · intro h130
              exfalso; omega
      · intro h131
        refine n_iload c_153_68 rfl (n_aload_n c_153_70 rfl (n_getV (bi := 0) c_153_71 sc_112.n rfl rfl rfl (t_dm hS hdm) ?_))
        intro z132 ez132 f133
        obtain rfl : z132 = 2 := by omega
        refine n_imul c_153_74 rfl (n_iload c_153_75 rfl (n_iload c_153_77 rfl (n_idivV c_153_79 (by omega) (by omega) ?_)))
        intro z134 ez134 f135
        refine n_aload_n c_153_80 rfl (n_getV (bi := 0) c_153_81 sc_112.n rfl rfl rfl (t_dm hS hdm) ?_)
        intro z136 ez136 f137
        obtain rfl : z136 = 2 := by omega
        refine n_iremV c_153_84 (by omega) (by omega) ?_
        intro z138 ez138 f139
        refine n_iadd c_153_85 rfl (n_istore (L2 := [some (2, 112), some (0, m), some (2, 127), some (0, f), some (0, 3), some (0, x), some (0, y), some (0, z0), some (0, 0), some (0, 4), some (0, 0), some (0, ((((z12 * 2) + z68) * 2) + z138))]) c_153_86 rfl rfl (n_iload c_153_88 rfl (n_aload_n c_153_90 rfl (n_getV (bi := 0) c_153_91 sc_112.n rfl rfl rfl (t_dm hS hdm) ?_))))
        intro z140 ez140 f141
        obtain rfl : z140 = 2 := by omega
        refine n_imul c_153_94 rfl (n_aload_n c_153_95 rfl (n_iload_n c_153_96 rfl (n_iload c_153_97 rfl (n_iadd c_153_99 rfl (n_ialoadV c_153_100 sc_127.n rfl rfl rfl (by omega) (t_127 hS (by omega)) ?_)))))
        intro z142 ez142 f143
        refine n_iadd c_153_101 rfl (n_istore (L2 := [some (2, 112), some (0, m), some (2, 127), some (0, f), some (0, 3), some (0, x), some (0, y), some (0, z0), some (0, ((0 * 2) + z142)), some (0, 4), some (0, 0), some (0, ((((z12 * 2) + z68) * 2) + z138))]) c_153_102 rfl rfl (n_iload c_153_104 rfl (n_aload_n c_153_106 rfl (n_getV (bi := 0) c_153_107 sc_112.n rfl rfl rfl (t_dm hS hdm) ?_))))
        intro z144 ez144 f145
        obtain rfl : z144 = 2 := by omega
        refine n_idivT (z := 2) c_153_110 (by omega) (by omega) (by omega) (by decide) ?_
        refine n_istore (L2 := [some (2, 112), some (0, m), some (2, 127), some (0, f), some (0, 3), some (0, x), some (0, y), some (0, z0), some (0, ((0 * 2) + z142)), some (0, 2), some (0, 0), some (0, ((((z12 * 2) + z68) * 2) + z138))]) c_153_111 rfl rfl (n_iinc (L2 := [some (2, 112), some (0, m), some (2, 127), some (0, f), some (0, 3), some (0, x), some (0, y), some (0, z0), some (0, ((0 * 2) + z142)), some (0, 2), some (0, (0 + 1)), some (0, ((((z12 * 2) + z68) * 2) + z138))]) c_153_113 rfl rfl rfl (n_goto c_153_116 (n_iload c_153_19 rfl (n_iload c_153_21 rfl ?_))))
        refine n_if2_ge c_153_23 (by omega) (by omega) ?_ ?_
        · intro h146
          exfalso; omega
        · intro h147
          refine n_iload c_153_26 rfl (n_iload c_153_28 rfl (n_idivV c_153_30 (by omega) (by omega) ?_))
          intro z148 ez148 f149
          refine n_aload_n c_153_31 rfl (n_getV (bi := 0) c_153_32 sc_112.n rfl rfl rfl (t_dm hS hdm) ?_)
          intro z150 ez150 f151
          obtain rfl : z150 = 2 := by omega
          refine n_iremV c_153_35 (by omega) (by omega) ?_
          intro z152 ez152 f153
          refine n_istore (L2 := [some (2, 112), some (0, m), some (2, 127), some (0, f), some (0, 3), some (0, x), some (0, y), some (0, z0), some (0, ((0 * 2) + z142)), some (0, 2), some (0, (0 + 1)), some (0, z152)]) c_153_36 rfl rfl (n_iload_n c_153_38 rfl (n_iconst c_153_39 ?_))
          refine n_if2_le c_153_40 (by omega) (by omega) ?_ ?_
          · intro h154
            exfalso; omega
          · intro h155
            refine n_iload c_153_43 rfl (n_aload_n c_153_45 rfl (n_getV (bi := 0) c_153_46 sc_112.n rfl rfl rfl (t_dm hS hdm) ?_))
            intro z156 ez156 f157
            obtain rfl : z156 = 2 := by omega
            refine n_imul c_153_49 rfl (n_iload c_153_50 rfl (n_iload c_153_52 rfl (n_idivV c_153_54 (by omega) (by omega) ?_)))
            intro z158 ez158 f159
            refine n_aload_n c_153_55 rfl (n_getV (bi := 0) c_153_56 sc_112.n rfl rfl rfl (t_dm hS hdm) ?_)
            intro z160 ez160 f161
            obtain rfl : z160 = 2 := by omega
            refine n_iremV c_153_59 (by omega) (by omega) ?_
            intro z162 ez162 f163
            refine n_iadd c_153_60 rfl (n_istore (L2 := [some (2, 112), some (0, m), some (2, 127), some (0, f), some (0, 3), some (0, x), some (0, y), some (0, z0), some (0, ((0 * 2) + z142)), some (0, 2), some (0, (0 + 1)), some (0, ((z152 * 2) + z162))]) c_153_61 rfl rfl (n_iload_n c_153_63 rfl (n_iconst c_153_64 ?_)))
            refine n_if2_le c_153_65 (by omega) (by omega) ?_ ?_
            · intro h164
              exfalso; omega
            · intro h165
              refine n_iload c_153_68 rfl (n_aload_n c_153_70 rfl (n_getV (bi := 0) c_153_71 sc_112.n rfl rfl rfl (t_dm hS hdm) ?_))
              intro z166 ez166 f167
              obtain rfl : z166 = 2 := by omega
              refine n_imul c_153_74 rfl (n_iload c_153_75 rfl (n_iload c_153_77 rfl (n_idivV c_153_79 (by omega) (by omega) ?_)))
              intro z168 ez168 f169
              refine n_aload_n c_153_80 rfl (n_getV (bi := 0) c_153_81 sc_112.n rfl rfl rfl (t_dm hS hdm) ?_)
              intro z170 ez170 f171
              obtain rfl : z170 = 2 := by omega
              refine n_iremV c_153_84 (by omega) (by omega) ?_
              intro z172 ez172 f173
              refine n_iadd c_153_85 rfl (n_istore (L2 := [some (2, 112), some (0, m), some (2, 127), some (0, f), some (0, 3), some (0, x), some (0, y), some (0, z0), some (0, ((0 * 2) + z142)), some (0, 2), some (0, (0 + 1)), some (0, ((((z152 * 2) + z162) * 2) + z172))]) c_153_86 rfl rfl (n_iload c_153_88 rfl (n_aload_n c_153_90 rfl (n_getV (bi := 0) c_153_91 sc_112.n rfl rfl rfl (t_dm hS hdm) ?_))))
              intro z174 ez174 f175
              obtain rfl : z174 = 2 := by omega
              refine n_imul c_153_94 rfl (n_aload_n c_153_95 rfl (n_iload_n c_153_96 rfl (n_iload c_153_97 rfl (n_iadd c_153_99 rfl (n_ialoadV c_153_100 sc_127.n rfl rfl rfl (by omega) (t_127 hS (by omega)) ?_)))))
              intro z176 ez176 f177
              refine n_iadd c_153_101 rfl (n_istore (L2 := [some (2, 112), some (0, m), some (2, 127), some (0, f), some (0, 3), some (0, x), some (0, y), some (0, z0), some (0, ((((0 * 2) + z142) * 2) + z176)), some (0, 2), some (0, (0 + 1)), some (0, ((((z152 * 2) + z162) * 2) + z172))]) c_153_102 rfl rfl (n_iload c_153_104 rfl (n_aload_n c_153_106 rfl (n_getV (bi := 0) c_153_107 sc_112.n rfl rfl rfl (t_dm hS hdm) ?_))))
              intro z178 ez178 f179
              obtain rfl : z178 = 2 := by omega
              refine n_idivT (z := 1) c_153_110 (by omega) (by omega) (by omega) (by decide) ?_
              refine n_istore (L2 := [some (2, 112), some (0, m), some (2, 127), some (0, f), some (0, 3), some (0, x), some (0, y), some (0, z0), some (0, ((((0 * 2) + z142) * 2) + z176)), some (0, 1), some (0, (0 + 1)), some (0, ((((z152 * 2) + z162) * 2) + z172))]) c_153_111 rfl rfl (n_iinc (L2 := [some (2, 112), some (0, m), some (2, 127), some (0, f), some (0, 3), some (0, x), some (0, y), some (0, z0), some (0, ((((0 * 2) + z142) * 2) + z176)), some (0, 1), some (0, ((0 + 1) + 1)), some (0, ((((z152 * 2) + z162) * 2) + z172))]) c_153_113 rfl rfl rfl (n_goto c_153_116 (n_iload c_153_19 rfl (n_iload c_153_21 rfl ?_))))
              refine n_if2_ge c_153_23 (by omega) (by omega) ?_ ?_
              · intro h180
                exfalso; omega
              · intro h181
                refine n_iload c_153_26 rfl (n_iload c_153_28 rfl (n_idivV c_153_30 (by omega) (by omega) ?_))
                intro z182 ez182 f183
                refine n_aload_n c_153_31 rfl (n_getV (bi := 0) c_153_32 sc_112.n rfl rfl rfl (t_dm hS hdm) ?_)
                intro z184 ez184 f185
                obtain rfl : z184 = 2 := by omega
                refine n_iremV c_153_35 (by omega) (by omega) ?_
                intro z186 ez186 f187
                refine n_istore (L2 := [some (2, 112), some (0, m), some (2, 127), some (0, f), some (0, 3), some (0, x), some (0, y), some (0, z0), some (0, ((((0 * 2) + z142) * 2) + z176)), some (0, 1), some (0, ((0 + 1) + 1)), some (0, z186)]) c_153_36 rfl rfl (n_iload_n c_153_38 rfl (n_iconst c_153_39 ?_))
                refine n_if2_le c_153_40 (by omega) (by omega) ?_ ?_
                · intro h188
                  exfalso; omega
                · intro h189
                  refine n_iload c_153_43 rfl (n_aload_n c_153_45 rfl (n_getV (bi := 0) c_153_46 sc_112.n rfl rfl rfl (t_dm hS hdm) ?_))
                  intro z190 ez190 f191
                  obtain rfl : z190 = 2 := by omega
                  refine n_imul c_153_49 rfl (n_iload c_153_50 rfl (n_iload c_153_52 rfl (n_idivV c_153_54 (by omega) (by omega) ?_)))
                  intro z192 ez192 f193
                  refine n_aload_n c_153_55 rfl (n_getV (bi := 0) c_153_56 sc_112.n rfl rfl rfl (t_dm hS hdm) ?_)
                  intro z194 ez194 f195
                  obtain rfl : z194 = 2 := by omega
                  refine n_iremV c_153_59 (by omega) (by omega) ?_
                  intro z196 ez196 f197
                  refine n_iadd c_153_60 rfl (n_istore (L2 := [some (2, 112), some (0, m), some (2, 127), some (0, f), some (0, 3), some (0, x), some (0, y), some (0, z0), some (0, ((((0 * 2) + z142) * 2) + z176)), some (0, 1), some (0, ((0 + 1) + 1)), some (0, ((z186 * 2) + z196))]) c_153_61 rfl rfl (n_iload_n c_153_63 rfl (n_iconst c_153_64 ?_)))
                  refine n_if2_le c_153_65 (by omega) (by omega) ?_ ?_
                  · intro h198
                    exfalso; omega
                  · intro h199
                    refine n_iload c_153_68 rfl (n_aload_n c_153_70 rfl (n_getV (bi := 0) c_153_71 sc_112.n rfl rfl rfl (t_dm hS hdm) ?_))
                    intro z200 ez200 f201
                    obtain rfl : z200 = 2 := by omega
                    refine n_imul c_153_74 rfl (n_iload c_153_75 rfl (n_iload c_153_77 rfl (n_idivV c_153_79 (by omega) (by omega) ?_)))
                    intro z202 ez202 f203
                    refine n_aload_n c_153_80 rfl (n_getV (bi := 0) c_153_81 sc_112.n rfl rfl rfl (t_dm hS hdm) ?_)
                    intro z204 ez204 f205
                    obtain rfl : z204 = 2 := by omega
                    refine n_iremV c_153_84 (by omega) (by omega) ?_
                    intro z206 ez206 f207
                    refine n_iadd c_153_85 rfl (n_istore (L2 := [some (2, 112), some (0, m), some (2, 127), some (0, f), some (0, 3), some (0, x), some (0, y), some (0, z0), some (0, ((((0 * 2) + z142) * 2) + z176)), some (0, 1), some (0, ((0 + 1) + 1)), some (0, ((((z186 * 2) + z196) * 2) + z206))]) c_153_86 rfl rfl (n_iload c_153_88 rfl (n_aload_n c_153_90 rfl (n_getV (bi := 0) c_153_91 sc_112.n rfl rfl rfl (t_dm hS hdm) ?_))))
                    intro z208 ez208 f209
                    obtain rfl : z208 = 2 := by omega
                    refine n_imul c_153_94 rfl (n_aload_n c_153_95 rfl (n_iload_n c_153_96 rfl (n_iload c_153_97 rfl (n_iadd c_153_99 rfl (n_ialoadV c_153_100 sc_127.n rfl rfl rfl (by omega) (t_127 hS (by omega)) ?_)))))
                    intro z210 ez210 f211
                    refine n_iadd c_153_101 rfl (n_istore (L2 := [some (2, 112), some (0, m), some (2, 127), some (0, f), some (0, 3), some (0, x), some (0, y), some (0, z0), some (0, ((((((0 * 2) + z142) * 2) + z176) * 2) + z210)), some (0, 1), some (0, ((0 + 1) + 1)), some (0, ((((z186 * 2) + z196) * 2) + z206))]) c_153_102 rfl rfl (n_iload c_153_104 rfl (n_aload_n c_153_106 rfl (n_getV (bi := 0) c_153_107 sc_112.n rfl rfl rfl (t_dm hS hdm) ?_))))
                    intro z212 ez212 f213
                    obtain rfl : z212 = 2 := by omega
                    refine n_idivT (z := 0) c_153_110 (by omega) (by omega) (by omega) (by decide) ?_
                    refine n_istore (L2 := [some (2, 112), some (0, m), some (2, 127), some (0, f), some (0, 3), some (0, x), some (0, y), some (0, z0), some (0, ((((((0 * 2) + z142) * 2) + z176) * 2) + z210)), some (0, 0), some (0, ((0 + 1) + 1)), some (0, ((((z186 * 2) + z196) * 2) + z206))]) c_153_111 rfl rfl (n_iinc (L2 := [some (2, 112), some (0, m), some (2, 127), some (0, f), some (0, 3), some (0, x), some (0, y), some (0, z0), some (0, ((((((0 * 2) + z142) * 2) + z176) * 2) + z210)), some (0, 0), some (0, (((0 + 1) + 1) + 1)), some (0, ((((z186 * 2) + z196) * 2) + z206))]) c_153_113 rfl rfl rfl (n_goto c_153_116 (n_iload c_153_19 rfl (n_iload c_153_21 rfl ?_))))
                    refine n_if2_ge c_153_23 (by omega) (by omega) ?_ ?_
                    · intro h214
                      refine n_iload c_153_119 rfl ?_
                      exact n_rI c_153_121 rfl ⟨rfl, by omega, by obtain rfl : m = 3 := (by omega); subst_vars; show _ = (M 127 (f + ((x / 4 % 2 * 2 + y / 4 % 2) * 2 + z0 / 4 % 2)) * 2 + M 127 (f + ((x / 2 % 2 * 2 + y / 2 % 2) * 2 + z0 / 2 % 2))) * 2 + M 127 (f + ((x % 2 * 2 + y % 2) * 2 + z0 % 2)); simp only [Int.ediv_one]; omega⟩
                    · intro h215
                      exfalso; omega

set_option maxHeartbeats 4000000 in
theorem escapesXH1_2_c {xs : List Int32} {e : Nat} {ac : Int} {M0 M : nM} {m f s : Int} (hS : Sf 2 ac M0 M) (hdm : M0 112 0 = 2) (hm : 1 ≤ m ∧ m ≤ 3) (hf : 0 ≤ f ∧ f ≤ 0) (hs : 0 ≤ s ∧ s ≤ 134217727) : ∀ nn : Nat, (∀ (x7 x8 : Int), (2 ≤ x7 ∧ x7 ≤ 2) → (0 ≤ x8 ∧ x8 ≤ 2) → (K1 2 m (fun i => M 127 (f + i)) 1 s x8) → (2 - x8) * 21 + 21 < (nn : Int) → nW xs (e + 2) 154 14 [some (2, 112), some (0, m), some (2, 127), some (0, f), some (0, 1), some (1, s), none, some (0, x7), some (0, x8), none, none, none] [] M (nPI fun z M1 => M = M1 ∧ (-1 ≤ z ∧ z ≤ 26) ∧ (ESC 2 m (fun i => M 127 (f + i)) 1 s z))) ∧ (∀ (x7 x8 x9 : Int), (2 ≤ x7 ∧ x7 ≤ 2) → (0 ≤ x8 ∧ x8 ≤ 1) → (0 ≤ x9 ∧ x9 ≤ 2) → (K1 2 m (fun i => M 127 (f + i)) 1 s x8) → (bt s x8) → (K2 2 m (fun i => M 127 (f + i)) 1 s x8 x9) → (x8 < 2) → (2 - x8) * 21 + (2 - x9) * 5 + 5 < (nn : Int) → nW xs (e + 2) 154 39 [some (2, 112), some (0, m), some (2, 127), some (0, f), some (0, 1), some (1, s), none, some (0, x7), some (0, x8), some (0, x9), none, none] [] M (nPI fun z M1 => M = M1 ∧ (-1 ≤ z ∧ z ≤ 26) ∧ (ESC 2 m (fun i => M 127 (f + i)) 1 s z))) ∧ (∀ (x7 x8 x9 x10 : Int), (2 ≤ x7 ∧ x7 ≤ 2) → (0 ≤ x8 ∧ x8 ≤ 1) → (0 ≤ x9 ∧ x9 ≤ 1) → (0 ≤ x10 ∧ x10 ≤ 2) → (K1 2 m (fun i => M 127 (f + i)) 1 s x8) → (bt s x8) → (K2 2 m (fun i => M 127 (f + i)) 1 s x8 x9) → (1 < m → bt s x9) → (x9 < ly m (pw 2 1)) → (K3 2 m (fun i => M 127 (f + i)) 1 s x8 x9 x10) → (x8 < 2) → (2 - x8) * 21 + (2 - x9) * 5 + (2 - x10) * 1 + 1 < (nn : Int) → nW xs (e + 2) 154 78 [some (2, 112), some (0, m), some (2, 127), some (0, f), some (0, 1), some (1, s), none, some (0, x7), some (0, x8), some (0, x9), some (0, x10), none] [] M (nPI fun z M1 => M = M1 ∧ (-1 ≤ z ∧ z ≤ 26) ∧ (ESC 2 m (fun i => M 127 (f + i)) 1 s z))) := by
  have hd : (2 : Int) = 2 ∨ (2 : Int) = 3 := by decide
  have hac := hS.2.2.2.2
  have hpw : pw 2 1 = 2 := by decide
  intro nn
  induction nn with
  | zero => refine ⟨?_, ?_, ?_⟩ <;> (intros; omega)
  | succ nn ih =>
    refine ⟨?_, ?_, ?_⟩
    · intro x7 x8 k7 k8 v0 hnn
      refine n_iload c_154_14 rfl (n_iload c_154_16 rfl ?_)
      refine n_if2_ge c_154_18 (by omega) (by omega) ?_ ?_
      · intro h1
        refine n_iconst c_154_164 ?_
        exact n_rI c_154_165 rfl ⟨rfl, by omega, by exact Or.inl ⟨rfl, K1.all (by omega) (by omega) v0 (by omega)⟩⟩
      · intro h2
        refine n_lload c_154_21 rfl (n_iload c_154_23 rfl (n_i_lshr c_154_25 rfl ?_))
        have f3 := n_lshr_r s x8
        generalize gz4 : (n_lshr s x8) = z4 at f3 ⊢
        refine n_lconst (n := 1) c_154_26 rfl (n_i_land c_154_27 rfl ?_)
        have f5 := n_land_r z4 1
        generalize gz6 : (n_land z4 1) = z6 at f5 ⊢
        have hb27 : z6 = s / 2 ^ (x8).toNat % 2 := by rw [← gz6, ← gz4]; exact lb_v (by omega) (by omega)
        refine n_lconst (n := 0) c_154_28 rfl (n_lcmp c_154_29 ?_)
        refine n_lif_ne c_154_30 (by omega) (by omega) ?_ ?_
        · intro h7
          refine n_iconst c_154_36 (n_istore (L2 := [some (2, 112), some (0, m), some (2, 127), some (0, f), some (0, 1), some (1, s), none, some (0, x7), some (0, x8), some (0, 0), none, none]) c_154_37 rfl rfl (n_fg (le_s (le_s (le_s (le_s (le_s (le_s (le_n (le_s (le_s (le_s (le_n (le_n le_0)))))))))))) ?_))
          exact ih.2.1 _ _ _ (by omega) (by omega) (by omega) (by exact v0) (by unfold bt; omega) (by exact fun y w h0 h1 => by omega) (by omega) (by omega)
        · intro h8
          refine n_goto c_154_33 (n_iinc (L2 := [some (2, 112), some (0, m), some (2, 127), some (0, f), some (0, 1), some (1, s), none, some (0, x7), some (0, (x8 + 1)), none, none, none]) c_154_158 rfl rfl rfl (n_goto c_154_161 (n_fg (le_s (le_s (le_s (le_s (le_s (le_s (le_n (le_s (le_s (le_n (le_n (le_n le_0)))))))))))) ?_)))
          exact ih.1 _ _ (by omega) (by omega) (by exact K1.skip v0 (by unfold bt; omega)) (by omega)
    · intro x7 x8 x9 k7 k8 k9 v0 v1 v2 v3 hnn
      refine n_iload c_154_39 rfl (n_iload_n c_154_41 rfl (n_iconst c_154_42 ?_))
      refine n_if2_le c_154_43 (by omega) (by omega) ?_ ?_
      · intro h1
        refine n_iconst c_154_51 ?_
        refine n_if2_ge c_154_52 (by omega) (by omega) ?_ ?_
        · intro h2
          refine n_iinc (L2 := [some (2, 112), some (0, m), some (2, 127), some (0, f), some (0, 1), some (1, s), none, some (0, x7), some (0, (x8 + 1)), some (0, x9), none, none]) c_154_158 rfl rfl rfl (n_goto c_154_161 (n_fg (le_s (le_s (le_s (le_s (le_s (le_s (le_n (le_s (le_s (le_n (le_n (le_n le_0)))))))))))) ?_))
          exact ih.1 _ _ (by omega) (by omega) (by exact K1.step v0 v2 (by show (if 1 < m then pw 2 1 else 1) ≤ x9; split <;> omega)) (by omega)
        · intro h3
          refine n_iload_n c_154_55 rfl (n_iconst c_154_56 ?_)
          refine n_if2_le c_154_57 (by omega) (by omega) ?_ ?_
          · intro h4
            refine n_iconst c_154_75 (n_istore (L2 := [some (2, 112), some (0, m), some (2, 127), some (0, f), some (0, 1), some (1, s), none, some (0, x7), some (0, x8), some (0, x9), some (0, 0), none]) c_154_76 rfl rfl (n_fg (le_s (le_s (le_s (le_s (le_s (le_s (le_n (le_s (le_s (le_s (le_s (le_n le_0)))))))))))) ?_))
            exact ih.2.2 _ _ _ _ (by omega) (by omega) (by omega) (by omega) (by exact v0) (by exact v1) (by exact v2) (by exact fun q => by unfold bt; omega) (by show x9 < (if 1 < m then pw 2 1 else 1); split <;> omega) (by exact fun w h0 h1 => by omega) (by omega) (by omega)
          · intro h5
            exfalso; omega
      · intro h6
        refine n_iload c_154_46 rfl (n_goto c_154_48 ?_)
        refine n_if2_ge c_154_52 (by omega) (by omega) ?_ ?_
        · intro h7
          refine n_iinc (L2 := [some (2, 112), some (0, m), some (2, 127), some (0, f), some (0, 1), some (1, s), none, some (0, x7), some (0, (x8 + 1)), some (0, x9), none, none]) c_154_158 rfl rfl rfl (n_goto c_154_161 (n_fg (le_s (le_s (le_s (le_s (le_s (le_s (le_n (le_s (le_s (le_n (le_n (le_n le_0)))))))))))) ?_))
          exact ih.1 _ _ (by omega) (by omega) (by exact K1.step v0 v2 (by show (if 1 < m then pw 2 1 else 1) ≤ x9; split <;> omega)) (by omega)
        · intro h8
          refine n_iload_n c_154_55 rfl (n_iconst c_154_56 ?_)
          refine n_if2_le c_154_57 (by omega) (by omega) ?_ ?_
          · intro h9
            exfalso; omega
          · intro h10
            refine n_lload c_154_60 rfl (n_iload c_154_62 rfl (n_i_lshr c_154_64 rfl ?_))
            have f11 := n_lshr_r s x9
            generalize gz12 : (n_lshr s x9) = z12 at f11 ⊢
            refine n_lconst (n := 1) c_154_65 rfl (n_i_land c_154_66 rfl ?_)
            have f13 := n_land_r z12 1
            generalize gz14 : (n_land z12 1) = z14 at f13 ⊢
            have hb66 : z14 = s / 2 ^ (x9).toNat % 2 := by rw [← gz14, ← gz12]; exact lb_v (by omega) (by omega)
            refine n_lconst (n := 0) c_154_67 rfl (n_lcmp c_154_68 ?_)
            refine n_lif_ne c_154_69 (by omega) (by omega) ?_ ?_
            · intro h15
              refine n_iconst c_154_75 (n_istore (L2 := [some (2, 112), some (0, m), some (2, 127), some (0, f), some (0, 1), some (1, s), none, some (0, x7), some (0, x8), some (0, x9), some (0, 0), none]) c_154_76 rfl rfl (n_fg (le_s (le_s (le_s (le_s (le_s (le_s (le_n (le_s (le_s (le_s (le_s (le_n le_0)))))))))))) ?_))
              exact ih.2.2 _ _ _ _ (by omega) (by omega) (by omega) (by omega) (by exact v0) (by exact v1) (by exact v2) (by exact fun q => by unfold bt; omega) (by show x9 < (if 1 < m then pw 2 1 else 1); split <;> omega) (by exact fun w h0 h1 => by omega) (by omega) (by omega)
            · intro h16
              refine n_goto c_154_72 (n_iinc (L2 := [some (2, 112), some (0, m), some (2, 127), some (0, f), some (0, 1), some (1, s), none, some (0, x7), some (0, x8), some (0, (x9 + 1)), none, none]) c_154_152 rfl rfl rfl (n_goto c_154_155 (n_fg (le_s (le_s (le_s (le_s (le_s (le_s (le_n (le_s (le_s (le_s (le_n (le_n le_0)))))))))))) ?_)))
              exact ih.2.1 _ _ _ (by omega) (by omega) (by omega) (by exact v0) (by exact v1) (by exact K2.skip v2 ⟨by omega, by unfold bt; omega⟩) (by omega) (by omega)
    · intro x7 x8 x9 x10 k7 k8 k9 k10 v0 v1 v2 v3 v4 v5 v6 hnn
      refine n_iload c_154_78 rfl (n_iload_n c_154_80 rfl (n_iconst c_154_81 ?_))
      refine n_if2_le c_154_82 (by omega) (by omega) ?_ ?_
      · intro h1
        refine n_iconst c_154_90 ?_
        refine n_if2_ge c_154_91 (by omega) (by omega) ?_ ?_
        · intro h2
          refine n_iinc (L2 := [some (2, 112), some (0, m), some (2, 127), some (0, f), some (0, 1), some (1, s), none, some (0, x7), some (0, x8), some (0, (x9 + 1)), some (0, x10), none]) c_154_152 rfl rfl rfl (n_goto c_154_155 (n_fg (le_s (le_s (le_s (le_s (le_s (le_s (le_n (le_s (le_s (le_s (le_n (le_n le_0)))))))))))) ?_))
          exact ih.2.1 _ _ _ (by omega) (by omega) (by omega) (by exact v0) (by exact v1) (by exact K2.step v2 v5 (by show (if 2 < m then pw 2 1 else 1) ≤ x10; split <;> omega)) (by omega) (by omega)
        · intro h3
          refine n_iload_n c_154_94 rfl (n_iconst c_154_95 ?_)
          refine n_if2_le c_154_96 (by omega) (by omega) ?_ ?_
          · intro h4
            refine n_aload_n c_154_114 rfl (n_iload_n c_154_115 rfl (n_aload_n c_154_116 rfl (n_iload_n c_154_117 rfl (n_iload c_154_118 rfl (n_iload c_154_120 rfl (n_iload c_154_122 rfl (n_iload c_154_124 rfl (n_v7I c_154_126 rfl sc_112.n rfl rfl rfl rfl (imageXH1_2 (m := m) (f := f) (x := x8) (y := x9) (z0 := x10) hS hdm (by omega) (by omega) (by omega) (by omega) (by omega)) ?_))))))))
            intro z5 M6 hP7
            obtain ⟨eM, f7, f7p0⟩ := hP7
            subst eM
            refine n_istore (L2 := [some (2, 112), some (0, m), some (2, 127), some (0, f), some (0, 1), some (1, s), none, some (0, x7), some (0, x8), some (0, x9), some (0, x10), some (0, z5)]) c_154_129 rfl rfl (n_lload c_154_131 rfl (n_iload c_154_133 rfl (n_i_lshr c_154_135 rfl ?_)))
            have f8 := n_lshr_r s z5
            generalize gz9 : (n_lshr s z5) = z9 at f8 ⊢
            refine n_lconst (n := 1) c_154_136 rfl (n_i_land c_154_137 rfl ?_)
            have f10 := n_land_r z9 1
            generalize gz11 : (n_land z9 1) = z11 at f10 ⊢
            have hb137 : z11 = s / 2 ^ (z5).toNat % 2 := by rw [← gz11, ← gz9]; exact lb_v (by omega) (by omega)
            refine n_lconst (n := 0) c_154_138 rfl (n_lcmp c_154_139 ?_)
            refine n_lif_ne c_154_140 (by omega) (by omega) ?_ ?_
            · intro h12
              refine n_iinc (L2 := [some (2, 112), some (0, m), some (2, 127), some (0, f), some (0, 1), some (1, s), none, some (0, x7), some (0, x8), some (0, x9), some (0, (x10 + 1)), some (0, z5)]) c_154_146 rfl rfl rfl (n_goto c_154_149 (n_fg (le_s (le_s (le_s (le_s (le_s (le_s (le_n (le_s (le_s (le_s (le_s (le_n le_0)))))))))))) ?_))
              exact ih.2.2 _ _ _ _ (by omega) (by omega) (by omega) (by omega) (by exact v0) (by exact v1) (by exact v2) (by exact v3) (by exact v4) (by exact K3.step v5 (fun _ _ _ => by rw [← f7p0]; unfold bt; omega)) (by omega) (by omega)
            · intro h13
              refine n_iload c_154_143 rfl ?_
              exact n_rI c_154_145 rfl ⟨rfl, by omega, by exact Or.inr ⟨by omega, by unfold bt; omega, x8, x9, x10, ⟨by omega, by omega, v1⟩, fun q => ⟨by omega, ly_e v4 q, v3 q⟩, fun q => ⟨by omega, by omega, by unfold bt; omega⟩, f7p0⟩⟩
          · intro h14
            exfalso; omega
      · intro h15
        refine n_iload c_154_85 rfl (n_goto c_154_87 ?_)
        refine n_if2_ge c_154_91 (by omega) (by omega) ?_ ?_
        · intro h16
          refine n_iinc (L2 := [some (2, 112), some (0, m), some (2, 127), some (0, f), some (0, 1), some (1, s), none, some (0, x7), some (0, x8), some (0, (x9 + 1)), some (0, x10), none]) c_154_152 rfl rfl rfl (n_goto c_154_155 (n_fg (le_s (le_s (le_s (le_s (le_s (le_s (le_n (le_s (le_s (le_s (le_n (le_n le_0)))))))))))) ?_))
          exact ih.2.1 _ _ _ (by omega) (by omega) (by omega) (by exact v0) (by exact v1) (by exact K2.step v2 v5 (by show (if 2 < m then pw 2 1 else 1) ≤ x10; split <;> omega)) (by omega) (by omega)
        · intro h17
          refine n_iload_n c_154_94 rfl (n_iconst c_154_95 ?_)
          refine n_if2_le c_154_96 (by omega) (by omega) ?_ ?_
          · intro h18
            exfalso; omega
          · intro h19
            refine n_lload c_154_99 rfl (n_iload c_154_101 rfl (n_i_lshr c_154_103 rfl ?_))
            have f20 := n_lshr_r s x10
            generalize gz21 : (n_lshr s x10) = z21 at f20 ⊢
            refine n_lconst (n := 1) c_154_104 rfl (n_i_land c_154_105 rfl ?_)
            have f22 := n_land_r z21 1
            generalize gz23 : (n_land z21 1) = z23 at f22 ⊢
            have hb105 : z23 = s / 2 ^ (x10).toNat % 2 := by rw [← gz23, ← gz21]; exact lb_v (by omega) (by omega)
            refine n_lconst (n := 0) c_154_106 rfl (n_lcmp c_154_107 ?_)
            refine n_lif_ne c_154_108 (by omega) (by omega) ?_ ?_
            · intro h24
              refine n_aload_n c_154_114 rfl (n_iload_n c_154_115 rfl (n_aload_n c_154_116 rfl (n_iload_n c_154_117 rfl (n_iload c_154_118 rfl (n_iload c_154_120 rfl (n_iload c_154_122 rfl (n_iload c_154_124 rfl (n_v7I c_154_126 rfl sc_112.n rfl rfl rfl rfl (imageXH1_2 (m := m) (f := f) (x := x8) (y := x9) (z0 := x10) hS hdm (by omega) (by omega) (by omega) (by omega) (by omega)) ?_))))))))
              intro z25 M26 hP27
              obtain ⟨eM, f27, f27p0⟩ := hP27
              subst eM
              refine n_istore (L2 := [some (2, 112), some (0, m), some (2, 127), some (0, f), some (0, 1), some (1, s), none, some (0, x7), some (0, x8), some (0, x9), some (0, x10), some (0, z25)]) c_154_129 rfl rfl (n_lload c_154_131 rfl (n_iload c_154_133 rfl (n_i_lshr c_154_135 rfl ?_)))
              have f28 := n_lshr_r s z25
              generalize gz29 : (n_lshr s z25) = z29 at f28 ⊢
              refine n_lconst (n := 1) c_154_136 rfl (n_i_land c_154_137 rfl ?_)
              have f30 := n_land_r z29 1
              generalize gz31 : (n_land z29 1) = z31 at f30 ⊢
              have hb137 : z31 = s / 2 ^ (z25).toNat % 2 := by rw [← gz31, ← gz29]; exact lb_v (by omega) (by omega)
              refine n_lconst (n := 0) c_154_138 rfl (n_lcmp c_154_139 ?_)
              refine n_lif_ne c_154_140 (by omega) (by omega) ?_ ?_
              · intro h32
                refine n_iinc (L2 := [some (2, 112), some (0, m), some (2, 127), some (0, f), some (0, 1), some (1, s), none, some (0, x7), some (0, x8), some (0, x9), some (0, (x10 + 1)), some (0, z25)]) c_154_146 rfl rfl rfl (n_goto c_154_149 (n_fg (le_s (le_s (le_s (le_s (le_s (le_s (le_n (le_s (le_s (le_s (le_s (le_n le_0)))))))))))) ?_))
                exact ih.2.2 _ _ _ _ (by omega) (by omega) (by omega) (by omega) (by exact v0) (by exact v1) (by exact v2) (by exact v3) (by exact v4) (by exact K3.step v5 (fun _ _ _ => by rw [← f27p0]; unfold bt; omega)) (by omega) (by omega)
              · intro h33
                refine n_iload c_154_143 rfl ?_
                exact n_rI c_154_145 rfl ⟨rfl, by omega, by exact Or.inr ⟨by omega, by unfold bt; omega, x8, x9, x10, ⟨by omega, by omega, v1⟩, fun q => ⟨by omega, ly_e v4 q, v3 q⟩, fun q => ⟨by omega, by omega, by unfold bt; omega⟩, f27p0⟩⟩
            · intro h34
              refine n_goto c_154_111 (n_iinc (L2 := [some (2, 112), some (0, m), some (2, 127), some (0, f), some (0, 1), some (1, s), none, some (0, x7), some (0, x8), some (0, x9), some (0, (x10 + 1)), none]) c_154_146 rfl rfl rfl (n_goto c_154_149 (n_fg (le_s (le_s (le_s (le_s (le_s (le_s (le_n (le_s (le_s (le_s (le_s (le_n le_0)))))))))))) ?_)))
              exact ih.2.2 _ _ _ _ (by omega) (by omega) (by omega) (by omega) (by exact v0) (by exact v1) (by exact v2) (by exact v3) (by exact v4) (by exact K3.step v5 (fun _ _ q => absurd (q (by omega)) (by unfold bt; omega))) (by omega) (by omega)
set_option maxHeartbeats 4000000 in
theorem escapesXH1_2 {xs : List Int32} {e : Nat} {ac : Int} {M0 M : nM} {m f s : Int} (hS : Sf 2 ac M0 M) (hdm : M0 112 0 = 2) (hm : 1 ≤ m ∧ m ≤ 3) (hf : 0 ≤ f ∧ f ≤ 0) (hs : 0 ≤ s ∧ s ≤ 134217727) : nW xs (e + 2) 154 0 [some (2, 112), some (0, m), some (2, 127), some (0, f), some (0, 1), some (1, s), none, none, none, none, none, none] [] M (nPI fun z M1 => M = M1 ∧ (-1 ≤ z ∧ z ≤ 26) ∧ (ESC 2 m (fun i => M 127 (f + i)) 1 s z)) := by
  have hd : (2 : Int) = 2 ∨ (2 : Int) = 3 := by decide
  have hac := hS.2.2.2.2
  have hpw : pw 2 1 = 2 := by decide
  refine n_aload_n c_154_0 rfl (n_getV (bi := 0) c_154_1 sc_112.n rfl rfl rfl (t_dm hS hdm) ?_)
  intro z1 ez1 f2
  obtain rfl : z1 = 2 := by omega
  refine n_iload c_154_4 rfl (n_s2I c_154_6 rfl rfl rfl rfl (mpower1_2  hS ) ?_)
  intro z3 M4 hP5
  obtain ⟨eM, f5⟩ := hP5
  subst eM
  obtain rfl : z3 = 2 := by omega
  refine n_istore (L2 := [some (2, 112), some (0, m), some (2, 127), some (0, f), some (0, 1), some (1, s), none, some (0, 2), none, none, none, none]) c_154_9 rfl rfl (n_iconst c_154_11 (n_istore (L2 := [some (2, 112), some (0, m), some (2, 127), some (0, f), some (0, 1), some (1, s), none, some (0, 2), some (0, 0), none, none, none]) c_154_12 rfl rfl (n_fg (le_s (le_s (le_s (le_s (le_s (le_s (le_n (le_s (le_s (le_n (le_n (le_n le_0)))))))))))) ?_)))
  exact (escapesXH1_2_c hS hdm hm hf hs 178).1 _ _ (by omega) (by omega) (by exact fun x y w h0 h1 => by omega) (by omega)

set_option maxHeartbeats 4000000 in
theorem escapesXH2_2_c {xs : List Int32} {e : Nat} {ac : Int} {M0 M : nM} {m f s : Int} (hS : Sf 2 ac M0 M) (hdm : M0 112 0 = 2) (hm : 1 ≤ m ∧ m ≤ 3) (hf : 0 ≤ f ∧ f ≤ 0) (hs : 0 ≤ s ∧ s ≤ 134217727) : ∀ nn : Nat, (∀ (x7 x8 : Int), (4 ≤ x7 ∧ x7 ≤ 4) → (0 ≤ x8 ∧ x8 ≤ 4) → (K1 2 m (fun i => M 127 (f + i)) 2 s x8) → (4 - x8) * 43 + 43 < (nn : Int) → nW xs (e + 2) 154 14 [some (2, 112), some (0, m), some (2, 127), some (0, f), some (0, 2), some (1, s), none, some (0, x7), some (0, x8), none, none, none] [] M (nPI fun z M1 => M = M1 ∧ (-1 ≤ z ∧ z ≤ 26) ∧ (ESC 2 m (fun i => M 127 (f + i)) 2 s z))) ∧ (∀ (x7 x8 x9 : Int), (4 ≤ x7 ∧ x7 ≤ 4) → (0 ≤ x8 ∧ x8 ≤ 3) → (0 ≤ x9 ∧ x9 ≤ 4) → (K1 2 m (fun i => M 127 (f + i)) 2 s x8) → (bt s x8) → (K2 2 m (fun i => M 127 (f + i)) 2 s x8 x9) → (x8 < 4) → (4 - x8) * 43 + (4 - x9) * 7 + 7 < (nn : Int) → nW xs (e + 2) 154 39 [some (2, 112), some (0, m), some (2, 127), some (0, f), some (0, 2), some (1, s), none, some (0, x7), some (0, x8), some (0, x9), none, none] [] M (nPI fun z M1 => M = M1 ∧ (-1 ≤ z ∧ z ≤ 26) ∧ (ESC 2 m (fun i => M 127 (f + i)) 2 s z))) ∧ (∀ (x7 x8 x9 x10 : Int), (4 ≤ x7 ∧ x7 ≤ 4) → (0 ≤ x8 ∧ x8 ≤ 3) → (0 ≤ x9 ∧ x9 ≤ 3) → (0 ≤ x10 ∧ x10 ≤ 4) → (K1 2 m (fun i => M 127 (f + i)) 2 s x8) → (bt s x8) → (K2 2 m (fun i => M 127 (f + i)) 2 s x8 x9) → (1 < m → bt s x9) → (x9 < ly m (pw 2 2)) → (K3 2 m (fun i => M 127 (f + i)) 2 s x8 x9 x10) → (x8 < 4) → (4 - x8) * 43 + (4 - x9) * 7 + (4 - x10) * 1 + 1 < (nn : Int) → nW xs (e + 2) 154 78 [some (2, 112), some (0, m), some (2, 127), some (0, f), some (0, 2), some (1, s), none, some (0, x7), some (0, x8), some (0, x9), some (0, x10), none] [] M (nPI fun z M1 => M = M1 ∧ (-1 ≤ z ∧ z ≤ 26) ∧ (ESC 2 m (fun i => M 127 (f + i)) 2 s z))) := by
  have hd : (2 : Int) = 2 ∨ (2 : Int) = 3 := by decide
  have hac := hS.2.2.2.2
  have hpw : pw 2 2 = 4 := by decide
  intro nn
  induction nn with
  | zero => refine ⟨?_, ?_, ?_⟩ <;> (intros; omega)
  | succ nn ih =>
    refine ⟨?_, ?_, ?_⟩
    · intro x7 x8 k7 k8 v0 hnn
      refine n_iload c_154_14 rfl (n_iload c_154_16 rfl ?_)
      refine n_if2_ge c_154_18 (by omega) (by omega) ?_ ?_
      · intro h1
        refine n_iconst c_154_164 ?_
        exact n_rI c_154_165 rfl ⟨rfl, by omega, by exact Or.inl ⟨rfl, K1.all (by omega) (by omega) v0 (by omega)⟩⟩
      · intro h2
        refine n_lload c_154_21 rfl (n_iload c_154_23 rfl (n_i_lshr c_154_25 rfl ?_))
        have f3 := n_lshr_r s x8
        generalize gz4 : (n_lshr s x8) = z4 at f3 ⊢
        refine n_lconst (n := 1) c_154_26 rfl (n_i_land c_154_27 rfl ?_)
        have f5 := n_land_r z4 1
        generalize gz6 : (n_land z4 1) = z6 at f5 ⊢
        have hb27 : z6 = s / 2 ^ (x8).toNat % 2 := by rw [← gz6, ← gz4]; exact lb_v (by omega) (by omega)
        refine n_lconst (n := 0) c_154_28 rfl (n_lcmp c_154_29 ?_)
        refine n_lif_ne c_154_30 (by omega) (by omega) ?_ ?_
        · intro h7
          refine n_iconst c_154_36 (n_istore (L2 := [some (2, 112), some (0, m), some (2, 127), some (0, f), some (0, 2), some (1, s), none, some (0, x7), some (0, x8), some (0, 0), none, none]) c_154_37 rfl rfl (n_fg (le_s (le_s (le_s (le_s (le_s (le_s (le_n (le_s (le_s (le_s (le_n (le_n le_0)))))))))))) ?_))
          exact ih.2.1 _ _ _ (by omega) (by omega) (by omega) (by exact v0) (by unfold bt; omega) (by exact fun y w h0 h1 => by omega) (by omega) (by omega)
        · intro h8
          refine n_goto c_154_33 (n_iinc (L2 := [some (2, 112), some (0, m), some (2, 127), some (0, f), some (0, 2), some (1, s), none, some (0, x7), some (0, (x8 + 1)), none, none, none]) c_154_158 rfl rfl rfl (n_goto c_154_161 (n_fg (le_s (le_s (le_s (le_s (le_s (le_s (le_n (le_s (le_s (le_n (le_n (le_n le_0)))))))))))) ?_)))
          exact ih.1 _ _ (by omega) (by omega) (by exact K1.skip v0 (by unfold bt; omega)) (by omega)
    · intro x7 x8 x9 k7 k8 k9 v0 v1 v2 v3 hnn
      refine n_iload c_154_39 rfl (n_iload_n c_154_41 rfl (n_iconst c_154_42 ?_))
      refine n_if2_le c_154_43 (by omega) (by omega) ?_ ?_
      · intro h1
        refine n_iconst c_154_51 ?_
        refine n_if2_ge c_154_52 (by omega) (by omega) ?_ ?_
        · intro h2
          refine n_iinc (L2 := [some (2, 112), some (0, m), some (2, 127), some (0, f), some (0, 2), some (1, s), none, some (0, x7), some (0, (x8 + 1)), some (0, x9), none, none]) c_154_158 rfl rfl rfl (n_goto c_154_161 (n_fg (le_s (le_s (le_s (le_s (le_s (le_s (le_n (le_s (le_s (le_n (le_n (le_n le_0)))))))))))) ?_))
          exact ih.1 _ _ (by omega) (by omega) (by exact K1.step v0 v2 (by show (if 1 < m then pw 2 2 else 1) ≤ x9; split <;> omega)) (by omega)
        · intro h3
          refine n_iload_n c_154_55 rfl (n_iconst c_154_56 ?_)
          refine n_if2_le c_154_57 (by omega) (by omega) ?_ ?_
          · intro h4
            refine n_iconst c_154_75 (n_istore (L2 := [some (2, 112), some (0, m), some (2, 127), some (0, f), some (0, 2), some (1, s), none, some (0, x7), some (0, x8), some (0, x9), some (0, 0), none]) c_154_76 rfl rfl (n_fg (le_s (le_s (le_s (le_s (le_s (le_s (le_n (le_s (le_s (le_s (le_s (le_n le_0)))))))))))) ?_))
            exact ih.2.2 _ _ _ _ (by omega) (by omega) (by omega) (by omega) (by exact v0) (by exact v1) (by exact v2) (by exact fun q => by unfold bt; omega) (by show x9 < (if 1 < m then pw 2 2 else 1); split <;> omega) (by exact fun w h0 h1 => by omega) (by omega) (by omega)
          · intro h5
            exfalso; omega
      · intro h6
        refine n_iload c_154_46 rfl (n_goto c_154_48 ?_)
        refine n_if2_ge c_154_52 (by omega) (by omega) ?_ ?_
        · intro h7
          refine n_iinc (L2 := [some (2, 112), some (0, m), some (2, 127), some (0, f), some (0, 2), some (1, s), none, some (0, x7), some (0, (x8 + 1)), some (0, x9), none, none]) c_154_158 rfl rfl rfl (n_goto c_154_161 (n_fg (le_s (le_s (le_s (le_s (le_s (le_s (le_n (le_s (le_s (le_n (le_n (le_n le_0)))))))))))) ?_))
          exact ih.1 _ _ (by omega) (by omega) (by exact K1.step v0 v2 (by show (if 1 < m then pw 2 2 else 1) ≤ x9; split <;> omega)) (by omega)
        · intro h8
          refine n_iload_n c_154_55 rfl (n_iconst c_154_56 ?_)
          refine n_if2_le c_154_57 (by omega) (by omega) ?_ ?_
          · intro h9
            exfalso; omega
          · intro h10
            refine n_lload c_154_60 rfl (n_iload c_154_62 rfl (n_i_lshr c_154_64 rfl ?_))
            have f11 := n_lshr_r s x9
            generalize gz12 : (n_lshr s x9) = z12 at f11 ⊢
            refine n_lconst (n := 1) c_154_65 rfl (n_i_land c_154_66 rfl ?_)
            have f13 := n_land_r z12 1
            generalize gz14 : (n_land z12 1) = z14 at f13 ⊢
            have hb66 : z14 = s / 2 ^ (x9).toNat % 2 := by rw [← gz14, ← gz12]; exact lb_v (by omega) (by omega)
            refine n_lconst (n := 0) c_154_67 rfl (n_lcmp c_154_68 ?_)
            refine n_lif_ne c_154_69 (by omega) (by omega) ?_ ?_
            · intro h15
              refine n_iconst c_154_75 (n_istore (L2 := [some (2, 112), some (0, m), some (2, 127), some (0, f), some (0, 2), some (1, s), none, some (0, x7), some (0, x8), some (0, x9), some (0, 0), none]) c_154_76 rfl rfl (n_fg (le_s (le_s (le_s (le_s (le_s (le_s (le_n (le_s (le_s (le_s (le_s (le_n le_0)))))))))))) ?_))
              exact ih.2.2 _ _ _ _ (by omega) (by omega) (by omega) (by omega) (by exact v0) (by exact v1) (by exact v2) (by exact fun q => by unfold bt; omega) (by show x9 < (if 1 < m then pw 2 2 else 1); split <;> omega) (by exact fun w h0 h1 => by omega) (by omega) (by omega)
            · intro h16
              refine n_goto c_154_72 (n_iinc (L2 := [some (2, 112), some (0, m), some (2, 127), some (0, f), some (0, 2), some (1, s), none, some (0, x7), some (0, x8), some (0, (x9 + 1)), none, none]) c_154_152 rfl rfl rfl (n_goto c_154_155 (n_fg (le_s (le_s (le_s (le_s (le_s (le_s (le_n (le_s (le_s (le_s (le_n (le_n le_0)))))))))))) ?_)))
              exact ih.2.1 _ _ _ (by omega) (by omega) (by omega) (by exact v0) (by exact v1) (by exact K2.skip v2 ⟨by omega, by unfold bt; omega⟩) (by omega) (by omega)
    · intro x7 x8 x9 x10 k7 k8 k9 k10 v0 v1 v2 v3 v4 v5 v6 hnn
      refine n_iload c_154_78 rfl (n_iload_n c_154_80 rfl (n_iconst c_154_81 ?_))
      refine n_if2_le c_154_82 (by omega) (by omega) ?_ ?_
      · intro h1
        refine n_iconst c_154_90 ?_
        refine n_if2_ge c_154_91 (by omega) (by omega) ?_ ?_
        · intro h2
          refine n_iinc (L2 := [some (2, 112), some (0, m), some (2, 127), some (0, f), some (0, 2), some (1, s), none, some (0, x7), some (0, x8), some (0, (x9 + 1)), some (0, x10), none]) c_154_152 rfl rfl rfl (n_goto c_154_155 (n_fg (le_s (le_s (le_s (le_s (le_s (le_s (le_n (le_s (le_s (le_s (le_n (le_n le_0)))))))))))) ?_))
          exact ih.2.1 _ _ _ (by omega) (by omega) (by omega) (by exact v0) (by exact v1) (by exact K2.step v2 v5 (by show (if 2 < m then pw 2 2 else 1) ≤ x10; split <;> omega)) (by omega) (by omega)
        · intro h3
          refine n_iload_n c_154_94 rfl (n_iconst c_154_95 ?_)
          refine n_if2_le c_154_96 (by omega) (by omega) ?_ ?_
          · intro h4
            refine n_aload_n c_154_114 rfl (n_iload_n c_154_115 rfl (n_aload_n c_154_116 rfl (n_iload_n c_154_117 rfl (n_iload c_154_118 rfl (n_iload c_154_120 rfl (n_iload c_154_122 rfl (n_iload c_154_124 rfl (n_v7I c_154_126 rfl sc_112.n rfl rfl rfl rfl (imageXH2_2 (m := m) (f := f) (x := x8) (y := x9) (z0 := x10) hS hdm (by omega) (by omega) (by omega) (by omega) (by omega)) ?_))))))))
            intro z5 M6 hP7
            obtain ⟨eM, f7, f7p0⟩ := hP7
            subst eM
            refine n_istore (L2 := [some (2, 112), some (0, m), some (2, 127), some (0, f), some (0, 2), some (1, s), none, some (0, x7), some (0, x8), some (0, x9), some (0, x10), some (0, z5)]) c_154_129 rfl rfl (n_lload c_154_131 rfl (n_iload c_154_133 rfl (n_i_lshr c_154_135 rfl ?_)))
            have f8 := n_lshr_r s z5
            generalize gz9 : (n_lshr s z5) = z9 at f8 ⊢
            refine n_lconst (n := 1) c_154_136 rfl (n_i_land c_154_137 rfl ?_)
            have f10 := n_land_r z9 1
            generalize gz11 : (n_land z9 1) = z11 at f10 ⊢
            have hb137 : z11 = s / 2 ^ (z5).toNat % 2 := by rw [← gz11, ← gz9]; exact lb_v (by omega) (by omega)
            refine n_lconst (n := 0) c_154_138 rfl (n_lcmp c_154_139 ?_)
            refine n_lif_ne c_154_140 (by omega) (by omega) ?_ ?_
            · intro h12
              refine n_iinc (L2 := [some (2, 112), some (0, m), some (2, 127), some (0, f), some (0, 2), some (1, s), none, some (0, x7), some (0, x8), some (0, x9), some (0, (x10 + 1)), some (0, z5)]) c_154_146 rfl rfl rfl (n_goto c_154_149 (n_fg (le_s (le_s (le_s (le_s (le_s (le_s (le_n (le_s (le_s (le_s (le_s (le_n le_0)))))))))))) ?_))
              exact ih.2.2 _ _ _ _ (by omega) (by omega) (by omega) (by omega) (by exact v0) (by exact v1) (by exact v2) (by exact v3) (by exact v4) (by exact K3.step v5 (fun _ _ _ => by rw [← f7p0]; unfold bt; omega)) (by omega) (by omega)
            · intro h13
              refine n_iload c_154_143 rfl ?_
              exact n_rI c_154_145 rfl ⟨rfl, by omega, by exact Or.inr ⟨by omega, by unfold bt; omega, x8, x9, x10, ⟨by omega, by omega, v1⟩, fun q => ⟨by omega, ly_e v4 q, v3 q⟩, fun q => ⟨by omega, by omega, by unfold bt; omega⟩, f7p0⟩⟩
          · intro h14
            exfalso; omega
      · intro h15
        refine n_iload c_154_85 rfl (n_goto c_154_87 ?_)
        refine n_if2_ge c_154_91 (by omega) (by omega) ?_ ?_
        · intro h16
          refine n_iinc (L2 := [some (2, 112), some (0, m), some (2, 127), some (0, f), some (0, 2), some (1, s), none, some (0, x7), some (0, x8), some (0, (x9 + 1)), some (0, x10), none]) c_154_152 rfl rfl rfl (n_goto c_154_155 (n_fg (le_s (le_s (le_s (le_s (le_s (le_s (le_n (le_s (le_s (le_s (le_n (le_n le_0)))))))))))) ?_))
          exact ih.2.1 _ _ _ (by omega) (by omega) (by omega) (by exact v0) (by exact v1) (by exact K2.step v2 v5 (by show (if 2 < m then pw 2 2 else 1) ≤ x10; split <;> omega)) (by omega) (by omega)
        · intro h17
          refine n_iload_n c_154_94 rfl (n_iconst c_154_95 ?_)
          refine n_if2_le c_154_96 (by omega) (by omega) ?_ ?_
          · intro h18
            exfalso; omega
          · intro h19
            refine n_lload c_154_99 rfl (n_iload c_154_101 rfl (n_i_lshr c_154_103 rfl ?_))
            have f20 := n_lshr_r s x10
            generalize gz21 : (n_lshr s x10) = z21 at f20 ⊢
            refine n_lconst (n := 1) c_154_104 rfl (n_i_land c_154_105 rfl ?_)
            have f22 := n_land_r z21 1
            generalize gz23 : (n_land z21 1) = z23 at f22 ⊢
            have hb105 : z23 = s / 2 ^ (x10).toNat % 2 := by rw [← gz23, ← gz21]; exact lb_v (by omega) (by omega)
            refine n_lconst (n := 0) c_154_106 rfl (n_lcmp c_154_107 ?_)
            refine n_lif_ne c_154_108 (by omega) (by omega) ?_ ?_
            · intro h24
              refine n_aload_n c_154_114 rfl (n_iload_n c_154_115 rfl (n_aload_n c_154_116 rfl (n_iload_n c_154_117 rfl (n_iload c_154_118 rfl (n_iload c_154_120 rfl (n_iload c_154_122 rfl (n_iload c_154_124 rfl (n_v7I c_154_126 rfl sc_112.n rfl rfl rfl rfl (imageXH2_2 (m := m) (f := f) (x := x8) (y := x9) (z0 := x10) hS hdm (by omega) (by omega) (by omega) (by omega) (by omega)) ?_))))))))
              intro z25 M26 hP27
              obtain ⟨eM, f27, f27p0⟩ := hP27
              subst eM
              refine n_istore (L2 := [some (2, 112), some (0, m), some (2, 127), some (0, f), some (0, 2), some (1, s), none, some (0, x7), some (0, x8), some (0, x9), some (0, x10), some (0, z25)]) c_154_129 rfl rfl (n_lload c_154_131 rfl (n_iload c_154_133 rfl (n_i_lshr c_154_135 rfl ?_)))
              have f28 := n_lshr_r s z25
              generalize gz29 : (n_lshr s z25) = z29 at f28 ⊢
              refine n_lconst (n := 1) c_154_136 rfl (n_i_land c_154_137 rfl ?_)
              have f30 := n_land_r z29 1
              generalize gz31 : (n_land z29 1) = z31 at f30 ⊢
              have hb137 : z31 = s / 2 ^ (z25).toNat % 2 := by rw [← gz31, ← gz29]; exact lb_v (by omega) (by omega)
              refine n_lconst (n := 0) c_154_138 rfl (n_lcmp c_154_139 ?_)
              refine n_lif_ne c_154_140 (by omega) (by omega) ?_ ?_
              · intro h32
                refine n_iinc (L2 := [some (2, 112), some (0, m), some (2, 127), some (0, f), some (0, 2), some (1, s), none, some (0, x7), some (0, x8), some (0, x9), some (0, (x10 + 1)), some (0, z25)]) c_154_146 rfl rfl rfl (n_goto c_154_149 (n_fg (le_s (le_s (le_s (le_s (le_s (le_s (le_n (le_s (le_s (le_s (le_s (le_n le_0)))))))))))) ?_))
                exact ih.2.2 _ _ _ _ (by omega) (by omega) (by omega) (by omega) (by exact v0) (by exact v1) (by exact v2) (by exact v3) (by exact v4) (by exact K3.step v5 (fun _ _ _ => by rw [← f27p0]; unfold bt; omega)) (by omega) (by omega)
              · intro h33
                refine n_iload c_154_143 rfl ?_
                exact n_rI c_154_145 rfl ⟨rfl, by omega, by exact Or.inr ⟨by omega, by unfold bt; omega, x8, x9, x10, ⟨by omega, by omega, v1⟩, fun q => ⟨by omega, ly_e v4 q, v3 q⟩, fun q => ⟨by omega, by omega, by unfold bt; omega⟩, f27p0⟩⟩
            · intro h34
              refine n_goto c_154_111 (n_iinc (L2 := [some (2, 112), some (0, m), some (2, 127), some (0, f), some (0, 2), some (1, s), none, some (0, x7), some (0, x8), some (0, x9), some (0, (x10 + 1)), none]) c_154_146 rfl rfl rfl (n_goto c_154_149 (n_fg (le_s (le_s (le_s (le_s (le_s (le_s (le_n (le_s (le_s (le_s (le_s (le_n le_0)))))))))))) ?_)))
              exact ih.2.2 _ _ _ _ (by omega) (by omega) (by omega) (by omega) (by exact v0) (by exact v1) (by exact v2) (by exact v3) (by exact v4) (by exact K3.step v5 (fun _ _ q => absurd (q (by omega)) (by unfold bt; omega))) (by omega) (by omega)
set_option maxHeartbeats 4000000 in
theorem escapesXH2_2 {xs : List Int32} {e : Nat} {ac : Int} {M0 M : nM} {m f s : Int} (hS : Sf 2 ac M0 M) (hdm : M0 112 0 = 2) (hm : 1 ≤ m ∧ m ≤ 3) (hf : 0 ≤ f ∧ f ≤ 0) (hs : 0 ≤ s ∧ s ≤ 134217727) : nW xs (e + 2) 154 0 [some (2, 112), some (0, m), some (2, 127), some (0, f), some (0, 2), some (1, s), none, none, none, none, none, none] [] M (nPI fun z M1 => M = M1 ∧ (-1 ≤ z ∧ z ≤ 26) ∧ (ESC 2 m (fun i => M 127 (f + i)) 2 s z)) := by
  have hd : (2 : Int) = 2 ∨ (2 : Int) = 3 := by decide
  have hac := hS.2.2.2.2
  have hpw : pw 2 2 = 4 := by decide
  refine n_aload_n c_154_0 rfl (n_getV (bi := 0) c_154_1 sc_112.n rfl rfl rfl (t_dm hS hdm) ?_)
  intro z1 ez1 f2
  obtain rfl : z1 = 2 := by omega
  refine n_iload c_154_4 rfl (n_s2I c_154_6 rfl rfl rfl rfl (mpower2_2  hS ) ?_)
  intro z3 M4 hP5
  obtain ⟨eM, f5⟩ := hP5
  subst eM
  obtain rfl : z3 = 4 := by omega
  refine n_istore (L2 := [some (2, 112), some (0, m), some (2, 127), some (0, f), some (0, 2), some (1, s), none, some (0, 4), none, none, none, none]) c_154_9 rfl rfl (n_iconst c_154_11 (n_istore (L2 := [some (2, 112), some (0, m), some (2, 127), some (0, f), some (0, 2), some (1, s), none, some (0, 4), some (0, 0), none, none, none]) c_154_12 rfl rfl (n_fg (le_s (le_s (le_s (le_s (le_s (le_s (le_n (le_s (le_s (le_n (le_n (le_n le_0)))))))))))) ?_)))
  exact (escapesXH2_2_c hS hdm hm hf hs 526).1 _ _ (by omega) (by omega) (by exact fun x y w h0 h1 => by omega) (by omega)
