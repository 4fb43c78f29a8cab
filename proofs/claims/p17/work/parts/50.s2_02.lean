/-! The methods, by program. -/
set_option maxHeartbeats 4000000 in
theorem imageH3_2 {xs : List Int32} {e : Nat} {ac : Int} {M0 M : nM} {m f x y z0 : Int} (hS : Sf 2 ac M0 M) (hdm : M0 112 0 = 2) (hm : 0 ≤ m ∧ m ≤ 3) (hf : 0 ≤ f ∧ f ≤ 0) (hx : 0 ≤ x ∧ x ≤ 26) (hy : 0 ≤ y ∧ y ≤ 26) (hz0 : 0 ≤ z0 ∧ z0 ≤ 26) : nW xs (e + 1) 153 0 [some (2, 112), some (0, m), some (2, 127), some (0, f), some (0, 3), some (0, x), some (0, y), some (0, z0), none, none, none, none] [] M (nPI fun z M1 => M = M1 ∧ (0 ≤ z ∧ z ≤ 26)) := by
  have hd : (2 : Int) = 2 ∨ (2 : Int) = 3 := by decide
  have hac := hS.2.2.2.2
  refine n_iconst c_153_0 (n_istore (L2 := [some (2, 112), some (0, m), some (2, 127), some (0, f), some (0, 3), some (0, x), some (0, y), some (0, z0), some (0, 0), none, none, none]) c_153_1 rfl rfl (n_aload_n c_153_3 rfl (n_getV (bi := 0) c_153_4 sc_112.n rfl rfl rfl (t_dm hS hdm) ?_)))
  intro z1 ez1 f2
  obtain rfl : z1 = 2 := by omega
  refine n_iload c_153_7 rfl (n_iconst c_153_9 (n_isub c_153_10 rfl ?_))
  have hcst : ((3 - 1) : Int) = 2 := by omega
  rw [hcst]
  refine n_s2I c_153_11 rfl rfl rfl rfl (mpower2_2  hS ) ?_
  intro z3 M4 hP5
  obtain ⟨eM, f5⟩ := hP5
  subst eM
  obtain rfl : z3 = 4 := by omega
  refine n_istore (L2 := [some (2, 112), some (0, m), some (2, 127), some (0, f), some (0, 3), some (0, x), some (0, y), some (0, z0), some (0, 0), some (0, 4), none, none]) c_153_14 rfl rfl (n_iconst c_153_16 (n_istore (L2 := [some (2, 112), some (0, m), some (2, 127), some (0, f), some (0, 3), some (0, x), some (0, y), some (0, z0), some (0, 0), some (0, 4), some (0, 0), none]) c_153_17 rfl rfl (n_iload c_153_19 rfl (n_iload c_153_21 rfl ?_))))
  refine n_if2_ge c_153_23 (by omega) (by omega) ?_ ?_
  · intro h6
    exfalso; omega
  · intro h7
    refine n_iload c_153_26 rfl (n_iload c_153_28 rfl (n_idivV c_153_30 (by omega) (by omega) ?_))
    intro z8 _ f9
    refine n_aload_n c_153_31 rfl (n_getV (bi := 0) c_153_32 sc_112.n rfl rfl rfl (t_dm hS hdm) ?_)
    intro z10 ez10 f11
    obtain rfl : z10 = 2 := by omega
    refine n_iremV c_153_35 (by omega) (by omega) ?_
    intro z12 _ f13
    refine n_istore (L2 := [some (2, 112), some (0, m), some (2, 127), some (0, f), some (0, 3), some (0, x), some (0, y), some (0, z0), some (0, 0), some (0, 4), some (0, 0), some (0, z12)]) c_153_36 rfl rfl (n_iload_n c_153_38 rfl (n_iconst c_153_39 ?_))
    refine n_if2_le c_153_40 (by omega) (by omega) ?_ ?_
    · intro h14
      refine n_iload_n c_153_63 rfl (n_iconst c_153_64 ?_)
      refine n_if2_le c_153_65 (by omega) (by omega) ?_ ?_
      · intro h15
        refine n_iload c_153_88 rfl (n_aload_n c_153_90 rfl (n_getV (bi := 0) c_153_91 sc_112.n rfl rfl rfl (t_dm hS hdm) ?_))
        intro z16 ez16 f17
        obtain rfl : z16 = 2 := by omega
        refine n_imul c_153_94 rfl (n_aload_n c_153_95 rfl (n_iload_n c_153_96 rfl (n_iload c_153_97 rfl (n_iadd c_153_99 rfl (n_ialoadV c_153_100 sc_127.n rfl rfl rfl (by omega) (t_127 hS (by omega)) ?_)))))
        intro z18 ez18 f19
        refine n_iadd c_153_101 rfl (n_istore (L2 := [some (2, 112), some (0, m), some (2, 127), some (0, f), some (0, 3), some (0, x), some (0, y), some (0, z0), some (0, ((0 * 2) + z18)), some (0, 4), some (0, 0), some (0, z12)]) c_153_102 rfl rfl (n_iload c_153_104 rfl (n_aload_n c_153_106 rfl (n_getV (bi := 0) c_153_107 sc_112.n rfl rfl rfl (t_dm hS hdm) ?_))))
        intro z20 ez20 f21
        obtain rfl : z20 = 2 := by omega
        refine n_idivT (z := 2) c_153_110 (by omega) (by omega) (by omega) (by decide) ?_
        refine n_istore (L2 := [some (2, 112), some (0, m), some (2, 127), some (0, f), some (0, 3), some (0, x), some (0, y), some (0, z0), some (0, ((0 * 2) + z18)), some (0, 2), some (0, 0), some (0, z12)]) c_153_111 rfl rfl (n_iinc (L2 := [some (2, 112), some (0, m), some (2, 127), some (0, f), some (0, 3), some (0, x), some (0, y), some (0, z0), some (0, ((0 * 2) + z18)), some (0, 2), some (0, (0 + 1)), some (0, z12)]) c_153_113 rfl rfl rfl (n_goto c_153_116 (n_iload c_153_19 rfl (n_iload c_153_21 rfl ?_))))
        refine n_if2_ge c_153_23 (by omega) (by omega) ?_ ?_
        · intro h22
          exfalso; omega
        · intro h23
          refine n_iload c_153_26 rfl (n_iload c_153_28 rfl (n_idivV c_153_30 (by omega) (by omega) ?_))
          intro z24 _ f25
          refine n_aload_n c_153_31 rfl (n_getV (bi := 0) c_153_32 sc_112.n rfl rfl rfl (t_dm hS hdm) ?_)
          intro z26 ez26 f27
          obtain rfl : z26 = 2 := by omega
          refine n_iremV c_153_35 (by omega) (by omega) ?_
          intro z28 _ f29
          refine n_istore (L2 := [some (2, 112), some (0, m), some (2, 127), some (0, f), some (0, 3), some (0, x), some (0, y), some (0, z0), some (0, ((0 * 2) + z18)), some (0, 2), some (0, (0 + 1)), some (0, z28)]) c_153_36 rfl rfl (n_iload_n c_153_38 rfl (n_iconst c_153_39 ?_))
          refine n_if2_le c_153_40 (by omega) (by omega) ?_ ?_
          · intro h30
            refine n_iload_n c_153_63 rfl (n_iconst c_153_64 ?_)
            refine n_if2_le c_153_65 (by omega) (by omega) ?_ ?_
            · intro h31
              refine n_iload c_153_88 rfl (n_aload_n c_153_90 rfl (n_getV (bi := 0) c_153_91 sc_112.n rfl rfl rfl (t_dm hS hdm) ?_))
              intro z32 ez32 f33
              obtain rfl : z32 = 2 := by omega
              refine n_imul c_153_94 rfl (n_aload_n c_153_95 rfl (n_iload_n c_153_96 rfl (n_iload c_153_97 rfl (n_iadd c_153_99 rfl (n_ialoadV c_153_100 sc_127.n rfl rfl rfl (by omega) (t_127 hS (by omega)) ?_)))))
              intro z34 ez34 f35
              refine n_iadd c_153_101 rfl (n_istore (L2 := [some (2, 112), some (0, m), some (2, 127), some (0, f), some (0, 3), some (0, x), some (0, y), some (0, z0), some (0, ((((0 * 2) + z18) * 2) + z34)), some (0, 2), some (0, (0 + 1)), some (0, z28)]) c_153_102 rfl rfl (n_iload c_153_104 rfl (n_aload_n c_153_106 rfl (n_getV (bi := 0) c_153_107 sc_112.n rfl rfl rfl (t_dm hS hdm) ?_))))
              intro z36 ez36 f37
              obtain rfl : z36 = 2 := by omega
              refine n_idivT (z := 1) c_153_110 (by omega) (by omega) (by omega) (by decide) ?_
              refine n_istore (L2 := [some (2, 112), some (0, m), some (2, 127), some (0, f), some (0, 3), some (0, x), some (0, y), some (0, z0), some (0, ((((0 * 2) + z18) * 2) + z34)), some (0, 1), some (0, (0 + 1)), some (0, z28)]) c_153_111 rfl rfl (n_iinc (L2 := [some (2, 112), some (0, m), some (2, 127), some (0, f), some (0, 3), some (0, x), some (0, y), some (0, z0), some (0, ((((0 * 2) + z18) * 2) + z34)), some (0, 1), some (0, ((0 + 1) + 1)), some (0, z28)]) c_153_113 rfl rfl rfl (n_goto c_153_116 (n_iload c_153_19 rfl (n_iload c_153_21 rfl ?_))))
              refine n_if2_ge c_153_23 (by omega) (by omega) ?_ ?_
              · intro h38
                exfalso; omega
              · intro h39
                refine n_iload c_153_26 rfl (n_iload c_153_28 rfl (n_idivV c_153_30 (by omega) (by omega) ?_))
                intro z40 _ f41
                refine n_aload_n c_153_31 rfl (n_getV (bi := 0) c_153_32 sc_112.n rfl rfl rfl (t_dm hS hdm) ?_)
                intro z42 ez42 f43
                obtain rfl : z42 = 2 := by omega
                refine n_iremV c_153_35 (by omega) (by omega) ?_
                intro z44 _ f45
                refine n_istore (L2 := [some (2, 112), some (0, m), some (2, 127), some (0, f), some (0, 3), some (0, x), some (0, y), some (0, z0), some (0, ((((0 * 2) + z18) * 2) + z34)), some (0, 1), some (0, ((0 + 1) + 1)), some (0, z44)]) c_153_36 rfl rfl (n_iload_n c_153_38 rfl (n_iconst c_153_39 ?_))
                refine n_if2_le c_153_40 (by omega) (by omega) ?_ ?_
                · intro h46
                  refine n_iload_n c_153_63 rfl (n_iconst c_153_64 ?_)
                  refine n_if2_le c_153_65 (by omega) (by omega) ?_ ?_
                  · intro h47
                    refine n_iload c_153_88 rfl (n_aload_n c_153_90 rfl (n_getV (bi := 0) c_153_91 sc_112.n rfl rfl rfl (t_dm hS hdm) ?_))
                    intro z48 ez48 f49
                    obtain rfl : z48 = 2 := by omega
                    refine n_imul c_153_94 rfl (n_aload_n c_153_95 rfl (n_iload_n c_153_96 rfl (n_iload c_153_97 rfl (n_iadd c_153_99 rfl (n_ialoadV c_153_100 sc_127.n rfl rfl rfl (by omega) (t_127 hS (by omega)) ?_)))))
                    intro z50 ez50 f51
                    refine n_iadd c_153_101 rfl (n_istore (L2 := [some (2, 112), some (0, m), some (2, 127), some (0, f), some (0, 3), some (0, x), some (0, y), some (0, z0), some (0, ((((((0 * 2) + z18) * 2) + z34) * 2) + z50)), some (0, 1), some (0, ((0 + 1) + 1)), some (0, z44)]) c_153_102 rfl rfl (n_iload c_153_104 rfl (n_aload_n c_153_106 rfl (n_getV (bi := 0) c_153_107 sc_112.n rfl rfl rfl (t_dm hS hdm) ?_))))
                    intro z52 ez52 f53
                    obtain rfl : z52 = 2 := by omega
                    refine n_idivT (z := 0) c_153_110 (by omega) (by omega) (by omega) (by decide) ?_
                    refine n_istore (L2 := [some (2, 112), some (0, m), some (2, 127), some (0, f), some (0, 3), some (0, x), some (0, y), some (0, z0), some (0, ((((((0 * 2) + z18) * 2) + z34) * 2) + z50)), some (0, 0), some (0, ((0 + 1) + 1)), some (0, z44)]) c_153_111 rfl rfl (n_iinc (L2 := [some (2, 112), some (0, m), some (2, 127), some (0, f), some (0, 3), some (0, x), some (0, y), some (0, z0), some (0, ((((((0 * 2) + z18) * 2) + z34) * 2) + z50)), some (0, 0), some (0, (((0 + 1) + 1) + 1)), some (0, z44)]) c_153_113 rfl rfl rfl (n_goto c_153_116 (n_iload c_153_19 rfl (n_iload c_153_21 rfl ?_))))
                    refine n_if2_ge c_153_23 (by omega) (by omega) ?_ ?_
                    · intro h54
                      refine n_iload c_153_119 rfl ?_
                      exact n_rI c_153_121 rfl ⟨rfl, by omega⟩
                    · intro h55
                      exfalso; omega
                  · intro h56
                    exfalso; omega
                · intro h57
                  exfalso; omega
            · intro h58
              exfalso; omega
          · intro h59
            exfalso; omega
      · intro h60
        exfalso; omega
    · intro h61
      refine n_iload c_153_43 rfl (n_aload_n c_153_45 rfl (n_getV (bi := 0) c_153_46 sc_112.n rfl rfl rfl (t_dm hS hdm) ?_))
      intro z62 ez62 f63
      obtain rfl : z62 = 2 := by omega
      refine n_imul c_153_49 rfl (n_iload c_153_50 rfl (n_iload c_153_52 rfl (n_idivV c_153_54 (by omega) (by omega) ?_)))
      intro z64 _ f65
      refine n_aload_n c_153_55 rfl (n_getV (bi := 0) c_153_56 sc_112.n rfl rfl rfl (t_dm hS hdm) ?_)
      intro z66 ez66 f67
      obtain rfl : z66 = 2 := by omega
      refine n_iremV c_153_59 (by omega) (by omega) ?_
      intro z68 _ f69
      refine n_iadd c_153_60 rfl (n_istore (L2 := [some (2, 112), some (0, m), some (2, 127), some (0, f), some (0, 3), some (0, x), some (0, y), some (0, z0), some (0, 0), some (0, 4), some (0, 0), some (0, ((z12 * 2) + z68))]) c_153_61 rfl rfl (n_iload_n c_153_63 rfl (n_iconst c_153_64 ?_)))
      refine n_if2_le c_153_65 (by omega) (by omega) ?_ ?_
      · intro h70
        refine n_iload c_153_88 rfl (n_aload_n c_153_90 rfl (n_getV (bi := 0) c_153_91 sc_112.n rfl rfl rfl (t_dm hS hdm) ?_))
        intro z71 ez71 f72
        obtain rfl : z71 = 2 := by omega
        refine n_imul c_153_94 rfl (n_aload_n c_153_95 rfl (n_iload_n c_153_96 rfl (n_iload c_153_97 rfl (n_iadd c_153_99 rfl (n_ialoadV c_153_100 sc_127.n rfl rfl rfl (by omega) (t_127 hS (by omega)) ?_)))))
        intro z73 ez73 f74
        refine n_iadd c_153_101 rfl (n_istore (L2 := [some (2, 112), some (0, m), some (2, 127), some (0, f), some (0, 3), some (0, x), some (0, y), some (0, z0), some (0, ((0 * 2) + z73)), some (0, 4), some (0, 0), some (0, ((z12 * 2) + z68))]) c_153_102 rfl rfl (n_iload c_153_104 rfl (n_aload_n c_153_106 rfl (n_getV (bi := 0) c_153_107 sc_112.n rfl rfl rfl (t_dm hS hdm) ?_))))
        intro z75 ez75 f76
        obtain rfl : z75 = 2 := by omega
        refine n_idivT (z := 2) c_153_110 (by omega) (by omega) (by omega) (by decide) ?_
        refine n_istore (L2 := [some (2, 112), some (0, m), some (2, 127), some (0, f), some (0, 3), some (0, x), some (0, y), some (0, z0), some (0, ((0 * 2) + z73)), some (0, 2), some (0, 0), some (0, ((z12 * 2) + z68))]) c_153_111 rfl rfl (n_iinc (L2 := [some (2, 112), some (0, m), some (2, 127), some (0, f), some (0, 3), some (0, x), some (0, y), some (0, z0), some (0, ((0 * 2) + z73)), some (0, 2), some (0, (0 + 1)), some (0, ((z12 * 2) + z68))]) c_153_113 rfl rfl rfl (n_goto c_153_116 (n_iload c_153_19 rfl (n_iload c_153_21 rfl ?_))))
        refine n_if2_ge c_153_23 (by omega) (by omega) ?_ ?_
        · intro h77
          exfalso; omega
        · intro h78
          refine n_iload c_153_26 rfl (n_iload c_153_28 rfl (n_idivV c_153_30 (by omega) (by omega) ?_))
          intro z79 _ f80
          refine n_aload_n c_153_31 rfl (n_getV (bi := 0) c_153_32 sc_112.n rfl rfl rfl (t_dm hS hdm) ?_)
          intro z81 ez81 f82
          obtain rfl : z81 = 2 := by omega
          refine n_iremV c_153_35 (by omega) (by omega) ?_
          intro z83 _ f84
          refine n_istore (L2 := [some (2, 112), some (0, m), some (2, 127), some (0, f), some (0, 3), some (0, x), some (0, y), some (0, z0), some (0, ((0 * 2) + z73)), some (0, 2), some (0, (0 + 1)), some (0, z83)]) c_153_36 rfl rfl (n_iload_n c_153_38 rfl (n_iconst c_153_39 ?_))
          refine n_if2_le c_153_40 (by omega) (by omega) ?_ ?_
          · intro h85
            exfalso; omega
          · intro h86
            refine n_iload c_153_43 rfl (n_aload_n c_153_45 rfl (n_getV (bi := 0) c_153_46 sc_112.n rfl rfl rfl (t_dm hS hdm) ?_))
            intro z87 ez87 f88
            obtain rfl : z87 = 2 := by omega
            refine n_imul c_153_49 rfl (n_iload c_153_50 rfl (n_iload c_153_52 rfl (n_idivV c_153_54 (by omega) (by omega) ?_)))
            intro z89 _ f90
            refine n_aload_n c_153_55 rfl (n_getV (bi := 0) c_153_56 sc_112.n rfl rfl rfl (t_dm hS hdm) ?_)
            intro z91 ez91 f92
            obtain rfl : z91 = 2 := by omega
            refine n_iremV c_153_59 (by omega) (by omega) ?_
            intro z93 _ f94
            refine n_iadd c_153_60 rfl (n_istore (L2 := [some (2, 112), some (0, m), some (2, 127), some (0, f), some (0, 3), some (0, x), some (0, y), some (0, z0), some (0, ((0 * 2) + z73)), some (0, 2), some (0, (0 + 1)), some (0, ((z83 * 2) + z93))]) c_153_61 rfl rfl (n_iload_n c_153_63 rfl (n_iconst c_153_64 ?_)))
            refine n_if2_le c_153_65 (by omega) (by omega) ?_ ?_
            · intro h95
              refine n_iload c_153_88 rfl (n_aload_n c_153_90 rfl (n_getV (bi := 0) c_153_91 sc_112.n rfl rfl rfl (t_dm hS hdm) ?_))
              intro z96 ez96 f97
              obtain rfl : z96 = 2 := by omega
              refine n_imul c_153_94 rfl (n_aload_n c_153_95 rfl (n_iload_n c_153_96 rfl (n_iload c_153_97 rfl (n_iadd c_153_99 rfl (n_ialoadV c_153_100 sc_127.n rfl rfl rfl (by omega) (t_127 hS (by omega)) ?_)))))
              intro z98 ez98 f99
              refine n_iadd c_153_101 rfl (n_istore (L2 := [some (2, 112), some (0, m), some (2, 127), some (0, f), some (0, 3), some (0, x), some (0, y), some (0, z0), some (0, ((((0 * 2) + z73) * 2) + z98)), some (0, 2), some (0, (0 + 1)), some (0, ((z83 * 2) + z93))]) c_153_102 rfl rfl (n_iload c_153_104 rfl (n_aload_n c_153_106 rfl (n_getV (bi := 0) c_153_107 sc_112.n rfl rfl rfl (t_dm hS hdm) ?_))))
              intro z100 ez100 f101
              obtain rfl : z100 = 2 := by omega
              refine n_idivT (z := 1) c_153_110 (by omega) (by omega) (by omega) (by decide) ?_
              refine n_istore (L2 := [some (2, 112), some (0, m), some (2, 127), some (0, f), some (0, 3), some (0, x), some (0, y), some (0, z0), some (0, ((((0 * 2) + z73) * 2) + z98)), some (0, 1), some (0, (0 + 1)), some (0, ((z83 * 2) + z93))]) c_153_111 rfl rfl (n_iinc (L2 := [some (2, 112), some (0, m), some (2, 127), some (0, f), some (0, 3), some (0, x), some (0, y), some (0, z0), some (0, ((((0 * 2) + z73) * 2) + z98)), some (0, 1), some (0, ((0 + 1) + 1)), some (0, ((z83 * 2) + z93))]) c_153_113 rfl rfl rfl (n_goto c_153_116 (n_iload c_153_19 rfl (n_iload c_153_21 rfl ?_))))
              refine n_if2_ge c_153_23 (by omega) (by omega) ?_ ?_
              · intro h102
                exfalso; omega
              · intro h103
                refine n_iload c_153_26 rfl (n_iload c_153_28 rfl (n_idivV c_153_30 (by omega) (by omega) ?_))
                intro z104 _ f105
                refine n_aload_n c_153_31 rfl (n_getV (bi := 0) c_153_32 sc_112.n rfl rfl rfl (t_dm hS hdm) ?_)
                intro z106 ez106 f107
                obtain rfl : z106 = 2 := by omega
                refine n_iremV c_153_35 (by omega) (by omega) ?_
                intro z108 _ f109
                refine n_istore (L2 := [some (2, 112), some (0, m), some (2, 127), some (0, f), some (0, 3), some (0, x), some (0, y), some (0, z0), some (0, ((((0 * 2) + z73) * 2) + z98)), some (0, 1), some (0, ((0 + 1) + 1)), some (0, z108)]) c_153_36 rfl rfl (n_iload_n c_153_38 rfl (n_iconst c_153_39 ?_))
                refine n_if2_le c_153_40 (by omega) (by omega) ?_ ?_
                · intro h110
                  exfalso; omega
                · intro h111
                  refine n_iload c_153_43 rfl (n_aload_n c_153_45 rfl (n_getV (bi := 0) c_153_46 sc_112.n rfl rfl rfl (t_dm hS hdm) ?_))
                  intro z112 ez112 f113
                  obtain rfl : z112 = 2 := by omega
                  refine n_imul c_153_49 rfl (n_iload c_153_50 rfl (n_iload c_153_52 rfl (n_idivV c_153_54 (by omega) (by omega) ?_)))
                  intro z114 _ f115
                  refine n_aload_n c_153_55 rfl (n_getV (bi := 0) c_153_56 sc_112.n rfl rfl rfl (t_dm hS hdm) ?_)
                  intro z116 ez116 f117
                  obtain rfl : z116 = 2 := by omega
                  refine n_iremV c_153_59 (by omega) (by omega) ?_
                  intro z118 _ f119
                  refine n_iadd c_153_60 rfl (n_istore (L2 := [some (2, 112), some (0, m), some (2, 127), some (0, f), some (0, 3), some (0, x), some (0, y), some (0, z0), some (0, ((((0 * 2) + z73) * 2) + z98)), some (0, 1), some (0, ((0 + 1) + 1)), some (0, ((z108 * 2) + z118))]) c_153_61 rfl rfl (n_iload_n c_153_63 rfl (n_iconst c_153_64 ?_)))
                  refine n_if2_le c_153_65 (by omega) (by omega) ?_ ?_
                  · intro h120
                    refine n_iload c_153_88 rfl (n_aload_n c_153_90 rfl (n_getV (bi := 0) c_153_91 sc_112.n rfl rfl rfl (t_dm hS hdm) ?_))
                    intro z121 ez121 f122
                    obtain rfl : z121 = 2 := by omega
                    refine n_imul c_153_94 rfl (n_aload_n c_153_95 rfl (n_iload_n c_153_96 rfl (n_iload c_153_97 rfl (n_iadd c_153_99 rfl (n_ialoadV c_153_100 sc_127.n rfl rfl rfl (by omega) (t_127 hS (by omega)) ?_)))))
                    intro z123 ez123 f124
                    refine n_iadd c_153_101 rfl (n_istore (L2 := [some (2, 112), some (0, m), some (2, 127), some (0, f), some (0, 3), some (0, x), some (0, y), some (0, z0), some (0, ((((((0 * 2) + z73) * 2) + z98) * 2) + z123)), some (0, 1), some (0, ((0 + 1) + 1)), some (0, ((z108 * 2) + z118))]) c_153_102 rfl rfl (n_iload c_153_104 rfl (n_aload_n c_153_106 rfl (n_getV (bi := 0) c_153_107 sc_112.n rfl rfl rfl (t_dm hS hdm) ?_))))
                    intro z125 ez125 f126
                    obtain rfl : z125 = 2 := by omega
                    refine n_idivT (z := 0) c_153_110 (by omega) (by omega) (by omega) (by decide) ?_
                    refine n_istore (L2 := [some (2, 112), some (0, m), some (2, 127), some (0, f), some (0, 3), some (0, x), some (0, y), some (0, z0), some (0, ((((((0 * 2) + z73) * 2) + z98) * 2) + z123)), some (0, 0), some (0, ((0 + 1) + 1)), some (0, ((z108 * 2) + z118))]) c_153_111 rfl rfl (n_iinc (L2 := [some (2, 112), some (0, m), some (2, 127), some (0, f), some (0, 3), some (0, x), some (0, y), some (0, z0), some (0, ((((((0 * 2) + z73) * 2) + z98) * 2) + z123)), some (0, 0), some (0, (((0 + 1) + 1) + 1)), some (0, ((z108 * 2) + z118))]) c_153_113 rfl rfl rfl (n_goto c_153_116 (n_iload c_153_19 rfl (n_iload c_153_21 rfl ?_))))
                    refine n_if2_ge c_153_23 (by omega) (by omega) ?_ ?_
                    · intro h127
                      refine n_iload c_153_119 rfl ?_
                      exact n_rI c_153_121 rfl ⟨rfl, by omega⟩
                    · intro h128
                      exfalso; omega
                  · intro h129
                    exfalso; omega
            · intro h130
              exfalso; omega
      · intro h131
        refine n_iload c_153_68 rfl (n_aload_n c_153_70 rfl (n_getV (bi := 0) c_153_71 sc_112.n rfl rfl rfl (t_dm hS hdm) ?_))
        intro z132 ez132 f133
        obtain rfl : z132 = 2 := by omega
        refine n_imul c_153_74 rfl (n_iload c_153_75 rfl (n_iload c_153_77 rfl (n_idivV c_153_79 (by omega) (by omega) ?_)))
        intro z134 _ f135
        refine n_aload_n c_153_80 rfl (n_getV (bi := 0) c_153_81 sc_112.n rfl rfl rfl (t_dm hS hdm) ?_)
        intro z136 ez136 f137
        obtain rfl : z136 = 2 := by omega
        refine n_iremV c_153_84 (by omega) (by omega) ?_
        intro z138 _ f139
        refine n_iadd c_153_85 rfl (n_istore (L2 := [some (2, 112), some (0, m), some (2, 127), some (0, f), some (0, 3), some (0, x), some (0, y), some (0, z0), some (0, 0), some (0, 4), some (0, 0), some (0, ((((z12 * 2) + z68) * 2) + z138))]) c_153_86 rfl rfl (n_iload c_153_88 rfl (n_aload_n c_153_90 rfl (n_getV (bi := 0) c_153_91 sc_112.n rfl rfl rfl (t_dm hS hdm) ?_))))
        intro z140 ez140 f141
        obtain rfl : z140 = 2 := by omega
        refine n_imul c_153_94 rfl (n_aload_n c_153_95 rfl (n_iload_n c_153_96 rfl (n_iload c_153_97 rfl (n_iadd c_153_99 rfl (n_ialoadV c_153_100 sc_127.n rfl rfl rfl (by omega) (t_127 hS (by omega)) ?_)))))
        intro z142 ez142 f143
        refine n_iadd c_153_101 rfl (n_istore (L2 := [some (2, 112), some (0, m), some (2, 127), some (0, f), some (0, 3), some (0, x), some (0, y), some (0, z0), some (0, ((0 * 2) + z142)), some (0, 4), some (0, 0), some (0, ((((z12 * 2) + z68) * 2) + z138))]) c_153_102 rfl rfl (n_iload c_153_104 rfl (n_aload_n c_153_106 rfl (n_getV (bi := 0) c_153_107 sc_112.n rfl rfl rfl (t_dm hS hdm) ?_))))
        intro z144 ez144 f145
        obtain rfl : z144 = 2 := by omega
        refine n_idivT (z := 2) c_153_110 (by omega) (by omega) (by omega) (by decide) ?_
        refine n_istore (L2 := [some (2, 112), some (0, m), some (2, 127), some (0, f), some (0, 3), some (0, x), some (0, y), some (0, z0), some (0, ((0 * 2) + z142)), some (0, 2), some (0, 0), some (0, ((((z12 * 2) + z68) * 2) + z138))]) c_153_111 rfl rfl (n_iinc (L2 := [some (2, 112), some (0, m), some (2, 127), some (0, f), some (0, 3), some (0, x), some (0, y), some (0, z0), some (0, ((0 * 2) + z142)), some (0, 2), some (0, (0 + 1)), some (0, ((((z12 * 2) + z68) * 2) + z138))]) c_153_113 rfl rfl rfl (n_goto c_153_116 (n_iload c_153_19 rfl (n_iload c_153_21 rfl ?_))))
        refine n_if2_ge c_153_23 (by omega) (by omega) ?_ ?_
        · intro h146
          exfalso; omega
        · intro h147
          refine n_iload c_153_26 rfl (n_iload c_153_28 rfl (n_idivV c_153_30 (by omega) (by omega) ?_))
          intro z148 _ f149
          refine n_aload_n c_153_31 rfl (n_getV (bi := 0) c_153_32 sc_112.n rfl rfl rfl (t_dm hS hdm) ?_)
          intro z150 ez150 f151
          obtain rfl : z150 = 2 := by omega
          refine n_iremV c_153_35 (by omega) (by omega) ?_
          intro z152 _ f153
          refine n_istore (L2 := [some (2, 112), some (0, m), some (2, 127), some (0, f), some (0, 3), some (0, x), some (0, y), some (0, z0), some (0, ((0 * 2) + z142)), some (0, 2), some (0, (0 + 1)), some (0, z152)]) c_153_36 rfl rfl (n_iload_n c_153_38 rfl (n_iconst c_153_39 ?_))
          refine n_if2_le c_153_40 (by omega) (by omega) ?_ ?_
          · intro h154
            exfalso; omega
          · intro h155
            refine n_iload c_153_43 rfl (n_aload_n c_153_45 rfl (n_getV (bi := 0) c_153_46 sc_112.n rfl rfl rfl (t_dm hS hdm) ?_))
            intro z156 ez156 f157
            obtain rfl : z156 = 2 := by omega
            refine n_imul c_153_49 rfl (n_iload c_153_50 rfl (n_iload c_153_52 rfl (n_idivV c_153_54 (by omega) (by omega) ?_)))
            intro z158 _ f159
            refine n_aload_n c_153_55 rfl (n_getV (bi := 0) c_153_56 sc_112.n rfl rfl rfl (t_dm hS hdm) ?_)
            intro z160 ez160 f161
            obtain rfl : z160 = 2 := by omega
            refine n_iremV c_153_59 (by omega) (by omega) ?_
            intro z162 _ f163
            refine n_iadd c_153_60 rfl (n_istore (L2 := [some (2, 112), some (0, m), some (2, 127), some (0, f), some (0, 3), some (0, x), some (0, y), some (0, z0), some (0, ((0 * 2) + z142)), some (0, 2), some (0, (0 + 1)), some (0, ((z152 * 2) + z162))]) c_153_61 rfl rfl (n_iload_n c_153_63 rfl (n_iconst c_153_64 ?_)))
            refine n_if2_le c_153_65 (by omega) (by omega) ?_ ?_
            · intro h164
              exfalso; omega
            · intro h165
              refine n_iload c_153_68 rfl (n_aload_n c_153_70 rfl (n_getV (bi := 0) c_153_71 sc_112.n rfl rfl rfl (t_dm hS hdm) ?_))
              intro z166 ez166 f167
              obtain rfl : z166 = 2 := by omega
              refine n_imul c_153_74 rfl (n_iload c_153_75 rfl (n_iload c_153_77 rfl (n_idivV c_153_79 (by omega) (by omega) ?_)))
              intro z168 _ f169
              refine n_aload_n c_153_80 rfl (n_getV (bi := 0) c_153_81 sc_112.n rfl rfl rfl (t_dm hS hdm) ?_)
              intro z170 ez170 f171
              obtain rfl : z170 = 2 := by omega
              refine n_iremV c_153_84 (by omega) (by omega) ?_
              intro z172 _ f173
              refine n_iadd c_153_85 rfl (n_istore (L2 := [some (2, 112), some (0, m), some (2, 127), some (0, f), some (0, 3), some (0, x), some (0, y), some (0, z0), some (0, ((0 * 2) + z142)), some (0, 2), some (0, (0 + 1)), some (0, ((((z152 * 2) + z162) * 2) + z172))]) c_153_86 rfl rfl (n_iload c_153_88 rfl (n_aload_n c_153_90 rfl (n_getV (bi := 0) c_153_91 sc_112.n rfl rfl rfl (t_dm hS hdm) ?_))))
              intro z174 ez174 f175
              obtain rfl : z174 = 2 := by omega
              refine n_imul c_153_94 rfl (n_aload_n c_153_95 rfl (n_iload_n c_153_96 rfl (n_iload c_153_97 rfl (n_iadd c_153_99 rfl (n_ialoadV c_153_100 sc_127.n rfl rfl rfl (by omega) (t_127 hS (by omega)) ?_)))))
              intro z176 ez176 f177
              refine n_iadd c_153_101 rfl (n_istore (L2 := [some (2, 112), some (0, m), some (2, 127), some (0, f), some (0, 3), some (0, x), some (0, y), some (0, z0), some (0, ((((0 * 2) + z142) * 2) + z176)), some (0, 2), some (0, (0 + 1)), some (0, ((((z152 * 2) + z162) * 2) + z172))]) c_153_102 rfl rfl (n_iload c_153_104 rfl (n_aload_n c_153_106 rfl (n_getV (bi := 0) c_153_107 sc_112.n rfl rfl rfl (t_dm hS hdm) ?_))))
              intro z178 ez178 f179
              obtain rfl : z178 = 2 := by omega
              refine n_idivT (z := 1) c_153_110 (by omega) (by omega) (by omega) (by decide) ?_
              refine n_istore (L2 := [some (2, 112), some (0, m), some (2, 127), some (0, f), some (0, 3), some (0, x), some (0, y), some (0, z0), some (0, ((((0 * 2) + z142) * 2) + z176)), some (0, 1), some (0, (0 + 1)), some (0, ((((z152 * 2) + z162) * 2) + z172))]) c_153_111 rfl rfl (n_iinc (L2 := [some (2, 112), some (0, m), some (2, 127), some (0, f), some (0, 3), some (0, x), some (0, y), some (0, z0), some (0, ((((0 * 2) + z142) * 2) + z176)), some (0, 1), some (0, ((0 + 1) + 1)), some (0, ((((z152 * 2) + z162) * 2) + z172))]) c_153_113 rfl rfl rfl (n_goto c_153_116 (n_iload c_153_19 rfl (n_iload c_153_21 rfl ?_))))
              refine n_if2_ge c_153_23 (by omega) (by omega) ?_ ?_
              · intro h180
                exfalso; omega
              · intro h181
                refine n_iload c_153_26 rfl (n_iload c_153_28 rfl (n_idivV c_153_30 (by omega) (by omega) ?_))
                intro z182 _ f183
                refine n_aload_n c_153_31 rfl (n_getV (bi := 0) c_153_32 sc_112.n rfl rfl rfl (t_dm hS hdm) ?_)
                intro z184 ez184 f185
                obtain rfl : z184 = 2 := by omega
                refine n_iremV c_153_35 (by omega) (by omega) ?_
                intro z186 _ f187
                refine n_istore (L2 := [some (2, 112), some (0, m), some (2, 127), some (0, f), some (0, 3), some (0, x), some (0, y), some (0, z0), some (0, ((((0 * 2) + z142) * 2) + z176)), some (0, 1), some (0, ((0 + 1) + 1)), some (0, z186)]) c_153_36 rfl rfl (n_iload_n c_153_38 rfl (n_iconst c_153_39 ?_))
                refine n_if2_le c_153_40 (by omega) (by omega) ?_ ?_
                · intro h188
                  exfalso; omega
                · intro h189
                  refine n_iload c_153_43 rfl (n_aload_n c_153_45 rfl (n_getV (bi := 0) c_153_46 sc_112.n rfl rfl rfl (t_dm hS hdm) ?_))
                  intro z190 ez190 f191
                  obtain rfl : z190 = 2 := by omega
                  refine n_imul c_153_49 rfl (n_iload c_153_50 rfl (n_iload c_153_52 rfl (n_idivV c_153_54 (by omega) (by omega) ?_)))
                  intro z192 _ f193
                  refine n_aload_n c_153_55 rfl (n_getV (bi := 0) c_153_56 sc_112.n rfl rfl rfl (t_dm hS hdm) ?_)
                  intro z194 ez194 f195
                  obtain rfl : z194 = 2 := by omega
                  refine n_iremV c_153_59 (by omega) (by omega) ?_
                  intro z196 _ f197
                  refine n_iadd c_153_60 rfl (n_istore (L2 := [some (2, 112), some (0, m), some (2, 127), some (0, f), some (0, 3), some (0, x), some (0, y), some (0, z0), some (0, ((((0 * 2) + z142) * 2) + z176)), some (0, 1), some (0, ((0 + 1) + 1)), some (0, ((z186 * 2) + z196))]) c_153_61 rfl rfl (n_iload_n c_153_63 rfl (n_iconst c_153_64 ?_)))
                  refine n_if2_le c_153_65 (by omega) (by omega) ?_ ?_
                  · intro h198
                    exfalso; omega
                  · intro h199
                    refine n_iload c_153_68 rfl (n_aload_n c_153_70 rfl (n_getV (bi := 0) c_153_71 sc_112.n rfl rfl rfl (t_dm hS hdm) ?_))
                    intro z200 ez200 f201
                    obtain rfl : z200 = 2 := by omega
                    refine n_imul c_153_74 rfl (n_iload c_153_75 rfl (n_iload c_153_77 rfl (n_idivV c_153_79 (by omega) (by omega) ?_)))
                    intro z202 _ f203
                    refine n_aload_n c_153_80 rfl (n_getV (bi := 0) c_153_81 sc_112.n rfl rfl rfl (t_dm hS hdm) ?_)
                    intro z204 ez204 f205
                    obtain rfl : z204 = 2 := by omega
                    refine n_iremV c_153_84 (by omega) (by omega) ?_
                    intro z206 _ f207
                    refine n_iadd c_153_85 rfl (n_istore (L2 := [some (2, 112), some (0, m), some (2, 127), some (0, f), some (0, 3), some (0, x), some (0, y), some (0, z0), some (0, ((((0 * 2) + z142) * 2) + z176)), some (0, 1), some (0, ((0 + 1) + 1)), some (0, ((((z186 * 2) + z196) * 2) + z206))]) c_153_86 rfl rfl (n_iload c_153_88 rfl (n_aload_n c_153_90 rfl (n_getV (bi := 0) c_153_91 sc_112.n rfl rfl rfl (t_dm hS hdm) ?_))))
                    intro z208 ez208 f209
                    obtain rfl : z208 = 2 := by omega
                    refine n_imul c_153_94 rfl (n_aload_n c_153_95 rfl (n_iload_n c_153_96 rfl (n_iload c_153_97 rfl (n_iadd c_153_99 rfl (n_ialoadV c_153_100 sc_127.n rfl rfl rfl (by omega) (t_127 hS (by omega)) ?_)))))
                    intro z210 ez210 f211
                    refine n_iadd c_153_101 rfl (n_istore (L2 := [some (2, 112), some (0, m), some (2, 127), some (0, f), some (0, 3), some (0, x), some (0, y), some (0, z0), some (0, ((((((0 * 2) + z142) * 2) + z176) * 2) + z210)), some (0, 1), some (0, ((0 + 1) + 1)), some (0, ((((z186 * 2) + z196) * 2) + z206))]) c_153_102 rfl rfl (n_iload c_153_104 rfl (n_aload_n c_153_106 rfl (n_getV (bi := 0) c_153_107 sc_112.n rfl rfl rfl (t_dm hS hdm) ?_))))
                    intro z212 ez212 f213
                    obtain rfl : z212 = 2 := by omega
                    refine n_idivT (z := 0) c_153_110 (by omega) (by omega) (by omega) (by decide) ?_
                    refine n_istore (L2 := [some (2, 112), some (0, m), some (2, 127), some (0, f), some (0, 3), some (0, x), some (0, y), some (0, z0), some (0, ((((((0 * 2) + z142) * 2) + z176) * 2) + z210)), some (0, 0), some (0, ((0 + 1) + 1)), some (0, ((((z186 * 2) + z196) * 2) + z206))]) c_153_111 rfl rfl (n_iinc (L2 := [some (2, 112), some (0, m), some (2, 127), some (0, f), some (0, 3), some (0, x), some (0, y), some (0, z0), some (0, ((((((0 * 2) + z142) * 2) + z176) * 2) + z210)), some (0, 0), some (0, (((0 + 1) + 1) + 1)), some (0, ((((z186 * 2) + z196) * 2) + z206))]) c_153_113 rfl rfl rfl (n_goto c_153_116 (n_iload c_153_19 rfl (n_iload c_153_21 rfl ?_))))
                    refine n_if2_ge c_153_23 (by omega) (by omega) ?_ ?_
                    · intro h214
                      refine n_iload c_153_119 rfl ?_
                      exact n_rI c_153_121 rfl ⟨rfl, by omega⟩
                    · intro h215
                      exfalso; omega

set_option maxHeartbeats 4000000 in
theorem imageH_2 {xs : List Int32} {e : Nat} {ac : Int} {M0 M : nM} {m f k x y z0 : Int} (hS : Sf 2 ac M0 M) (hdm : M0 112 0 = 2) (hm : 0 ≤ m ∧ m ≤ 3) (hf : 0 ≤ f ∧ f ≤ 0) (hk : 0 ≤ k ∧ k ≤ 3) (hx : 0 ≤ x ∧ x ≤ 26) (hy : 0 ≤ y ∧ y ≤ 26) (hz0 : 0 ≤ z0 ∧ z0 ≤ 26) : nW xs (e + 1) 153 0 [some (2, 112), some (0, m), some (2, 127), some (0, f), some (0, k), some (0, x), some (0, y), some (0, z0), none, none, none, none] [] M (nPI fun z M1 => M = M1 ∧ (0 ≤ z ∧ z ≤ 26)) := by
  rcases (show k = 0 ∨ k = 1 ∨ k = 2 ∨ k = 3 by omega) with rfl | rfl | rfl | rfl
  · exact n_post (imageH0_2 hS hdm (by omega) (by omega) (by omega) (by omega) (by omega)) (fun w M1 h => by obtain ⟨z, rfl, h1, h2⟩ := h; exact ⟨z, rfl, h1, by omega⟩)
  · exact n_post (imageH1_2 hS hdm (by omega) (by omega) (by omega) (by omega) (by omega)) (fun w M1 h => by obtain ⟨z, rfl, h1, h2⟩ := h; exact ⟨z, rfl, h1, by omega⟩)
  · exact n_post (imageH2_2 hS hdm (by omega) (by omega) (by omega) (by omega) (by omega)) (fun w M1 h => by obtain ⟨z, rfl, h1, h2⟩ := h; exact ⟨z, rfl, h1, by omega⟩)
  · exact n_post (imageH3_2 hS hdm (by omega) (by omega) (by omega) (by omega) (by omega)) (fun w M1 h => by obtain ⟨z, rfl, h1, h2⟩ := h; exact ⟨z, rfl, h1, by omega⟩)

set_option maxHeartbeats 4000000 in
theorem escapesH0_2_c {xs : List Int32} {e : Nat} {ac : Int} {M0 M : nM} {m f s : Int} (hS : Sf 2 ac M0 M) (hdm : M0 112 0 = 2) (hm : 0 ≤ m ∧ m ≤ 3) (hf : 0 ≤ f ∧ f ≤ 0) (hs : -9223372036854775808 ≤ s ∧ s ≤ 9223372036854775807) : ∀ nn : Nat, (∀ (x7 x8 : Int), (1 ≤ x7 ∧ x7 ≤ 1) → (0 ≤ x8 ∧ x8 ≤ 1) → (1 - x8) * 38 + 38 < (nn : Int) → nW xs (e + 2) 154 14 [some (2, 112), some (0, m), some (2, 127), some (0, f), some (0, 0), some (1, s), none, some (0, x7), some (0, x8), none, none, none] [] M (nPI fun z M1 => M = M1 ∧ (-1 ≤ z ∧ z ≤ 26) ∧ (z = -1 ∨ n_land (n_lshr s z) 1 = 0))) ∧ (∀ (x7 x8 x9 : Int), (1 ≤ x7 ∧ x7 ≤ 1) → (0 ≤ x8 ∧ x8 ≤ 0) → (0 ≤ x9 ∧ x9 ≤ 1) → (1 - x8) * 38 + (1 - x9) * 12 + 13 < (nn : Int) → nW xs (e + 2) 154 39 [some (2, 112), some (0, m), some (2, 127), some (0, f), some (0, 0), some (1, s), none, some (0, x7), some (0, x8), some (0, x9), none, none] [] M (nPI fun z M1 => M = M1 ∧ (-1 ≤ z ∧ z ≤ 26) ∧ (z = -1 ∨ n_land (n_lshr s z) 1 = 0))) ∧ (∀ (x7 x8 x9 : Int), (1 ≤ x7 ∧ x7 ≤ 1) → (0 ≤ x8 ∧ x8 ≤ 0) → (0 ≤ x9 ∧ x9 ≤ 0) → (1 - x8) * 38 + (1 - x9) * 12 + 12 < (nn : Int) → nW xs (e + 2) 154 75 [some (2, 112), some (0, m), some (2, 127), some (0, f), some (0, 0), some (1, s), none, some (0, x7), some (0, x8), some (0, x9), none, none] [] M (nPI fun z M1 => M = M1 ∧ (-1 ≤ z ∧ z ≤ 26) ∧ (z = -1 ∨ n_land (n_lshr s z) 1 = 0))) ∧ (∀ (x7 x8 x9 x10 : Int), (1 ≤ x7 ∧ x7 ≤ 1) → (0 ≤ x8 ∧ x8 ≤ 0) → (0 ≤ x9 ∧ x9 ≤ 0) → (0 ≤ x10 ∧ x10 ≤ 1) → (1 - x8) * 38 + (1 - x9) * 12 + (1 - x10) * 3 + 5 < (nn : Int) → nW xs (e + 2) 154 78 [some (2, 112), some (0, m), some (2, 127), some (0, f), some (0, 0), some (1, s), none, some (0, x7), some (0, x8), some (0, x9), some (0, x10), none] [] M (nPI fun z M1 => M = M1 ∧ (-1 ≤ z ∧ z ≤ 26) ∧ (z = -1 ∨ n_land (n_lshr s z) 1 = 0))) ∧ (∀ (x7 x8 x9 x10 : Int), (1 ≤ x7 ∧ x7 ≤ 1) → (0 ≤ x8 ∧ x8 ≤ 0) → (0 ≤ x9 ∧ x9 ≤ 0) → (0 ≤ x10 ∧ x10 ≤ 0) → (1 - x8) * 38 + (1 - x9) * 12 + (1 - x10) * 3 + 4 < (nn : Int) → nW xs (e + 2) 154 114 [some (2, 112), some (0, m), some (2, 127), some (0, f), some (0, 0), some (1, s), none, some (0, x7), some (0, x8), some (0, x9), some (0, x10), none] [] M (nPI fun z M1 => M = M1 ∧ (-1 ≤ z ∧ z ≤ 26) ∧ (z = -1 ∨ n_land (n_lshr s z) 1 = 0))) ∧ (∀ (x7 x8 x9 x10 : Int), (1 ≤ x7 ∧ x7 ≤ 1) → (0 ≤ x8 ∧ x8 ≤ 0) → (0 ≤ x9 ∧ x9 ≤ 0) → (0 ≤ x10 ∧ x10 ≤ 0) → (1 - x8) * 38 + (1 - x9) * 12 + (1 - x10) * 3 + 3 < (nn : Int) → nW xs (e + 2) 154 146 [some (2, 112), some (0, m), some (2, 127), some (0, f), some (0, 0), some (1, s), none, some (0, x7), some (0, x8), some (0, x9), some (0, x10), none] [] M (nPI fun z M1 => M = M1 ∧ (-1 ≤ z ∧ z ≤ 26) ∧ (z = -1 ∨ n_land (n_lshr s z) 1 = 0))) ∧ (∀ (x7 x8 x9 : Int), (1 ≤ x7 ∧ x7 ≤ 1) → (0 ≤ x8 ∧ x8 ≤ 0) → (0 ≤ x9 ∧ x9 ≤ 0) → (1 - x8) * 38 + (1 - x9) * 12 + 2 < (nn : Int) → nW xs (e + 2) 154 152 [some (2, 112), some (0, m), some (2, 127), some (0, f), some (0, 0), some (1, s), none, some (0, x7), some (0, x8), some (0, x9), none, none] [] M (nPI fun z M1 => M = M1 ∧ (-1 ≤ z ∧ z ≤ 26) ∧ (z = -1 ∨ n_land (n_lshr s z) 1 = 0))) ∧ (∀ (x7 x8 : Int), (1 ≤ x7 ∧ x7 ≤ 1) → (0 ≤ x8 ∧ x8 ≤ 0) → (1 - x8) * 38 + 1 < (nn : Int) → nW xs (e + 2) 154 158 [some (2, 112), some (0, m), some (2, 127), some (0, f), some (0, 0), some (1, s), none, some (0, x7), some (0, x8), none, none, none] [] M (nPI fun z M1 => M = M1 ∧ (-1 ≤ z ∧ z ≤ 26) ∧ (z = -1 ∨ n_land (n_lshr s z) 1 = 0))) := by
  have hd : (2 : Int) = 2 ∨ (2 : Int) = 3 := by decide
  have hac := hS.2.2.2.2
  intro nn
  induction nn with
  | zero => refine ⟨?_, ?_, ?_, ?_, ?_, ?_, ?_, ?_⟩ <;> (intros; omega)
  | succ nn ih =>
    refine ⟨?_, ?_, ?_, ?_, ?_, ?_, ?_, ?_⟩
    · intro x7 x8 k7 k8 hnn
      refine n_iload c_154_14 rfl (n_iload c_154_16 rfl ?_)
      refine n_if2_ge c_154_18 (by omega) (by omega) ?_ ?_
      · intro h1
        refine n_iconst c_154_164 ?_
        exact n_rI c_154_165 rfl ⟨rfl, by omega, by first | omega | (refine Or.inr ?_; subst_vars; assumption)⟩
      · intro h2
        refine n_lload c_154_21 rfl (n_iload c_154_23 rfl (n_i_lshr c_154_25 rfl ?_))
        have f3 := n_lshr_r s x8
        generalize gz4 : (n_lshr s x8) = z4 at f3 ⊢
        refine n_lconst (n := 1) c_154_26 rfl (n_i_land c_154_27 rfl ?_)
        have f5 := n_land_r z4 1
        generalize gz6 : (n_land z4 1) = z6 at f5 ⊢
        refine n_lconst (n := 0) c_154_28 rfl (n_lcmp c_154_29 ?_)
        refine n_lif_ne c_154_30 (by omega) (by omega) ?_ ?_
        · intro h7
          refine n_iconst c_154_36 (n_istore (L2 := [some (2, 112), some (0, m), some (2, 127), some (0, f), some (0, 0), some (1, s), none, some (0, x7), some (0, x8), some (0, 0), none, none]) c_154_37 rfl rfl (n_fg (le_s (le_s (le_s (le_s (le_s (le_s (le_n (le_s (le_s (le_s (le_n (le_n le_0)))))))))))) ?_))
          exact ih.2.1 _ _ _ (by omega) (by omega) (by omega) (by omega)
        · intro h8
          refine n_goto c_154_33 (n_fg (le_s (le_s (le_s (le_s (le_s (le_s (le_n (le_s (le_s (le_n (le_n (le_n le_0)))))))))))) ?_)
          exact ih.2.2.2.2.2.2.2 _ _ (by omega) (by omega) (by omega)
    · intro x7 x8 x9 k7 k8 k9 hnn
      refine n_iload c_154_39 rfl (n_iload_n c_154_41 rfl (n_iconst c_154_42 ?_))
      refine n_if2_le c_154_43 (by omega) (by omega) ?_ ?_
      · intro h1
        refine n_iconst c_154_51 ?_
        refine n_if2_ge c_154_52 (by omega) (by omega) ?_ ?_
        · intro h2
          refine n_fg (le_s (le_s (le_s (le_s (le_s (le_s (le_n (le_s (le_s (le_n (le_n (le_n le_0)))))))))))) ?_
          exact ih.2.2.2.2.2.2.2 _ _ (by omega) (by omega) (by omega)
        · intro h3
          refine n_iload_n c_154_55 rfl (n_iconst c_154_56 ?_)
          refine n_if2_le c_154_57 (by omega) (by omega) ?_ ?_
          · intro h4
            refine n_fg (le_s (le_s (le_s (le_s (le_s (le_s (le_n (le_s (le_s (le_s (le_n (le_n le_0)))))))))))) ?_
            exact ih.2.2.1 _ _ _ (by omega) (by omega) (by omega) (by omega)
          · intro h5
            exfalso; omega
      · intro h6
        refine n_iload c_154_46 rfl (n_goto c_154_48 ?_)
        refine n_if2_ge c_154_52 (by omega) (by omega) ?_ ?_
        · intro h7
          refine n_fg (le_s (le_s (le_s (le_s (le_s (le_s (le_n (le_s (le_s (le_n (le_n (le_n le_0)))))))))))) ?_
          exact ih.2.2.2.2.2.2.2 _ _ (by omega) (by omega) (by omega)
        · intro h8
          refine n_iload_n c_154_55 rfl (n_iconst c_154_56 ?_)
          refine n_if2_le c_154_57 (by omega) (by omega) ?_ ?_
          · intro h9
            exfalso; omega
          · intro h10
            refine n_lload c_154_60 rfl (n_iload c_154_62 rfl (n_i_lshr c_154_64 rfl ?_))
            have f11 := n_lshr_r s x9
            generalize gz12 : (n_lshr s x9) = z12 at f11 ⊢
            refine n_lconst (n := 1) c_154_65 rfl (n_i_land c_154_66 rfl ?_)
            have f13 := n_land_r z12 1
            generalize gz14 : (n_land z12 1) = z14 at f13 ⊢
            refine n_lconst (n := 0) c_154_67 rfl (n_lcmp c_154_68 ?_)
            refine n_lif_ne c_154_69 (by omega) (by omega) ?_ ?_
            · intro h15
              refine n_fg (le_s (le_s (le_s (le_s (le_s (le_s (le_n (le_s (le_s (le_s (le_n (le_n le_0)))))))))))) ?_
              exact ih.2.2.1 _ _ _ (by omega) (by omega) (by omega) (by omega)
            · intro h16
              refine n_goto c_154_72 (n_fg (le_s (le_s (le_s (le_s (le_s (le_s (le_n (le_s (le_s (le_s (le_n (le_n le_0)))))))))))) ?_)
              exact ih.2.2.2.2.2.2.1 _ _ _ (by omega) (by omega) (by omega) (by omega)
    · intro x7 x8 x9 k7 k8 k9 hnn
      refine n_iconst c_154_75 (n_istore (L2 := [some (2, 112), some (0, m), some (2, 127), some (0, f), some (0, 0), some (1, s), none, some (0, x7), some (0, x8), some (0, x9), some (0, 0), none]) c_154_76 rfl rfl (n_fg (le_s (le_s (le_s (le_s (le_s (le_s (le_n (le_s (le_s (le_s (le_s (le_n le_0)))))))))))) ?_))
      exact ih.2.2.2.1 _ _ _ _ (by omega) (by omega) (by omega) (by omega) (by omega)
    · intro x7 x8 x9 x10 k7 k8 k9 k10 hnn
      refine n_iload c_154_78 rfl (n_iload_n c_154_80 rfl (n_iconst c_154_81 ?_))
      refine n_if2_le c_154_82 (by omega) (by omega) ?_ ?_
      · intro h1
        refine n_iconst c_154_90 ?_
        refine n_if2_ge c_154_91 (by omega) (by omega) ?_ ?_
        · intro h2
          refine n_fg (le_s (le_s (le_s (le_s (le_s (le_s (le_n (le_s (le_s (le_s (le_n (le_n le_0)))))))))))) ?_
          exact ih.2.2.2.2.2.2.1 _ _ _ (by omega) (by omega) (by omega) (by omega)
        · intro h3
          refine n_iload_n c_154_94 rfl (n_iconst c_154_95 ?_)
          refine n_if2_le c_154_96 (by omega) (by omega) ?_ ?_
          · intro h4
            refine n_fg (le_s (le_s (le_s (le_s (le_s (le_s (le_n (le_s (le_s (le_s (le_s (le_n le_0)))))))))))) ?_
            exact ih.2.2.2.2.1 _ _ _ _ (by omega) (by omega) (by omega) (by omega) (by omega)
          · intro h5
            exfalso; omega
      · intro h6
        refine n_iload c_154_85 rfl (n_goto c_154_87 ?_)
        refine n_if2_ge c_154_91 (by omega) (by omega) ?_ ?_
        · intro h7
          refine n_fg (le_s (le_s (le_s (le_s (le_s (le_s (le_n (le_s (le_s (le_s (le_n (le_n le_0)))))))))))) ?_
          exact ih.2.2.2.2.2.2.1 _ _ _ (by omega) (by omega) (by omega) (by omega)
        · intro h8
          refine n_iload_n c_154_94 rfl (n_iconst c_154_95 ?_)
          refine n_if2_le c_154_96 (by omega) (by omega) ?_ ?_
          · intro h9
            exfalso; omega
          · intro h10
            refine n_lload c_154_99 rfl (n_iload c_154_101 rfl (n_i_lshr c_154_103 rfl ?_))
            have f11 := n_lshr_r s x10
            generalize gz12 : (n_lshr s x10) = z12 at f11 ⊢
            refine n_lconst (n := 1) c_154_104 rfl (n_i_land c_154_105 rfl ?_)
            have f13 := n_land_r z12 1
            generalize gz14 : (n_land z12 1) = z14 at f13 ⊢
            refine n_lconst (n := 0) c_154_106 rfl (n_lcmp c_154_107 ?_)
            refine n_lif_ne c_154_108 (by omega) (by omega) ?_ ?_
            · intro h15
              refine n_fg (le_s (le_s (le_s (le_s (le_s (le_s (le_n (le_s (le_s (le_s (le_s (le_n le_0)))))))))))) ?_
              exact ih.2.2.2.2.1 _ _ _ _ (by omega) (by omega) (by omega) (by omega) (by omega)
            · intro h16
              refine n_goto c_154_111 (n_fg (le_s (le_s (le_s (le_s (le_s (le_s (le_n (le_s (le_s (le_s (le_s (le_n le_0)))))))))))) ?_)
              exact ih.2.2.2.2.2.1 _ _ _ _ (by omega) (by omega) (by omega) (by omega) (by omega)
    · intro x7 x8 x9 x10 k7 k8 k9 k10 hnn
      refine n_aload_n c_154_114 rfl (n_iload_n c_154_115 rfl (n_aload_n c_154_116 rfl (n_iload_n c_154_117 rfl (n_iload c_154_118 rfl (n_iload c_154_120 rfl (n_iload c_154_122 rfl (n_iload c_154_124 rfl (n_v7I c_154_126 rfl sc_112.n rfl rfl rfl rfl (imageH0_2 (m := m) (f := f) (x := x8) (y := x9) (z0 := x10) hS hdm (by omega) (by omega) (by omega) (by omega) (by omega)) ?_))))))))
      intro z1 M2 hP3
      obtain ⟨eM, f3⟩ := hP3
      subst eM
      refine n_istore (L2 := [some (2, 112), some (0, m), some (2, 127), some (0, f), some (0, 0), some (1, s), none, some (0, x7), some (0, x8), some (0, x9), some (0, x10), some (0, z1)]) c_154_129 rfl rfl (n_lload c_154_131 rfl (n_iload c_154_133 rfl (n_i_lshr c_154_135 rfl ?_)))
      have f4 := n_lshr_r s z1
      generalize gz5 : (n_lshr s z1) = z5 at f4 ⊢
      refine n_lconst (n := 1) c_154_136 rfl (n_i_land c_154_137 rfl ?_)
      have f6 := n_land_r z5 1
      generalize gz7 : (n_land z5 1) = z7 at f6 ⊢
      refine n_lconst (n := 0) c_154_138 rfl (n_lcmp c_154_139 ?_)
      refine n_lif_ne c_154_140 (by omega) (by omega) ?_ ?_
      · intro h8
        refine n_fg (le_s (le_s (le_s (le_s (le_s (le_s (le_n (le_s (le_s (le_s (le_s (le_n le_0)))))))))))) ?_
        exact ih.2.2.2.2.2.1 _ _ _ _ (by omega) (by omega) (by omega) (by omega) (by omega)
      · intro h9
        refine n_iload c_154_143 rfl ?_
        exact n_rI c_154_145 rfl ⟨rfl, by omega, by first | omega | (refine Or.inr ?_; subst_vars; assumption)⟩
    · intro x7 x8 x9 x10 k7 k8 k9 k10 hnn
      refine n_iinc (L2 := [some (2, 112), some (0, m), some (2, 127), some (0, f), some (0, 0), some (1, s), none, some (0, x7), some (0, x8), some (0, x9), some (0, (x10 + 1)), none]) c_154_146 rfl rfl rfl (n_goto c_154_149 (n_fg (le_s (le_s (le_s (le_s (le_s (le_s (le_n (le_s (le_s (le_s (le_s (le_n le_0)))))))))))) ?_))
      exact ih.2.2.2.1 _ _ _ _ (by omega) (by omega) (by omega) (by omega) (by omega)
    · intro x7 x8 x9 k7 k8 k9 hnn
      refine n_iinc (L2 := [some (2, 112), some (0, m), some (2, 127), some (0, f), some (0, 0), some (1, s), none, some (0, x7), some (0, x8), some (0, (x9 + 1)), none, none]) c_154_152 rfl rfl rfl (n_goto c_154_155 (n_fg (le_s (le_s (le_s (le_s (le_s (le_s (le_n (le_s (le_s (le_s (le_n (le_n le_0)))))))))))) ?_))
      exact ih.2.1 _ _ _ (by omega) (by omega) (by omega) (by omega)
    · intro x7 x8 k7 k8 hnn
      refine n_iinc (L2 := [some (2, 112), some (0, m), some (2, 127), some (0, f), some (0, 0), some (1, s), none, some (0, x7), some (0, (x8 + 1)), none, none, none]) c_154_158 rfl rfl rfl (n_goto c_154_161 (n_fg (le_s (le_s (le_s (le_s (le_s (le_s (le_n (le_s (le_s (le_n (le_n (le_n le_0)))))))))))) ?_))
      exact ih.1 _ _ (by omega) (by omega) (by omega)
set_option maxHeartbeats 4000000 in
theorem escapesH0_2 {xs : List Int32} {e : Nat} {ac : Int} {M0 M : nM} {m f s : Int} (hS : Sf 2 ac M0 M) (hdm : M0 112 0 = 2) (hm : 0 ≤ m ∧ m ≤ 3) (hf : 0 ≤ f ∧ f ≤ 0) (hs : -9223372036854775808 ≤ s ∧ s ≤ 9223372036854775807) : nW xs (e + 2) 154 0 [some (2, 112), some (0, m), some (2, 127), some (0, f), some (0, 0), some (1, s), none, none, none, none, none, none] [] M (nPI fun z M1 => M = M1 ∧ (-1 ≤ z ∧ z ≤ 26) ∧ (z = -1 ∨ n_land (n_lshr s z) 1 = 0)) := by
  have hd : (2 : Int) = 2 ∨ (2 : Int) = 3 := by decide
  have hac := hS.2.2.2.2
  refine n_aload_n c_154_0 rfl (n_getV (bi := 0) c_154_1 sc_112.n rfl rfl rfl (t_dm hS hdm) ?_)
  intro z1 ez1 f2
  obtain rfl : z1 = 2 := by omega
  refine n_iload c_154_4 rfl (n_s2I c_154_6 rfl rfl rfl rfl (mpower0_2  hS ) ?_)
  intro z3 M4 hP5
  obtain ⟨eM, f5⟩ := hP5
  subst eM
  obtain rfl : z3 = 1 := by omega
  refine n_istore (L2 := [some (2, 112), some (0, m), some (2, 127), some (0, f), some (0, 0), some (1, s), none, some (0, 1), none, none, none, none]) c_154_9 rfl rfl (n_iconst c_154_11 (n_istore (L2 := [some (2, 112), some (0, m), some (2, 127), some (0, f), some (0, 0), some (1, s), none, some (0, 1), some (0, 0), none, none, none]) c_154_12 rfl rfl (n_fg (le_s (le_s (le_s (le_s (le_s (le_s (le_n (le_s (le_s (le_n (le_n (le_n le_0)))))))))))) ?_)))
  exact (escapesH0_2_c hS hdm hm hf hs 238).1 _ _ (by omega) (by omega) (by omega)

set_option maxHeartbeats 4000000 in
theorem escapesH1_2_c {xs : List Int32} {e : Nat} {ac : Int} {M0 M : nM} {m f s : Int} (hS : Sf 2 ac M0 M) (hdm : M0 112 0 = 2) (hm : 0 ≤ m ∧ m ≤ 3) (hf : 0 ≤ f ∧ f ≤ 0) (hs : -9223372036854775808 ≤ s ∧ s ≤ 9223372036854775807) : ∀ nn : Nat, (∀ (x7 x8 : Int), (2 ≤ x7 ∧ x7 ≤ 2) → (0 ≤ x8 ∧ x8 ≤ 2) → (2 - x8) * 62 + 62 < (nn : Int) → nW xs (e + 2) 154 14 [some (2, 112), some (0, m), some (2, 127), some (0, f), some (0, 1), some (1, s), none, some (0, x7), some (0, x8), none, none, none] [] M (nPI fun z M1 => M = M1 ∧ (-1 ≤ z ∧ z ≤ 26) ∧ (z = -1 ∨ n_land (n_lshr s z) 1 = 0))) ∧ (∀ (x7 x8 x9 : Int), (2 ≤ x7 ∧ x7 ≤ 2) → (0 ≤ x8 ∧ x8 ≤ 1) → (0 ≤ x9 ∧ x9 ≤ 2) → (2 - x8) * 62 + (2 - x9) * 15 + 16 < (nn : Int) → nW xs (e + 2) 154 39 [some (2, 112), some (0, m), some (2, 127), some (0, f), some (0, 1), some (1, s), none, some (0, x7), some (0, x8), some (0, x9), none, none] [] M (nPI fun z M1 => M = M1 ∧ (-1 ≤ z ∧ z ≤ 26) ∧ (z = -1 ∨ n_land (n_lshr s z) 1 = 0))) ∧ (∀ (x7 x8 x9 : Int), (2 ≤ x7 ∧ x7 ≤ 2) → (0 ≤ x8 ∧ x8 ≤ 1) → (0 ≤ x9 ∧ x9 ≤ 1) → (2 - x8) * 62 + (2 - x9) * 15 + 15 < (nn : Int) → nW xs (e + 2) 154 75 [some (2, 112), some (0, m), some (2, 127), some (0, f), some (0, 1), some (1, s), none, some (0, x7), some (0, x8), some (0, x9), none, none] [] M (nPI fun z M1 => M = M1 ∧ (-1 ≤ z ∧ z ≤ 26) ∧ (z = -1 ∨ n_land (n_lshr s z) 1 = 0))) ∧ (∀ (x7 x8 x9 x10 : Int), (2 ≤ x7 ∧ x7 ≤ 2) → (0 ≤ x8 ∧ x8 ≤ 1) → (0 ≤ x9 ∧ x9 ≤ 1) → (0 ≤ x10 ∧ x10 ≤ 2) → (2 - x8) * 62 + (2 - x9) * 15 + (2 - x10) * 3 + 5 < (nn : Int) → nW xs (e + 2) 154 78 [some (2, 112), some (0, m), some (2, 127), some (0, f), some (0, 1), some (1, s), none, some (0, x7), some (0, x8), some (0, x9), some (0, x10), none] [] M (nPI fun z M1 => M = M1 ∧ (-1 ≤ z ∧ z ≤ 26) ∧ (z = -1 ∨ n_land (n_lshr s z) 1 = 0))) ∧ (∀ (x7 x8 x9 x10 : Int), (2 ≤ x7 ∧ x7 ≤ 2) → (0 ≤ x8 ∧ x8 ≤ 1) → (0 ≤ x9 ∧ x9 ≤ 1) → (0 ≤ x10 ∧ x10 ≤ 1) → (2 - x8) * 62 + (2 - x9) * 15 + (2 - x10) * 3 + 4 < (nn : Int) → nW xs (e + 2) 154 114 [some (2, 112), some (0, m), some (2, 127), some (0, f), some (0, 1), some (1, s), none, some (0, x7), some (0, x8), some (0, x9), some (0, x10), none] [] M (nPI fun z M1 => M = M1 ∧ (-1 ≤ z ∧ z ≤ 26) ∧ (z = -1 ∨ n_land (n_lshr s z) 1 = 0))) ∧ (∀ (x7 x8 x9 x10 : Int), (2 ≤ x7 ∧ x7 ≤ 2) → (0 ≤ x8 ∧ x8 ≤ 1) → (0 ≤ x9 ∧ x9 ≤ 1) → (0 ≤ x10 ∧ x10 ≤ 1) → (2 - x8) * 62 + (2 - x9) * 15 + (2 - x10) * 3 + 3 < (nn : Int) → nW xs (e + 2) 154 146 [some (2, 112), some (0, m), some (2, 127), some (0, f), some (0, 1), some (1, s), none, some (0, x7), some (0, x8), some (0, x9), some (0, x10), none] [] M (nPI fun z M1 => M = M1 ∧ (-1 ≤ z ∧ z ≤ 26) ∧ (z = -1 ∨ n_land (n_lshr s z) 1 = 0))) ∧ (∀ (x7 x8 x9 : Int), (2 ≤ x7 ∧ x7 ≤ 2) → (0 ≤ x8 ∧ x8 ≤ 1) → (0 ≤ x9 ∧ x9 ≤ 1) → (2 - x8) * 62 + (2 - x9) * 15 + 2 < (nn : Int) → nW xs (e + 2) 154 152 [some (2, 112), some (0, m), some (2, 127), some (0, f), some (0, 1), some (1, s), none, some (0, x7), some (0, x8), some (0, x9), none, none] [] M (nPI fun z M1 => M = M1 ∧ (-1 ≤ z ∧ z ≤ 26) ∧ (z = -1 ∨ n_land (n_lshr s z) 1 = 0))) ∧ (∀ (x7 x8 : Int), (2 ≤ x7 ∧ x7 ≤ 2) → (0 ≤ x8 ∧ x8 ≤ 1) → (2 - x8) * 62 + 1 < (nn : Int) → nW xs (e + 2) 154 158 [some (2, 112), some (0, m), some (2, 127), some (0, f), some (0, 1), some (1, s), none, some (0, x7), some (0, x8), none, none, none] [] M (nPI fun z M1 => M = M1 ∧ (-1 ≤ z ∧ z ≤ 26) ∧ (z = -1 ∨ n_land (n_lshr s z) 1 = 0))) := by
  have hd : (2 : Int) = 2 ∨ (2 : Int) = 3 := by decide
  have hac := hS.2.2.2.2
  intro nn
  induction nn with
  | zero => refine ⟨?_, ?_, ?_, ?_, ?_, ?_, ?_, ?_⟩ <;> (intros; omega)
  | succ nn ih =>
    refine ⟨?_, ?_, ?_, ?_, ?_, ?_, ?_, ?_⟩
    · intro x7 x8 k7 k8 hnn
      refine n_iload c_154_14 rfl (n_iload c_154_16 rfl ?_)
      refine n_if2_ge c_154_18 (by omega) (by omega) ?_ ?_
      · intro h1
        refine n_iconst c_154_164 ?_
        exact n_rI c_154_165 rfl ⟨rfl, by omega, by first | omega | (refine Or.inr ?_; subst_vars; assumption)⟩
      · intro h2
        refine n_lload c_154_21 rfl (n_iload c_154_23 rfl (n_i_lshr c_154_25 rfl ?_))
        have f3 := n_lshr_r s x8
        generalize gz4 : (n_lshr s x8) = z4 at f3 ⊢
        refine n_lconst (n := 1) c_154_26 rfl (n_i_land c_154_27 rfl ?_)
        have f5 := n_land_r z4 1
        generalize gz6 : (n_land z4 1) = z6 at f5 ⊢
        refine n_lconst (n := 0) c_154_28 rfl (n_lcmp c_154_29 ?_)
        refine n_lif_ne c_154_30 (by omega) (by omega) ?_ ?_
        · intro h7
          refine n_iconst c_154_36 (n_istore (L2 := [some (2, 112), some (0, m), some (2, 127), some (0, f), some (0, 1), some (1, s), none, some (0, x7), some (0, x8), some (0, 0), none, none]) c_154_37 rfl rfl (n_fg (le_s (le_s (le_s (le_s (le_s (le_s (le_n (le_s (le_s (le_s (le_n (le_n le_0)))))))))))) ?_))
          exact ih.2.1 _ _ _ (by omega) (by omega) (by omega) (by omega)
        · intro h8
          refine n_goto c_154_33 (n_fg (le_s (le_s (le_s (le_s (le_s (le_s (le_n (le_s (le_s (le_n (le_n (le_n le_0)))))))))))) ?_)
          exact ih.2.2.2.2.2.2.2 _ _ (by omega) (by omega) (by omega)
    · intro x7 x8 x9 k7 k8 k9 hnn
      refine n_iload c_154_39 rfl (n_iload_n c_154_41 rfl (n_iconst c_154_42 ?_))
      refine n_if2_le c_154_43 (by omega) (by omega) ?_ ?_
      · intro h1
        refine n_iconst c_154_51 ?_
        refine n_if2_ge c_154_52 (by omega) (by omega) ?_ ?_
        · intro h2
          refine n_fg (le_s (le_s (le_s (le_s (le_s (le_s (le_n (le_s (le_s (le_n (le_n (le_n le_0)))))))))))) ?_
          exact ih.2.2.2.2.2.2.2 _ _ (by omega) (by omega) (by omega)
        · intro h3
          refine n_iload_n c_154_55 rfl (n_iconst c_154_56 ?_)
          refine n_if2_le c_154_57 (by omega) (by omega) ?_ ?_
          · intro h4
            refine n_fg (le_s (le_s (le_s (le_s (le_s (le_s (le_n (le_s (le_s (le_s (le_n (le_n le_0)))))))))))) ?_
            exact ih.2.2.1 _ _ _ (by omega) (by omega) (by omega) (by omega)
          · intro h5
            exfalso; omega
      · intro h6
        refine n_iload c_154_46 rfl (n_goto c_154_48 ?_)
        refine n_if2_ge c_154_52 (by omega) (by omega) ?_ ?_
        · intro h7
          refine n_fg (le_s (le_s (le_s (le_s (le_s (le_s (le_n (le_s (le_s (le_n (le_n (le_n le_0)))))))))))) ?_
          exact ih.2.2.2.2.2.2.2 _ _ (by omega) (by omega) (by omega)
        · intro h8
          refine n_iload_n c_154_55 rfl (n_iconst c_154_56 ?_)
          refine n_if2_le c_154_57 (by omega) (by omega) ?_ ?_
          · intro h9
            exfalso; omega
          · intro h10
            refine n_lload c_154_60 rfl (n_iload c_154_62 rfl (n_i_lshr c_154_64 rfl ?_))
            have f11 := n_lshr_r s x9
            generalize gz12 : (n_lshr s x9) = z12 at f11 ⊢
            refine n_lconst (n := 1) c_154_65 rfl (n_i_land c_154_66 rfl ?_)
            have f13 := n_land_r z12 1
            generalize gz14 : (n_land z12 1) = z14 at f13 ⊢
            refine n_lconst (n := 0) c_154_67 rfl (n_lcmp c_154_68 ?_)
            refine n_lif_ne c_154_69 (by omega) (by omega) ?_ ?_
            · intro h15
              refine n_fg (le_s (le_s (le_s (le_s (le_s (le_s (le_n (le_s (le_s (le_s (le_n (le_n le_0)))))))))))) ?_
              exact ih.2.2.1 _ _ _ (by omega) (by omega) (by omega) (by omega)
            · intro h16
              refine n_goto c_154_72 (n_fg (le_s (le_s (le_s (le_s (le_s (le_s (le_n (le_s (le_s (le_s (le_n (le_n le_0)))))))))))) ?_)
              exact ih.2.2.2.2.2.2.1 _ _ _ (by omega) (by omega) (by omega) (by omega)
    · intro x7 x8 x9 k7 k8 k9 hnn
      refine n_iconst c_154_75 (n_istore (L2 := [some (2, 112), some (0, m), some (2, 127), some (0, f), some (0, 1), some (1, s), none, some (0, x7), some (0, x8), some (0, x9), some (0, 0), none]) c_154_76 rfl rfl (n_fg (le_s (le_s (le_s (le_s (le_s (le_s (le_n (le_s (le_s (le_s (le_s (le_n le_0)))))))))))) ?_))
      exact ih.2.2.2.1 _ _ _ _ (by omega) (by omega) (by omega) (by omega) (by omega)
    · intro x7 x8 x9 x10 k7 k8 k9 k10 hnn
      refine n_iload c_154_78 rfl (n_iload_n c_154_80 rfl (n_iconst c_154_81 ?_))
      refine n_if2_le c_154_82 (by omega) (by omega) ?_ ?_
      · intro h1
        refine n_iconst c_154_90 ?_
        refine n_if2_ge c_154_91 (by omega) (by omega) ?_ ?_
        · intro h2
          refine n_fg (le_s (le_s (le_s (le_s (le_s (le_s (le_n (le_s (le_s (le_s (le_n (le_n le_0)))))))))))) ?_
          exact ih.2.2.2.2.2.2.1 _ _ _ (by omega) (by omega) (by omega) (by omega)
        · intro h3
          refine n_iload_n c_154_94 rfl (n_iconst c_154_95 ?_)
          refine n_if2_le c_154_96 (by omega) (by omega) ?_ ?_
          · intro h4
            refine n_fg (le_s (le_s (le_s (le_s (le_s (le_s (le_n (le_s (le_s (le_s (le_s (le_n le_0)))))))))))) ?_
            exact ih.2.2.2.2.1 _ _ _ _ (by omega) (by omega) (by omega) (by omega) (by omega)
          · intro h5
            exfalso; omega
      · intro h6
        refine n_iload c_154_85 rfl (n_goto c_154_87 ?_)
        refine n_if2_ge c_154_91 (by omega) (by omega) ?_ ?_
        · intro h7
          refine n_fg (le_s (le_s (le_s (le_s (le_s (le_s (le_n (le_s (le_s (le_s (le_n (le_n le_0)))))))))))) ?_
          exact ih.2.2.2.2.2.2.1 _ _ _ (by omega) (by omega) (by omega) (by omega)
        · intro h8
          refine n_iload_n c_154_94 rfl (n_iconst c_154_95 ?_)
          refine n_if2_le c_154_96 (by omega) (by omega) ?_ ?_
          · intro h9
            exfalso; omega
          · intro h10
            refine n_lload c_154_99 rfl (n_iload c_154_101 rfl (n_i_lshr c_154_103 rfl ?_))
            have f11 := n_lshr_r s x10
            generalize gz12 : (n_lshr s x10) = z12 at f11 ⊢
            refine n_lconst (n := 1) c_154_104 rfl (n_i_land c_154_105 rfl ?_)
            have f13 := n_land_r z12 1
            generalize gz14 : (n_land z12 1) = z14 at f13 ⊢
            refine n_lconst (n := 0) c_154_106 rfl (n_lcmp c_154_107 ?_)
            refine n_lif_ne c_154_108 (by omega) (by omega) ?_ ?_
            · intro h15
              refine n_fg (le_s (le_s (le_s (le_s (le_s (le_s (le_n (le_s (le_s (le_s (le_s (le_n le_0)))))))))))) ?_
              exact ih.2.2.2.2.1 _ _ _ _ (by omega) (by omega) (by omega) (by omega) (by omega)
            · intro h16
              refine n_goto c_154_111 (n_fg (le_s (le_s (le_s (le_s (le_s (le_s (le_n (le_s (le_s (le_s (le_s (le_n le_0)))))))))))) ?_)
              exact ih.2.2.2.2.2.1 _ _ _ _ (by omega) (by omega) (by omega) (by omega) (by omega)
    · intro x7 x8 x9 x10 k7 k8 k9 k10 hnn
      refine n_aload_n c_154_114 rfl (n_iload_n c_154_115 rfl (n_aload_n c_154_116 rfl (n_iload_n c_154_117 rfl (n_iload c_154_118 rfl (n_iload c_154_120 rfl (n_iload c_154_122 rfl (n_iload c_154_124 rfl (n_v7I c_154_126 rfl sc_112.n rfl rfl rfl rfl (imageH1_2 (m := m) (f := f) (x := x8) (y := x9) (z0 := x10) hS hdm (by omega) (by omega) (by omega) (by omega) (by omega)) ?_))))))))
      intro z1 M2 hP3
      obtain ⟨eM, f3⟩ := hP3
      subst eM
      refine n_istore (L2 := [some (2, 112), some (0, m), some (2, 127), some (0, f), some (0, 1), some (1, s), none, some (0, x7), some (0, x8), some (0, x9), some (0, x10), some (0, z1)]) c_154_129 rfl rfl (n_lload c_154_131 rfl (n_iload c_154_133 rfl (n_i_lshr c_154_135 rfl ?_)))
      have f4 := n_lshr_r s z1
      generalize gz5 : (n_lshr s z1) = z5 at f4 ⊢
      refine n_lconst (n := 1) c_154_136 rfl (n_i_land c_154_137 rfl ?_)
      have f6 := n_land_r z5 1
      generalize gz7 : (n_land z5 1) = z7 at f6 ⊢
      refine n_lconst (n := 0) c_154_138 rfl (n_lcmp c_154_139 ?_)
      refine n_lif_ne c_154_140 (by omega) (by omega) ?_ ?_
      · intro h8
        refine n_fg (le_s (le_s (le_s (le_s (le_s (le_s (le_n (le_s (le_s (le_s (le_s (le_n le_0)))))))))))) ?_
        exact ih.2.2.2.2.2.1 _ _ _ _ (by omega) (by omega) (by omega) (by omega) (by omega)
      · intro h9
        refine n_iload c_154_143 rfl ?_
        exact n_rI c_154_145 rfl ⟨rfl, by omega, by first | omega | (refine Or.inr ?_; subst_vars; assumption)⟩
    · intro x7 x8 x9 x10 k7 k8 k9 k10 hnn
      refine n_iinc (L2 := [some (2, 112), some (0, m), some (2, 127), some (0, f), some (0, 1), some (1, s), none, some (0, x7), some (0, x8), some (0, x9), some (0, (x10 + 1)), none]) c_154_146 rfl rfl rfl (n_goto c_154_149 (n_fg (le_s (le_s (le_s (le_s (le_s (le_s (le_n (le_s (le_s (le_s (le_s (le_n le_0)))))))))))) ?_))
      exact ih.2.2.2.1 _ _ _ _ (by omega) (by omega) (by omega) (by omega) (by omega)
    · intro x7 x8 x9 k7 k8 k9 hnn
      refine n_iinc (L2 := [some (2, 112), some (0, m), some (2, 127), some (0, f), some (0, 1), some (1, s), none, some (0, x7), some (0, x8), some (0, (x9 + 1)), none, none]) c_154_152 rfl rfl rfl (n_goto c_154_155 (n_fg (le_s (le_s (le_s (le_s (le_s (le_s (le_n (le_s (le_s (le_s (le_n (le_n le_0)))))))))))) ?_))
      exact ih.2.1 _ _ _ (by omega) (by omega) (by omega) (by omega)
    · intro x7 x8 k7 k8 hnn
      refine n_iinc (L2 := [some (2, 112), some (0, m), some (2, 127), some (0, f), some (0, 1), some (1, s), none, some (0, x7), some (0, (x8 + 1)), none, none, none]) c_154_158 rfl rfl rfl (n_goto c_154_161 (n_fg (le_s (le_s (le_s (le_s (le_s (le_s (le_n (le_s (le_s (le_n (le_n (le_n le_0)))))))))))) ?_))
      exact ih.1 _ _ (by omega) (by omega) (by omega)
set_option maxHeartbeats 4000000 in
theorem escapesH1_2 {xs : List Int32} {e : Nat} {ac : Int} {M0 M : nM} {m f s : Int} (hS : Sf 2 ac M0 M) (hdm : M0 112 0 = 2) (hm : 0 ≤ m ∧ m ≤ 3) (hf : 0 ≤ f ∧ f ≤ 0) (hs : -9223372036854775808 ≤ s ∧ s ≤ 9223372036854775807) : nW xs (e + 2) 154 0 [some (2, 112), some (0, m), some (2, 127), some (0, f), some (0, 1), some (1, s), none, none, none, none, none, none] [] M (nPI fun z M1 => M = M1 ∧ (-1 ≤ z ∧ z ≤ 26) ∧ (z = -1 ∨ n_land (n_lshr s z) 1 = 0)) := by
  have hd : (2 : Int) = 2 ∨ (2 : Int) = 3 := by decide
  have hac := hS.2.2.2.2
  refine n_aload_n c_154_0 rfl (n_getV (bi := 0) c_154_1 sc_112.n rfl rfl rfl (t_dm hS hdm) ?_)
  intro z1 ez1 f2
  obtain rfl : z1 = 2 := by omega
  refine n_iload c_154_4 rfl (n_s2I c_154_6 rfl rfl rfl rfl (mpower1_2  hS ) ?_)
  intro z3 M4 hP5
  obtain ⟨eM, f5⟩ := hP5
  subst eM
  obtain rfl : z3 = 2 := by omega
  refine n_istore (L2 := [some (2, 112), some (0, m), some (2, 127), some (0, f), some (0, 1), some (1, s), none, some (0, 2), none, none, none, none]) c_154_9 rfl rfl (n_iconst c_154_11 (n_istore (L2 := [some (2, 112), some (0, m), some (2, 127), some (0, f), some (0, 1), some (1, s), none, some (0, 2), some (0, 0), none, none, none]) c_154_12 rfl rfl (n_fg (le_s (le_s (le_s (le_s (le_s (le_s (le_n (le_s (le_s (le_n (le_n (le_n le_0)))))))))))) ?_)))
  exact (escapesH1_2_c hS hdm hm hf hs 506).1 _ _ (by omega) (by omega) (by omega)

set_option maxHeartbeats 4000000 in
theorem escapesH2_2_c {xs : List Int32} {e : Nat} {ac : Int} {M0 M : nM} {m f s : Int} (hS : Sf 2 ac M0 M) (hdm : M0 112 0 = 2) (hm : 0 ≤ m ∧ m ≤ 3) (hf : 0 ≤ f ∧ f ≤ 0) (hs : -9223372036854775808 ≤ s ∧ s ≤ 9223372036854775807) : ∀ nn : Nat, (∀ (x7 x8 : Int), (4 ≤ x7 ∧ x7 ≤ 4) → (0 ≤ x8 ∧ x8 ≤ 4) → (4 - x8) * 128 + 128 < (nn : Int) → nW xs (e + 2) 154 14 [some (2, 112), some (0, m), some (2, 127), some (0, f), some (0, 2), some (1, s), none, some (0, x7), some (0, x8), none, none, none] [] M (nPI fun z M1 => M = M1 ∧ (-1 ≤ z ∧ z ≤ 26) ∧ (z = -1 ∨ n_land (n_lshr s z) 1 = 0))) ∧ (∀ (x7 x8 x9 : Int), (4 ≤ x7 ∧ x7 ≤ 4) → (0 ≤ x8 ∧ x8 ≤ 3) → (0 ≤ x9 ∧ x9 ≤ 4) → (4 - x8) * 128 + (4 - x9) * 21 + 22 < (nn : Int) → nW xs (e + 2) 154 39 [some (2, 112), some (0, m), some (2, 127), some (0, f), some (0, 2), some (1, s), none, some (0, x7), some (0, x8), some (0, x9), none, none] [] M (nPI fun z M1 => M = M1 ∧ (-1 ≤ z ∧ z ≤ 26) ∧ (z = -1 ∨ n_land (n_lshr s z) 1 = 0))) ∧ (∀ (x7 x8 x9 : Int), (4 ≤ x7 ∧ x7 ≤ 4) → (0 ≤ x8 ∧ x8 ≤ 3) → (0 ≤ x9 ∧ x9 ≤ 3) → (4 - x8) * 128 + (4 - x9) * 21 + 21 < (nn : Int) → nW xs (e + 2) 154 75 [some (2, 112), some (0, m), some (2, 127), some (0, f), some (0, 2), some (1, s), none, some (0, x7), some (0, x8), some (0, x9), none, none] [] M (nPI fun z M1 => M = M1 ∧ (-1 ≤ z ∧ z ≤ 26) ∧ (z = -1 ∨ n_land (n_lshr s z) 1 = 0))) ∧ (∀ (x7 x8 x9 x10 : Int), (4 ≤ x7 ∧ x7 ≤ 4) → (0 ≤ x8 ∧ x8 ≤ 3) → (0 ≤ x9 ∧ x9 ≤ 3) → (0 ≤ x10 ∧ x10 ≤ 4) → (4 - x8) * 128 + (4 - x9) * 21 + (4 - x10) * 3 + 5 < (nn : Int) → nW xs (e + 2) 154 78 [some (2, 112), some (0, m), some (2, 127), some (0, f), some (0, 2), some (1, s), none, some (0, x7), some (0, x8), some (0, x9), some (0, x10), none] [] M (nPI fun z M1 => M = M1 ∧ (-1 ≤ z ∧ z ≤ 26) ∧ (z = -1 ∨ n_land (n_lshr s z) 1 = 0))) ∧ (∀ (x7 x8 x9 x10 : Int), (4 ≤ x7 ∧ x7 ≤ 4) → (0 ≤ x8 ∧ x8 ≤ 3) → (0 ≤ x9 ∧ x9 ≤ 3) → (0 ≤ x10 ∧ x10 ≤ 3) → (4 - x8) * 128 + (4 - x9) * 21 + (4 - x10) * 3 + 4 < (nn : Int) → nW xs (e + 2) 154 114 [some (2, 112), some (0, m), some (2, 127), some (0, f), some (0, 2), some (1, s), none, some (0, x7), some (0, x8), some (0, x9), some (0, x10), none] [] M (nPI fun z M1 => M = M1 ∧ (-1 ≤ z ∧ z ≤ 26) ∧ (z = -1 ∨ n_land (n_lshr s z) 1 = 0))) ∧ (∀ (x7 x8 x9 x10 : Int), (4 ≤ x7 ∧ x7 ≤ 4) → (0 ≤ x8 ∧ x8 ≤ 3) → (0 ≤ x9 ∧ x9 ≤ 3) → (0 ≤ x10 ∧ x10 ≤ 3) → (4 - x8) * 128 + (4 - x9) * 21 + (4 - x10) * 3 + 3 < (nn : Int) → nW xs (e + 2) 154 146 [some (2, 112), some (0, m), some (2, 127), some (0, f), some (0, 2), some (1, s), none, some (0, x7), some (0, x8), some (0, x9), some (0, x10), none] [] M (nPI fun z M1 => M = M1 ∧ (-1 ≤ z ∧ z ≤ 26) ∧ (z = -1 ∨ n_land (n_lshr s z) 1 = 0))) ∧ (∀ (x7 x8 x9 : Int), (4 ≤ x7 ∧ x7 ≤ 4) → (0 ≤ x8 ∧ x8 ≤ 3) → (0 ≤ x9 ∧ x9 ≤ 3) → (4 - x8) * 128 + (4 - x9) * 21 + 2 < (nn : Int) → nW xs (e + 2) 154 152 [some (2, 112), some (0, m), some (2, 127), some (0, f), some (0, 2), some (1, s), none, some (0, x7), some (0, x8), some (0, x9), none, none] [] M (nPI fun z M1 => M = M1 ∧ (-1 ≤ z ∧ z ≤ 26) ∧ (z = -1 ∨ n_land (n_lshr s z) 1 = 0))) ∧ (∀ (x7 x8 : Int), (4 ≤ x7 ∧ x7 ≤ 4) → (0 ≤ x8 ∧ x8 ≤ 3) → (4 - x8) * 128 + 1 < (nn : Int) → nW xs (e + 2) 154 158 [some (2, 112), some (0, m), some (2, 127), some (0, f), some (0, 2), some (1, s), none, some (0, x7), some (0, x8), none, none, none] [] M (nPI fun z M1 => M = M1 ∧ (-1 ≤ z ∧ z ≤ 26) ∧ (z = -1 ∨ n_land (n_lshr s z) 1 = 0))) := by
  have hd : (2 : Int) = 2 ∨ (2 : Int) = 3 := by decide
  have hac := hS.2.2.2.2
  intro nn
  induction nn with
  | zero => refine ⟨?_, ?_, ?_, ?_, ?_, ?_, ?_, ?_⟩ <;> (intros; omega)
  | succ nn ih =>
    refine ⟨?_, ?_, ?_, ?_, ?_, ?_, ?_, ?_⟩
    · intro x7 x8 k7 k8 hnn
      refine n_iload c_154_14 rfl (n_iload c_154_16 rfl ?_)
      refine n_if2_ge c_154_18 (by omega) (by omega) ?_ ?_
      · intro h1
        refine n_iconst c_154_164 ?_
        exact n_rI c_154_165 rfl ⟨rfl, by omega, by first | omega | (refine Or.inr ?_; subst_vars; assumption)⟩
      · intro h2
        refine n_lload c_154_21 rfl (n_iload c_154_23 rfl (n_i_lshr c_154_25 rfl ?_))
        have f3 := n_lshr_r s x8
        generalize gz4 : (n_lshr s x8) = z4 at f3 ⊢
        refine n_lconst (n := 1) c_154_26 rfl (n_i_land c_154_27 rfl ?_)
        have f5 := n_land_r z4 1
        generalize gz6 : (n_land z4 1) = z6 at f5 ⊢
        refine n_lconst (n := 0) c_154_28 rfl (n_lcmp c_154_29 ?_)
        refine n_lif_ne c_154_30 (by omega) (by omega) ?_ ?_
        · intro h7
          refine n_iconst c_154_36 (n_istore (L2 := [some (2, 112), some (0, m), some (2, 127), some (0, f), some (0, 2), some (1, s), none, some (0, x7), some (0, x8), some (0, 0), none, none]) c_154_37 rfl rfl (n_fg (le_s (le_s (le_s (le_s (le_s (le_s (le_n (le_s (le_s (le_s (le_n (le_n le_0)))))))))))) ?_))
          exact ih.2.1 _ _ _ (by omega) (by omega) (by omega) (by omega)
        · intro h8
          refine n_goto c_154_33 (n_fg (le_s (le_s (le_s (le_s (le_s (le_s (le_n (le_s (le_s (le_n (le_n (le_n le_0)))))))))))) ?_)
          exact ih.2.2.2.2.2.2.2 _ _ (by omega) (by omega) (by omega)
    · intro x7 x8 x9 k7 k8 k9 hnn
      refine n_iload c_154_39 rfl (n_iload_n c_154_41 rfl (n_iconst c_154_42 ?_))
      refine n_if2_le c_154_43 (by omega) (by omega) ?_ ?_
      · intro h1
        refine n_iconst c_154_51 ?_
        refine n_if2_ge c_154_52 (by omega) (by omega) ?_ ?_
        · intro h2
          refine n_fg (le_s (le_s (le_s (le_s (le_s (le_s (le_n (le_s (le_s (le_n (le_n (le_n le_0)))))))))))) ?_
          exact ih.2.2.2.2.2.2.2 _ _ (by omega) (by omega) (by omega)
        · intro h3
          refine n_iload_n c_154_55 rfl (n_iconst c_154_56 ?_)
          refine n_if2_le c_154_57 (by omega) (by omega) ?_ ?_
          · intro h4
            refine n_fg (le_s (le_s (le_s (le_s (le_s (le_s (le_n (le_s (le_s (le_s (le_n (le_n le_0)))))))))))) ?_
            exact ih.2.2.1 _ _ _ (by omega) (by omega) (by omega) (by omega)
          · intro h5
            exfalso; omega
      · intro h6
        refine n_iload c_154_46 rfl (n_goto c_154_48 ?_)
        refine n_if2_ge c_154_52 (by omega) (by omega) ?_ ?_
        · intro h7
          refine n_fg (le_s (le_s (le_s (le_s (le_s (le_s (le_n (le_s (le_s (le_n (le_n (le_n le_0)))))))))))) ?_
          exact ih.2.2.2.2.2.2.2 _ _ (by omega) (by omega) (by omega)
        · intro h8
          refine n_iload_n c_154_55 rfl (n_iconst c_154_56 ?_)
          refine n_if2_le c_154_57 (by omega) (by omega) ?_ ?_
          · intro h9
            exfalso; omega
          · intro h10
            refine n_lload c_154_60 rfl (n_iload c_154_62 rfl (n_i_lshr c_154_64 rfl ?_))
            have f11 := n_lshr_r s x9
            generalize gz12 : (n_lshr s x9) = z12 at f11 ⊢
            refine n_lconst (n := 1) c_154_65 rfl (n_i_land c_154_66 rfl ?_)
            have f13 := n_land_r z12 1
            generalize gz14 : (n_land z12 1) = z14 at f13 ⊢
            refine n_lconst (n := 0) c_154_67 rfl (n_lcmp c_154_68 ?_)
            refine n_lif_ne c_154_69 (by omega) (by omega) ?_ ?_
            · intro h15
              refine n_fg (le_s (le_s (le_s (le_s (le_s (le_s (le_n (le_s (le_s (le_s (le_n (le_n le_0)))))))))))) ?_
              exact ih.2.2.1 _ _ _ (by omega) (by omega) (by omega) (by omega)
            · intro h16
              refine n_goto c_154_72 (n_fg (le_s (le_s (le_s (le_s (le_s (le_s (le_n (le_s (le_s (le_s (le_n (le_n le_0)))))))))))) ?_)
              exact ih.2.2.2.2.2.2.1 _ _ _ (by omega) (by omega) (by omega) (by omega)
    · intro x7 x8 x9 k7 k8 k9 hnn
      refine n_iconst c_154_75 (n_istore (L2 := [some (2, 112), some (0, m), some (2, 127), some (0, f), some (0, 2), some (1, s), none, some (0, x7), some (0, x8), some (0, x9), some (0, 0), none]) c_154_76 rfl rfl (n_fg (le_s (le_s (le_s (le_s (le_s (le_s (le_n (le_s (le_s (le_s (le_s (le_n le_0)))))))))))) ?_))
      exact ih.2.2.2.1 _ _ _ _ (by omega) (by omega) (by omega) (by omega) (by omega)
    · intro x7 x8 x9 x10 k7 k8 k9 k10 hnn
      refine n_iload c_154_78 rfl (n_iload_n c_154_80 rfl (n_iconst c_154_81 ?_))
      refine n_if2_le c_154_82 (by omega) (by omega) ?_ ?_
      · intro h1
        refine n_iconst c_154_90 ?_
        refine n_if2_ge c_154_91 (by omega) (by omega) ?_ ?_
        · intro h2
          refine n_fg (le_s (le_s (le_s (le_s (le_s (le_s (le_n (le_s (le_s (le_s (le_n (le_n le_0)))))))))))) ?_
          exact ih.2.2.2.2.2.2.1 _ _ _ (by omega) (by omega) (by omega) (by omega)
        · intro h3
          refine n_iload_n c_154_94 rfl (n_iconst c_154_95 ?_)
          refine n_if2_le c_154_96 (by omega) (by omega) ?_ ?_
          · intro h4
            refine n_fg (le_s (le_s (le_s (le_s (le_s (le_s (le_n (le_s (le_s (le_s (le_s (le_n le_0)))))))))))) ?_
            exact ih.2.2.2.2.1 _ _ _ _ (by omega) (by omega) (by omega) (by omega) (by omega)
          · intro h5
            exfalso; omega
      · intro h6
        refine n_iload c_154_85 rfl (n_goto c_154_87 ?_)
        refine n_if2_ge c_154_91 (by omega) (by omega) ?_ ?_
        · intro h7
          refine n_fg (le_s (le_s (le_s (le_s (le_s (le_s (le_n (le_s (le_s (le_s (le_n (le_n le_0)))))))))))) ?_
          exact ih.2.2.2.2.2.2.1 _ _ _ (by omega) (by omega) (by omega) (by omega)
        · intro h8
          refine n_iload_n c_154_94 rfl (n_iconst c_154_95 ?_)
          refine n_if2_le c_154_96 (by omega) (by omega) ?_ ?_
          · intro h9
            exfalso; omega
          · intro h10
            refine n_lload c_154_99 rfl (n_iload c_154_101 rfl (n_i_lshr c_154_103 rfl ?_))
            have f11 := n_lshr_r s x10
            generalize gz12 : (n_lshr s x10) = z12 at f11 ⊢
            refine n_lconst (n := 1) c_154_104 rfl (n_i_land c_154_105 rfl ?_)
            have f13 := n_land_r z12 1
            generalize gz14 : (n_land z12 1) = z14 at f13 ⊢
            refine n_lconst (n := 0) c_154_106 rfl (n_lcmp c_154_107 ?_)
            refine n_lif_ne c_154_108 (by omega) (by omega) ?_ ?_
            · intro h15
              refine n_fg (le_s (le_s (le_s (le_s (le_s (le_s (le_n (le_s (le_s (le_s (le_s (le_n le_0)))))))))))) ?_
              exact ih.2.2.2.2.1 _ _ _ _ (by omega) (by omega) (by omega) (by omega) (by omega)
            · intro h16
              refine n_goto c_154_111 (n_fg (le_s (le_s (le_s (le_s (le_s (le_s (le_n (le_s (le_s (le_s (le_s (le_n le_0)))))))))))) ?_)
              exact ih.2.2.2.2.2.1 _ _ _ _ (by omega) (by omega) (by omega) (by omega) (by omega)
    · intro x7 x8 x9 x10 k7 k8 k9 k10 hnn
      refine n_aload_n c_154_114 rfl (n_iload_n c_154_115 rfl (n_aload_n c_154_116 rfl (n_iload_n c_154_117 rfl (n_iload c_154_118 rfl (n_iload c_154_120 rfl (n_iload c_154_122 rfl (n_iload c_154_124 rfl (n_v7I c_154_126 rfl sc_112.n rfl rfl rfl rfl (imageH2_2 (m := m) (f := f) (x := x8) (y := x9) (z0 := x10) hS hdm (by omega) (by omega) (by omega) (by omega) (by omega)) ?_))))))))
      intro z1 M2 hP3
      obtain ⟨eM, f3⟩ := hP3
      subst eM
      refine n_istore (L2 := [some (2, 112), some (0, m), some (2, 127), some (0, f), some (0, 2), some (1, s), none, some (0, x7), some (0, x8), some (0, x9), some (0, x10), some (0, z1)]) c_154_129 rfl rfl (n_lload c_154_131 rfl (n_iload c_154_133 rfl (n_i_lshr c_154_135 rfl ?_)))
      have f4 := n_lshr_r s z1
      generalize gz5 : (n_lshr s z1) = z5 at f4 ⊢
      refine n_lconst (n := 1) c_154_136 rfl (n_i_land c_154_137 rfl ?_)
      have f6 := n_land_r z5 1
      generalize gz7 : (n_land z5 1) = z7 at f6 ⊢
      refine n_lconst (n := 0) c_154_138 rfl (n_lcmp c_154_139 ?_)
      refine n_lif_ne c_154_140 (by omega) (by omega) ?_ ?_
      · intro h8
        refine n_fg (le_s (le_s (le_s (le_s (le_s (le_s (le_n (le_s (le_s (le_s (le_s (le_n le_0)))))))))))) ?_
        exact ih.2.2.2.2.2.1 _ _ _ _ (by omega) (by omega) (by omega) (by omega) (by omega)
      · intro h9
        refine n_iload c_154_143 rfl ?_
        exact n_rI c_154_145 rfl ⟨rfl, by omega, by first | omega | (refine Or.inr ?_; subst_vars; assumption)⟩
    · intro x7 x8 x9 x10 k7 k8 k9 k10 hnn
      refine n_iinc (L2 := [some (2, 112), some (0, m), some (2, 127), some (0, f), some (0, 2), some (1, s), none, some (0, x7), some (0, x8), some (0, x9), some (0, (x10 + 1)), none]) c_154_146 rfl rfl rfl (n_goto c_154_149 (n_fg (le_s (le_s (le_s (le_s (le_s (le_s (le_n (le_s (le_s (le_s (le_s (le_n le_0)))))))))))) ?_))
      exact ih.2.2.2.1 _ _ _ _ (by omega) (by omega) (by omega) (by omega) (by omega)
    · intro x7 x8 x9 k7 k8 k9 hnn
      refine n_iinc (L2 := [some (2, 112), some (0, m), some (2, 127), some (0, f), some (0, 2), some (1, s), none, some (0, x7), some (0, x8), some (0, (x9 + 1)), none, none]) c_154_152 rfl rfl rfl (n_goto c_154_155 (n_fg (le_s (le_s (le_s (le_s (le_s (le_s (le_n (le_s (le_s (le_s (le_n (le_n le_0)))))))))))) ?_))
      exact ih.2.1 _ _ _ (by omega) (by omega) (by omega) (by omega)
    · intro x7 x8 k7 k8 hnn
      refine n_iinc (L2 := [some (2, 112), some (0, m), some (2, 127), some (0, f), some (0, 2), some (1, s), none, some (0, x7), some (0, (x8 + 1)), none, none, none]) c_154_158 rfl rfl rfl (n_goto c_154_161 (n_fg (le_s (le_s (le_s (le_s (le_s (le_s (le_n (le_s (le_s (le_n (le_n (le_n le_0)))))))))))) ?_))
      exact ih.1 _ _ (by omega) (by omega) (by omega)
set_option maxHeartbeats 4000000 in
theorem escapesH2_2 {xs : List Int32} {e : Nat} {ac : Int} {M0 M : nM} {m f s : Int} (hS : Sf 2 ac M0 M) (hdm : M0 112 0 = 2) (hm : 0 ≤ m ∧ m ≤ 3) (hf : 0 ≤ f ∧ f ≤ 0) (hs : -9223372036854775808 ≤ s ∧ s ≤ 9223372036854775807) : nW xs (e + 2) 154 0 [some (2, 112), some (0, m), some (2, 127), some (0, f), some (0, 2), some (1, s), none, none, none, none, none, none] [] M (nPI fun z M1 => M = M1 ∧ (-1 ≤ z ∧ z ≤ 26) ∧ (z = -1 ∨ n_land (n_lshr s z) 1 = 0)) := by
  have hd : (2 : Int) = 2 ∨ (2 : Int) = 3 := by decide
  have hac := hS.2.2.2.2
  refine n_aload_n c_154_0 rfl (n_getV (bi := 0) c_154_1 sc_112.n rfl rfl rfl (t_dm hS hdm) ?_)
  intro z1 ez1 f2
  obtain rfl : z1 = 2 := by omega
  refine n_iload c_154_4 rfl (n_s2I c_154_6 rfl rfl rfl rfl (mpower2_2  hS ) ?_)
  intro z3 M4 hP5
  obtain ⟨eM, f5⟩ := hP5
  subst eM
  obtain rfl : z3 = 4 := by omega
  refine n_istore (L2 := [some (2, 112), some (0, m), some (2, 127), some (0, f), some (0, 2), some (1, s), none, some (0, 4), none, none, none, none]) c_154_9 rfl rfl (n_iconst c_154_11 (n_istore (L2 := [some (2, 112), some (0, m), some (2, 127), some (0, f), some (0, 2), some (1, s), none, some (0, 4), some (0, 0), none, none, none]) c_154_12 rfl rfl (n_fg (le_s (le_s (le_s (le_s (le_s (le_s (le_n (le_s (le_s (le_n (le_n (le_n le_0)))))))))))) ?_)))
  exact (escapesH2_2_c hS hdm hm hf hs 1546).1 _ _ (by omega) (by omega) (by omega)

set_option maxHeartbeats 4000000 in
theorem escapesH3_2_c {xs : List Int32} {e : Nat} {ac : Int} {M0 M : nM} {m f s : Int} (hS : Sf 2 ac M0 M) (hdm : M0 112 0 = 2) (hm : 0 ≤ m ∧ m ≤ 3) (hf : 0 ≤ f ∧ f ≤ 0) (hs : -9223372036854775808 ≤ s ∧ s ≤ 9223372036854775807) : ∀ nn : Nat, (∀ (x7 x8 : Int), (8 ≤ x7 ∧ x7 ≤ 8) → (0 ≤ x8 ∧ x8 ≤ 8) → (8 - x8) * 332 + 332 < (nn : Int) → nW xs (e + 2) 154 14 [some (2, 112), some (0, m), some (2, 127), some (0, f), some (0, 3), some (1, s), none, some (0, x7), some (0, x8), none, none, none] [] M (nPI fun z M1 => M = M1 ∧ (-1 ≤ z ∧ z ≤ 26) ∧ (z = -1 ∨ n_land (n_lshr s z) 1 = 0))) ∧ (∀ (x7 x8 x9 : Int), (8 ≤ x7 ∧ x7 ≤ 8) → (0 ≤ x8 ∧ x8 ≤ 7) → (0 ≤ x9 ∧ x9 ≤ 8) → (8 - x8) * 332 + (8 - x9) * 33 + 34 < (nn : Int) → nW xs (e + 2) 154 39 [some (2, 112), some (0, m), some (2, 127), some (0, f), some (0, 3), some (1, s), none, some (0, x7), some (0, x8), some (0, x9), none, none] [] M (nPI fun z M1 => M = M1 ∧ (-1 ≤ z ∧ z ≤ 26) ∧ (z = -1 ∨ n_land (n_lshr s z) 1 = 0))) ∧ (∀ (x7 x8 x9 : Int), (8 ≤ x7 ∧ x7 ≤ 8) → (0 ≤ x8 ∧ x8 ≤ 7) → (0 ≤ x9 ∧ x9 ≤ 7) → (8 - x8) * 332 + (8 - x9) * 33 + 33 < (nn : Int) → nW xs (e + 2) 154 75 [some (2, 112), some (0, m), some (2, 127), some (0, f), some (0, 3), some (1, s), none, some (0, x7), some (0, x8), some (0, x9), none, none] [] M (nPI fun z M1 => M = M1 ∧ (-1 ≤ z ∧ z ≤ 26) ∧ (z = -1 ∨ n_land (n_lshr s z) 1 = 0))) ∧ (∀ (x7 x8 x9 x10 : Int), (8 ≤ x7 ∧ x7 ≤ 8) → (0 ≤ x8 ∧ x8 ≤ 7) → (0 ≤ x9 ∧ x9 ≤ 7) → (0 ≤ x10 ∧ x10 ≤ 8) → (8 - x8) * 332 + (8 - x9) * 33 + (8 - x10) * 3 + 5 < (nn : Int) → nW xs (e + 2) 154 78 [some (2, 112), some (0, m), some (2, 127), some (0, f), some (0, 3), some (1, s), none, some (0, x7), some (0, x8), some (0, x9), some (0, x10), none] [] M (nPI fun z M1 => M = M1 ∧ (-1 ≤ z ∧ z ≤ 26) ∧ (z = -1 ∨ n_land (n_lshr s z) 1 = 0))) ∧ (∀ (x7 x8 x9 x10 : Int), (8 ≤ x7 ∧ x7 ≤ 8) → (0 ≤ x8 ∧ x8 ≤ 7) → (0 ≤ x9 ∧ x9 ≤ 7) → (0 ≤ x10 ∧ x10 ≤ 7) → (8 - x8) * 332 + (8 - x9) * 33 + (8 - x10) * 3 + 4 < (nn : Int) → nW xs (e + 2) 154 114 [some (2, 112), some (0, m), some (2, 127), some (0, f), some (0, 3), some (1, s), none, some (0, x7), some (0, x8), some (0, x9), some (0, x10), none] [] M (nPI fun z M1 => M = M1 ∧ (-1 ≤ z ∧ z ≤ 26) ∧ (z = -1 ∨ n_land (n_lshr s z) 1 = 0))) ∧ (∀ (x7 x8 x9 x10 : Int), (8 ≤ x7 ∧ x7 ≤ 8) → (0 ≤ x8 ∧ x8 ≤ 7) → (0 ≤ x9 ∧ x9 ≤ 7) → (0 ≤ x10 ∧ x10 ≤ 7) → (8 - x8) * 332 + (8 - x9) * 33 + (8 - x10) * 3 + 3 < (nn : Int) → nW xs (e + 2) 154 146 [some (2, 112), some (0, m), some (2, 127), some (0, f), some (0, 3), some (1, s), none, some (0, x7), some (0, x8), some (0, x9), some (0, x10), none] [] M (nPI fun z M1 => M = M1 ∧ (-1 ≤ z ∧ z ≤ 26) ∧ (z = -1 ∨ n_land (n_lshr s z) 1 = 0))) ∧ (∀ (x7 x8 x9 : Int), (8 ≤ x7 ∧ x7 ≤ 8) → (0 ≤ x8 ∧ x8 ≤ 7) → (0 ≤ x9 ∧ x9 ≤ 7) → (8 - x8) * 332 + (8 - x9) * 33 + 2 < (nn : Int) → nW xs (e + 2) 154 152 [some (2, 112), some (0, m), some (2, 127), some (0, f), some (0, 3), some (1, s), none, some (0, x7), some (0, x8), some (0, x9), none, none] [] M (nPI fun z M1 => M = M1 ∧ (-1 ≤ z ∧ z ≤ 26) ∧ (z = -1 ∨ n_land (n_lshr s z) 1 = 0))) ∧ (∀ (x7 x8 : Int), (8 ≤ x7 ∧ x7 ≤ 8) → (0 ≤ x8 ∧ x8 ≤ 7) → (8 - x8) * 332 + 1 < (nn : Int) → nW xs (e + 2) 154 158 [some (2, 112), some (0, m), some (2, 127), some (0, f), some (0, 3), some (1, s), none, some (0, x7), some (0, x8), none, none, none] [] M (nPI fun z M1 => M = M1 ∧ (-1 ≤ z ∧ z ≤ 26) ∧ (z = -1 ∨ n_land (n_lshr s z) 1 = 0))) := by
  have hd : (2 : Int) = 2 ∨ (2 : Int) = 3 := by decide
  have hac := hS.2.2.2.2
  intro nn
  induction nn with
  | zero => refine ⟨?_, ?_, ?_, ?_, ?_, ?_, ?_, ?_⟩ <;> (intros; omega)
  | succ nn ih =>
    refine ⟨?_, ?_, ?_, ?_, ?_, ?_, ?_, ?_⟩
    · intro x7 x8 k7 k8 hnn
      refine n_iload c_154_14 rfl (n_iload c_154_16 rfl ?_)
      refine n_if2_ge c_154_18 (by omega) (by omega) ?_ ?_
      · intro h1
        refine n_iconst c_154_164 ?_
        exact n_rI c_154_165 rfl ⟨rfl, by omega, by first | omega | (refine Or.inr ?_; subst_vars; assumption)⟩
      · intro h2
        refine n_lload c_154_21 rfl (n_iload c_154_23 rfl (n_i_lshr c_154_25 rfl ?_))
        have f3 := n_lshr_r s x8
        generalize gz4 : (n_lshr s x8) = z4 at f3 ⊢
        refine n_lconst (n := 1) c_154_26 rfl (n_i_land c_154_27 rfl ?_)
        have f5 := n_land_r z4 1
        generalize gz6 : (n_land z4 1) = z6 at f5 ⊢
        refine n_lconst (n := 0) c_154_28 rfl (n_lcmp c_154_29 ?_)
        refine n_lif_ne c_154_30 (by omega) (by omega) ?_ ?_
        · intro h7
          refine n_iconst c_154_36 (n_istore (L2 := [some (2, 112), some (0, m), some (2, 127), some (0, f), some (0, 3), some (1, s), none, some (0, x7), some (0, x8), some (0, 0), none, none]) c_154_37 rfl rfl (n_fg (le_s (le_s (le_s (le_s (le_s (le_s (le_n (le_s (le_s (le_s (le_n (le_n le_0)))))))))))) ?_))
          exact ih.2.1 _ _ _ (by omega) (by omega) (by omega) (by omega)
        · intro h8
          refine n_goto c_154_33 (n_fg (le_s (le_s (le_s (le_s (le_s (le_s (le_n (le_s (le_s (le_n (le_n (le_n le_0)))))))))))) ?_)
          exact ih.2.2.2.2.2.2.2 _ _ (by omega) (by omega) (by omega)
    · intro x7 x8 x9 k7 k8 k9 hnn
      refine n_iload c_154_39 rfl (n_iload_n c_154_41 rfl (n_iconst c_154_42 ?_))
      refine n_if2_le c_154_43 (by omega) (by omega) ?_ ?_
      · intro h1
        refine n_iconst c_154_51 ?_
        refine n_if2_ge c_154_52 (by omega) (by omega) ?_ ?_
        · intro h2
          refine n_fg (le_s (le_s (le_s (le_s (le_s (le_s (le_n (le_s (le_s (le_n (le_n (le_n le_0)))))))))))) ?_
          exact ih.2.2.2.2.2.2.2 _ _ (by omega) (by omega) (by omega)
        · intro h3
          refine n_iload_n c_154_55 rfl (n_iconst c_154_56 ?_)
          refine n_if2_le c_154_57 (by omega) (by omega) ?_ ?_
          · intro h4
            refine n_fg (le_s (le_s (le_s (le_s (le_s (le_s (le_n (le_s (le_s (le_s (le_n (le_n le_0)))))))))))) ?_
            exact ih.2.2.1 _ _ _ (by omega) (by omega) (by omega) (by omega)
          · intro h5
            exfalso; omega
      · intro h6
        refine n_iload c_154_46 rfl (n_goto c_154_48 ?_)
        refine n_if2_ge c_154_52 (by omega) (by omega) ?_ ?_
        · intro h7
          refine n_fg (le_s (le_s (le_s (le_s (le_s (le_s (le_n (le_s (le_s (le_n (le_n (le_n le_0)))))))))))) ?_
          exact ih.2.2.2.2.2.2.2 _ _ (by omega) (by omega) (by omega)
        · intro h8
          refine n_iload_n c_154_55 rfl (n_iconst c_154_56 ?_)
          refine n_if2_le c_154_57 (by omega) (by omega) ?_ ?_
          · intro h9
            exfalso; omega
          · intro h10
            refine n_lload c_154_60 rfl (n_iload c_154_62 rfl (n_i_lshr c_154_64 rfl ?_))
            have f11 := n_lshr_r s x9
            generalize gz12 : (n_lshr s x9) = z12 at f11 ⊢
            refine n_lconst (n := 1) c_154_65 rfl (n_i_land c_154_66 rfl ?_)
            have f13 := n_land_r z12 1
            generalize gz14 : (n_land z12 1) = z14 at f13 ⊢
            refine n_lconst (n := 0) c_154_67 rfl (n_lcmp c_154_68 ?_)
            refine n_lif_ne c_154_69 (by omega) (by omega) ?_ ?_
            · intro h15
              refine n_fg (le_s (le_s (le_s (le_s (le_s (le_s (le_n (le_s (le_s (le_s (le_n (le_n le_0)))))))))))) ?_
              exact ih.2.2.1 _ _ _ (by omega) (by omega) (by omega) (by omega)
            · intro h16
              refine n_goto c_154_72 (n_fg (le_s (le_s (le_s (le_s (le_s (le_s (le_n (le_s (le_s (le_s (le_n (le_n le_0)))))))))))) ?_)
              exact ih.2.2.2.2.2.2.1 _ _ _ (by omega) (by omega) (by omega) (by omega)
    · intro x7 x8 x9 k7 k8 k9 hnn
      refine n_iconst c_154_75 (n_istore (L2 := [some (2, 112), some (0, m), some (2, 127), some (0, f), some (0, 3), some (1, s), none, some (0, x7), some (0, x8), some (0, x9), some (0, 0), none]) c_154_76 rfl rfl (n_fg (le_s (le_s (le_s (le_s (le_s (le_s (le_n (le_s (le_s (le_s (le_s (le_n le_0)))))))))))) ?_))
      exact ih.2.2.2.1 _ _ _ _ (by omega) (by omega) (by omega) (by omega) (by omega)
    · intro x7 x8 x9 x10 k7 k8 k9 k10 hnn
      refine n_iload c_154_78 rfl (n_iload_n c_154_80 rfl (n_iconst c_154_81 ?_))
      refine n_if2_le c_154_82 (by omega) (by omega) ?_ ?_
      · intro h1
        refine n_iconst c_154_90 ?_
        refine n_if2_ge c_154_91 (by omega) (by omega) ?_ ?_
        · intro h2
          refine n_fg (le_s (le_s (le_s (le_s (le_s (le_s (le_n (le_s (le_s (le_s (le_n (le_n le_0)))))))))))) ?_
          exact ih.2.2.2.2.2.2.1 _ _ _ (by omega) (by omega) (by omega) (by omega)
        · intro h3
          refine n_iload_n c_154_94 rfl (n_iconst c_154_95 ?_)
          refine n_if2_le c_154_96 (by omega) (by omega) ?_ ?_
          · intro h4
            refine n_fg (le_s (le_s (le_s (le_s (le_s (le_s (le_n (le_s (le_s (le_s (le_s (le_n le_0)))))))))))) ?_
            exact ih.2.2.2.2.1 _ _ _ _ (by omega) (by omega) (by omega) (by omega) (by omega)
          · intro h5
            exfalso; omega
      · intro h6
        refine n_iload c_154_85 rfl (n_goto c_154_87 ?_)
        refine n_if2_ge c_154_91 (by omega) (by omega) ?_ ?_
        · intro h7
          refine n_fg (le_s (le_s (le_s (le_s (le_s (le_s (le_n (le_s (le_s (le_s (le_n (le_n le_0)))))))))))) ?_
          exact ih.2.2.2.2.2.2.1 _ _ _ (by omega) (by omega) (by omega) (by omega)
        · intro h8
          refine n_iload_n c_154_94 rfl (n_iconst c_154_95 ?_)
          refine n_if2_le c_154_96 (by omega) (by omega) ?_ ?_
          · intro h9
            exfalso; omega
          · intro h10
            refine n_lload c_154_99 rfl (n_iload c_154_101 rfl (n_i_lshr c_154_103 rfl ?_))
            have f11 := n_lshr_r s x10
            generalize gz12 : (n_lshr s x10) = z12 at f11 ⊢
            refine n_lconst (n := 1) c_154_104 rfl (n_i_land c_154_105 rfl ?_)
            have f13 := n_land_r z12 1
            generalize gz14 : (n_land z12 1) = z14 at f13 ⊢
            refine n_lconst (n := 0) c_154_106 rfl (n_lcmp c_154_107 ?_)
            refine n_lif_ne c_154_108 (by omega) (by omega) ?_ ?_
            · intro h15
              refine n_fg (le_s (le_s (le_s (le_s (le_s (le_s (le_n (le_s (le_s (le_s (le_s (le_n le_0)))))))))))) ?_
              exact ih.2.2.2.2.1 _ _ _ _ (by omega) (by omega) (by omega) (by omega) (by omega)
            · intro h16
              refine n_goto c_154_111 (n_fg (le_s (le_s (le_s (le_s (le_s (le_s (le_n (le_s (le_s (le_s (le_s (le_n le_0)))))))))))) ?_)
              exact ih.2.2.2.2.2.1 _ _ _ _ (by omega) (by omega) (by omega) (by omega) (by omega)
    · intro x7 x8 x9 x10 k7 k8 k9 k10 hnn
      refine n_aload_n c_154_114 rfl (n_iload_n c_154_115 rfl (n_aload_n c_154_116 rfl (n_iload_n c_154_117 rfl (n_iload c_154_118 rfl (n_iload c_154_120 rfl (n_iload c_154_122 rfl (n_iload c_154_124 rfl (n_v7I c_154_126 rfl sc_112.n rfl rfl rfl rfl (imageH3_2 (m := m) (f := f) (x := x8) (y := x9) (z0 := x10) hS hdm (by omega) (by omega) (by omega) (by omega) (by omega)) ?_))))))))
      intro z1 M2 hP3
      obtain ⟨eM, f3⟩ := hP3
      subst eM
      refine n_istore (L2 := [some (2, 112), some (0, m), some (2, 127), some (0, f), some (0, 3), some (1, s), none, some (0, x7), some (0, x8), some (0, x9), some (0, x10), some (0, z1)]) c_154_129 rfl rfl (n_lload c_154_131 rfl (n_iload c_154_133 rfl (n_i_lshr c_154_135 rfl ?_)))
      have f4 := n_lshr_r s z1
      generalize gz5 : (n_lshr s z1) = z5 at f4 ⊢
      refine n_lconst (n := 1) c_154_136 rfl (n_i_land c_154_137 rfl ?_)
      have f6 := n_land_r z5 1
      generalize gz7 : (n_land z5 1) = z7 at f6 ⊢
      refine n_lconst (n := 0) c_154_138 rfl (n_lcmp c_154_139 ?_)
      refine n_lif_ne c_154_140 (by omega) (by omega) ?_ ?_
      · intro h8
        refine n_fg (le_s (le_s (le_s (le_s (le_s (le_s (le_n (le_s (le_s (le_s (le_s (le_n le_0)))))))))))) ?_
        exact ih.2.2.2.2.2.1 _ _ _ _ (by omega) (by omega) (by omega) (by omega) (by omega)
      · intro h9
        refine n_iload c_154_143 rfl ?_
        exact n_rI c_154_145 rfl ⟨rfl, by omega, by first | omega | (refine Or.inr ?_; subst_vars; assumption)⟩
    · intro x7 x8 x9 x10 k7 k8 k9 k10 hnn
      refine n_iinc (L2 := [some (2, 112), some (0, m), some (2, 127), some (0, f), some (0, 3), some (1, s), none, some (0, x7), some (0, x8), some (0, x9), some (0, (x10 + 1)), none]) c_154_146 rfl rfl rfl (n_goto c_154_149 (n_fg (le_s (le_s (le_s (le_s (le_s (le_s (le_n (le_s (le_s (le_s (le_s (le_n le_0)))))))))))) ?_))
      exact ih.2.2.2.1 _ _ _ _ (by omega) (by omega) (by omega) (by omega) (by omega)
    · intro x7 x8 x9 k7 k8 k9 hnn
      refine n_iinc (L2 := [some (2, 112), some (0, m), some (2, 127), some (0, f), some (0, 3), some (1, s), none, some (0, x7), some (0, x8), some (0, (x9 + 1)), none, none]) c_154_152 rfl rfl rfl (n_goto c_154_155 (n_fg (le_s (le_s (le_s (le_s (le_s (le_s (le_n (le_s (le_s (le_s (le_n (le_n le_0)))))))))))) ?_))
      exact ih.2.1 _ _ _ (by omega) (by omega) (by omega) (by omega)
    · intro x7 x8 k7 k8 hnn
      refine n_iinc (L2 := [some (2, 112), some (0, m), some (2, 127), some (0, f), some (0, 3), some (1, s), none, some (0, x7), some (0, (x8 + 1)), none, none, none]) c_154_158 rfl rfl rfl (n_goto c_154_161 (n_fg (le_s (le_s (le_s (le_s (le_s (le_s (le_n (le_s (le_s (le_n (le_n (le_n le_0)))))))))))) ?_))
      exact ih.1 _ _ (by omega) (by omega) (by omega)
set_option maxHeartbeats 4000000 in
theorem escapesH3_2 {xs : List Int32} {e : Nat} {ac : Int} {M0 M : nM} {m f s : Int} (hS : Sf 2 ac M0 M) (hdm : M0 112 0 = 2) (hm : 0 ≤ m ∧ m ≤ 3) (hf : 0 ≤ f ∧ f ≤ 0) (hs : -9223372036854775808 ≤ s ∧ s ≤ 9223372036854775807) : nW xs (e + 2) 154 0 [some (2, 112), some (0, m), some (2, 127), some (0, f), some (0, 3), some (1, s), none, none, none, none, none, none] [] M (nPI fun z M1 => M = M1 ∧ (-1 ≤ z ∧ z ≤ 26) ∧ (z = -1 ∨ n_land (n_lshr s z) 1 = 0)) := by
  have hd : (2 : Int) = 2 ∨ (2 : Int) = 3 := by decide
  have hac := hS.2.2.2.2
  refine n_aload_n c_154_0 rfl (n_getV (bi := 0) c_154_1 sc_112.n rfl rfl rfl (t_dm hS hdm) ?_)
  intro z1 ez1 f2
  obtain rfl : z1 = 2 := by omega
  refine n_iload c_154_4 rfl (n_s2I c_154_6 rfl rfl rfl rfl (mpower3_2  hS ) ?_)
  intro z3 M4 hP5
  obtain ⟨eM, f5⟩ := hP5
  subst eM
  obtain rfl : z3 = 8 := by omega
  refine n_istore (L2 := [some (2, 112), some (0, m), some (2, 127), some (0, f), some (0, 3), some (1, s), none, some (0, 8), none, none, none, none]) c_154_9 rfl rfl (n_iconst c_154_11 (n_istore (L2 := [some (2, 112), some (0, m), some (2, 127), some (0, f), some (0, 3), some (1, s), none, some (0, 8), some (0, 0), none, none, none]) c_154_12 rfl rfl (n_fg (le_s (le_s (le_s (le_s (le_s (le_s (le_n (le_s (le_s (le_n (le_n (le_n le_0)))))))))))) ?_)))
  exact (escapesH3_2_c hS hdm hm hf hs 6650).1 _ _ (by omega) (by omega) (by omega)

set_option maxHeartbeats 4000000 in
theorem escapesH_2 {xs : List Int32} {e : Nat} {ac : Int} {M0 M : nM} {m f k s : Int} (hS : Sf 2 ac M0 M) (hdm : M0 112 0 = 2) (hm : 0 ≤ m ∧ m ≤ 3) (hf : 0 ≤ f ∧ f ≤ 0) (hk : 0 ≤ k ∧ k ≤ 3) (hs : -9223372036854775808 ≤ s ∧ s ≤ 9223372036854775807) : nW xs (e + 2) 154 0 [some (2, 112), some (0, m), some (2, 127), some (0, f), some (0, k), some (1, s), none, none, none, none, none, none] [] M (nPI fun z M1 => M = M1 ∧ (-1 ≤ z ∧ z ≤ 26) ∧ (z = -1 ∨ n_land (n_lshr s z) 1 = 0)) := by
  rcases (show k = 0 ∨ k = 1 ∨ k = 2 ∨ k = 3 by omega) with rfl | rfl | rfl | rfl
  · exact n_post (escapesH0_2 hS hdm (by omega) (by omega) (by omega)) (fun w M1 h => by obtain ⟨z, rfl, h1, h2, h3⟩ := h; exact ⟨z, rfl, h1, by omega, h3⟩)
  · exact n_post (escapesH1_2 hS hdm (by omega) (by omega) (by omega)) (fun w M1 h => by obtain ⟨z, rfl, h1, h2, h3⟩ := h; exact ⟨z, rfl, h1, by omega, h3⟩)
  · exact n_post (escapesH2_2 hS hdm (by omega) (by omega) (by omega)) (fun w M1 h => by obtain ⟨z, rfl, h1, h2, h3⟩ := h; exact ⟨z, rfl, h1, by omega, h3⟩)
  · exact n_post (escapesH3_2 hS hdm (by omega) (by omega) (by omega)) (fun w M1 h => by obtain ⟨z, rfl, h1, h2, h3⟩ := h; exact ⟨z, rfl, h1, by omega, h3⟩)

set_option maxHeartbeats 4000000 in
theorem mkeepsSet_2 {xs : List Int32} {e : Nat} {ac : Int} {M0 M : nM} {a k s : Int} (hS : Sf 2 ac M0 M) (hdm : M0 112 0 = 2) (ha : 0 ≤ a ∧ a ≤ 7) (hk : 0 ≤ k ∧ k ≤ 3) (hs : -9223372036854775808 ≤ s ∧ s ≤ 9223372036854775807) : nW xs (e + 3) 155 0 [some (2, 112), some (0, a), some (0, k), some (1, s), none] [] M (nPI fun z M1 => M = M1 ∧ (0 ≤ z ∧ z ≤ 1)) := by
  have hd : (2 : Int) = 2 ∨ (2 : Int) = 3 := by decide
  have hac := hS.2.2.2.2
  refine n_aload_n c_155_0 rfl (n_aload_n c_155_1 rfl (n_getR c_155_2 sc_112.n rfl rfl rfl r_112_5 (n_iload_n c_155_5 rfl (n_ialoadV c_155_6 sc_116.n rfl rfl rfl (by omega) (t_116 hS (by omega)) ?_))))
  intro z1 ez1 f2
  refine n_aload_n c_155_7 rfl (n_getR c_155_8 sc_112.n rfl rfl rfl r_112_6 (n_bipush c_155_11 rfl (n_iload_n c_155_13 rfl (n_imul c_155_14 rfl (n_iload_n c_155_15 rfl (n_lload_n c_155_16 rfl (n_v5I c_155_17 rfl sc_112.n rfl rfl rfl rfl (escapesT_2 (m := z1) (f := (27 * a)) (k := k) (s := s) hS hdm (by omega) (by omega) (by omega) (by omega)) ?_)))))))
  intro z3 M4 hP5
  obtain ⟨eM, f5, f5p0⟩ := hP5
  subst eM
  refine n_iconst c_155_20 ?_
  refine n_if2_ne c_155_21 (by omega) (by omega) ?_ ?_
  · intro h6
    refine n_iconst c_155_28 ?_
    exact n_rZ c_155_29 rfl (by omega) ⟨rfl, by omega⟩
  · intro h7
    refine n_iconst c_155_24 (n_goto c_155_25 ?_)
    exact n_rZ c_155_29 rfl (by omega) ⟨rfl, by omega⟩

set_option maxHeartbeats 4000000 in
theorem mallKeep_2_c {xs : List Int32} {e : Nat} {ac : Int} {M0 M : nM} {k s : Int} (hS : Sf 2 ac M0 M) (hdm : M0 112 0 = 2) (hk : 0 ≤ k ∧ k ≤ 3) (hs : -9223372036854775808 ≤ s ∧ s ≤ 9223372036854775807) : ∀ nn : Nat, (∀ (x4 : Int), (0 ≤ x4 ∧ x4 ≤ 8) → (8 - x4) * 1 + 1 < (nn : Int) → nW xs (e + 4) 156 3 [some (2, 112), some (0, k), some (1, s), none, some (0, x4)] [] M (nPI fun z M1 => M = M1 ∧ (0 ≤ z ∧ z ≤ 1))) := by
  have hd : (2 : Int) = 2 ∨ (2 : Int) = 3 := by decide
  have hac := hS.2.2.2.2
  intro nn
  induction nn with
  | zero => intros; omega
  | succ nn ih =>
    intro x4 k4 hnn
    refine n_iload c_156_3 rfl (n_aload_n c_156_5 rfl (n_getV (bi := 4) c_156_6 sc_112.n rfl rfl rfl (t_112_4 hS) ?_))
    intro z1 ez1 f2
    refine n_if2_ge c_156_9 (by omega) (by omega) ?_ ?_
    · intro h3
      refine n_iconst c_156_31 ?_
      exact n_rZ c_156_32 rfl (by omega) ⟨rfl, by omega⟩
    · intro h4
      refine n_aload_n c_156_12 rfl (n_iload c_156_13 rfl (n_iload_n c_156_15 rfl (n_lload_n c_156_16 rfl (n_v3I c_156_17 rfl sc_112.n rfl rfl rfl rfl (mkeepsSet_2 (a := x4) (k := k) (s := s) hS hdm (by omega) (by omega) (by omega)) ?_))))
      intro z5 M6 hP7
      obtain ⟨eM, f7⟩ := hP7
      subst eM
      refine n_if0_ne c_156_20 (by omega) ?_ ?_
      · intro h8
        refine n_iinc (L2 := [some (2, 112), some (0, k), some (1, s), none, some (0, (x4 + 1))]) c_156_25 rfl rfl rfl (n_goto c_156_28 (n_fg (le_s (le_s (le_s (le_n (le_s le_0))))) ?_))
        exact ih _ (by omega) (by omega)
      · intro h9
        refine n_iconst c_156_23 ?_
        exact n_rZ c_156_24 rfl (by omega) ⟨rfl, by omega⟩
set_option maxHeartbeats 4000000 in
theorem mallKeep_2 {xs : List Int32} {e : Nat} {ac : Int} {M0 M : nM} {k s : Int} (hS : Sf 2 ac M0 M) (hdm : M0 112 0 = 2) (hk : 0 ≤ k ∧ k ≤ 3) (hs : -9223372036854775808 ≤ s ∧ s ≤ 9223372036854775807) : nW xs (e + 4) 156 0 [some (2, 112), some (0, k), some (1, s), none, none] [] M (nPI fun z M1 => M = M1 ∧ (0 ≤ z ∧ z ≤ 1)) := by
  have hd : (2 : Int) = 2 ∨ (2 : Int) = 3 := by decide
  have hac := hS.2.2.2.2
  refine n_iconst c_156_0 (n_istore (L2 := [some (2, 112), some (0, k), some (1, s), none, some (0, 0)]) c_156_1 rfl rfl (n_fg (le_s (le_s (le_s (le_n (le_s le_0))))) ?_))
  exact (mallKeep_2_c hS hdm hk hs 30) _ (by omega) (by omega)

set_option maxHeartbeats 4000000 in
theorem mkeeps_2_c {xs : List Int32} {e : Nat} {ac : Int} {M0 M : nM} {a l : Int} (hS : Sf 2 ac M0 M) (hdm : M0 112 0 = 2) (ha : -2147483648 ≤ a ∧ a ≤ 2147483647) (hl : -2147483648 ≤ l ∧ l ≤ 2147483647) : ∀ nn : Nat, (1 < (nn : Int) → nW xs (e + 4) 158 24 [none, none, none] [] M (nPI fun z M1 => M = M1 ∧ (-2147483648 ≤ z ∧ z ≤ 2147483647))) := by
  have hd : (2 : Int) = 2 ∨ (2 : Int) = 3 := by decide
  have hac := hS.2.2.2.2
  intro nn
  induction nn with
  | zero => intros; omega
  | succ nn ih =>
    intro hnn
    refine n_iconst c_158_24 (n_goto c_158_25 ?_)
    exact n_rI c_158_53 rfl ⟨rfl, by omega⟩
set_option maxHeartbeats 4000000 in
theorem mkeeps_2 {xs : List Int32} {e : Nat} {ac : Int} {M0 M : nM} {a l : Int} (hS : Sf 2 ac M0 M) (hdm : M0 112 0 = 2) (ha : -2147483648 ≤ a ∧ a ≤ 2147483647) (hl : -2147483648 ≤ l ∧ l ≤ 2147483647) : nW xs (e + 4) 158 0 [some (2, 112), some (0, a), some (0, l)] [] M (nPI fun z M1 => M = M1 ∧ (-2147483648 ≤ z ∧ z ≤ 2147483647)) := by
  have hd : (2 : Int) = 2 ∨ (2 : Int) = 3 := by decide
  have hac := hS.2.2.2.2
  refine n_iload_n c_158_0 rfl ?_
  refine n_if0_lt c_158_1 (by omega) ?_ ?_
  · intro h1
    refine n_fg (le_n (le_n (le_n le_0))) ?_
    exact (mkeeps_2_c hS hdm ha hl 12)   (by omega)
  · intro h2
    refine n_iload_n c_158_4 rfl (n_aload_n c_158_5 rfl (n_getV (bi := 4) c_158_6 sc_112.n rfl rfl rfl (t_112_4 hS) ?_))
    intro z3 ez3 f4
    refine n_if2_ge c_158_9 (by omega) (by omega) ?_ ?_
    · intro h5
      refine n_fg (le_n (le_n (le_n le_0))) ?_
      exact (mkeeps_2_c hS hdm ha hl 12)   (by omega)
    · intro h6
      refine n_iload_n c_158_12 rfl ?_
      refine n_if0_lt c_158_13 (by omega) ?_ ?_
      · intro h7
        refine n_fg (le_n (le_n (le_n le_0))) ?_
        exact (mkeeps_2_c hS hdm ha hl 12)   (by omega)
      · intro h8
        refine n_iload_n c_158_16 rfl (n_aload_n c_158_17 rfl (n_getV (bi := 7) c_158_18 sc_112.n rfl rfl rfl (t_112_7 hS) ?_))
        intro z9 ez9 f10
        refine n_if2_lt c_158_21 (by omega) (by omega) ?_ ?_
        · intro h11
          refine n_aload_n c_158_28 rfl (n_iload_n c_158_29 rfl (n_aload_n c_158_30 rfl (n_getR c_158_31 sc_112.n rfl rfl rfl r_112_8 (n_iload_n c_158_34 rfl (n_ialoadV c_158_35 sc_118.n rfl rfl rfl (by omega) (t_118 hS (by omega)) ?_)))))
          intro z12 ez12 f13
          refine n_aload_n c_158_36 rfl (n_getR c_158_37 sc_112.n rfl rfl rfl r_112_9 (n_iload_n c_158_40 rfl (n_laloadV c_158_41 sc_119.n rfl rfl rfl (by omega) (t_119 hS (by omega)) ?_)))
          intro z14 ez14 f15
          refine n_v3I c_158_42 rfl sc_112.n rfl rfl rfl rfl (mkeepsSet_2 (a := a) (k := z12) (s := z14) hS hdm (by omega) (by omega) (by omega)) ?_
          intro z16 M17 hP18
          obtain ⟨eM, f18⟩ := hP18
          subst eM
          refine n_if0_eq c_158_45 (by omega) ?_ ?_
          · intro h19
            refine n_iconst c_158_52 ?_
            exact n_rI c_158_53 rfl ⟨rfl, by omega⟩
          · intro h20
            refine n_iconst c_158_48 (n_goto c_158_49 ?_)
            exact n_rI c_158_53 rfl ⟨rfl, by omega⟩
        · intro h21
          refine n_fg (le_n (le_n (le_n le_0))) ?_
          exact (mkeeps_2_c hS hdm ha hl 12)   (by omega)

set_option maxHeartbeats 4000000 in
theorem mlaws_2_c {xs : List Int32} {e : Nat} {ac : Int} {M0 M : nM} {k : Int} (hS : Sf 2 ac M0 M) (hdm : M0 112 0 = 2) (hk : -2147483648 ≤ k ∧ k ≤ 2147483647) : ∀ nn : Nat, (259 < (nn : Int) → nW xs (e + 5) 160 10 [none, none, none, none, none] [] M (nPI fun z M1 => M = M1 ∧ (-2147483648 ≤ z ∧ z ≤ 2147483647))) ∧ (∀ (x2 x3 : Int), (1 ≤ k ∧ k ≤ 2) → (-2147483648 ≤ x2 ∧ x2 ≤ 2147483647) → (0 ≤ x3 ∧ x3 ≤ 256) → (256 - x3) * 1 + 1 < (nn : Int) → nW xs (e + 5) 160 16 [some (2, 112), some (0, k), some (0, x2), some (1, x3), none] [] M (nPI fun z M1 => M = M1 ∧ (-2147483648 ≤ z ∧ z ≤ 2147483647))) := by
  have hd : (2 : Int) = 2 ∨ (2 : Int) = 3 := by decide
  have hac := hS.2.2.2.2
  intro nn
  induction nn with
  | zero => refine ⟨?_, ?_⟩ <;> (intros; omega)
  | succ nn ih =>
    refine ⟨?_, ?_⟩
    · intro hnn
      refine n_iconst c_160_10 ?_
      exact n_rI c_160_11 rfl ⟨rfl, by omega⟩
    · intro x2 x3 k1 k2 k3 hnn
      refine n_lload_n c_160_16 rfl (n_lconst (n := 1) c_160_17 rfl (n_aload_n c_160_18 rfl (n_getV (bi := 0) c_160_19 sc_112.n rfl rfl rfl (t_dm hS hdm) ?_)))
      intro z1 ez1 f2
      obtain rfl : z1 = 2 := by omega
      refine n_iload_n c_160_22 rfl (n_s2I c_160_23 rfl rfl rfl rfl (mpowerU3_2 (n := k) hS (by omega)) ?_)
      intro z3 M4 hP5
      obtain ⟨eM, f5⟩ := hP5
      subst eM
      refine n_i_lshl c_160_26 rfl ?_
      have f6 := n_lshl_1 (y := z3) (a := 1) (b := 8) (by decide) (by omega)
      generalize (n_lshl 1 z3) = z7 at f6 ⊢
      refine n_lcmp c_160_27 ?_
      refine n_lif_ge c_160_28 (by omega) (by omega) ?_ ?_
      · intro h8
        refine n_iload_n c_160_55 rfl ?_
        exact n_rI c_160_56 rfl ⟨rfl, by omega⟩
      · intro h9
        refine n_iload_n c_160_31 rfl (n_aload_n c_160_32 rfl (n_iload_n c_160_33 rfl (n_lload_n c_160_34 rfl (n_v2I c_160_35 rfl sc_112.n rfl rfl rfl rfl (mallKeep_2 (k := k) (s := x3) hS hdm (by omega) (by omega)) ?_))))
        intro z10 M11 hP12
        obtain ⟨eM, f12⟩ := hP12
        subst eM
        refine n_if0_eq c_160_38 (by omega) ?_ ?_
        · intro h13
          refine n_iconst c_160_45 (n_iadd c_160_46 rfl (n_istore_n (L2 := [some (2, 112), some (0, k), some (0, (x2 + 0)), some (1, x3), none]) c_160_47 rfl rfl (n_lload_n c_160_48 rfl (n_lconst (n := 1) c_160_49 rfl (n_ladd c_160_50 rfl (n_lstore_n (L2 := [some (2, 112), some (0, k), some (0, (x2 + 0)), some (1, (x3 + 1)), none]) c_160_51 rfl rfl (n_goto c_160_52 (n_fg (le_s (le_s (le_s (le_s (le_n le_0))))) ?_))))))))
          exact ih.2 _ _ (by omega) (by omega) (by omega) (by omega)
        · intro h14
          refine n_iconst c_160_41 (n_goto c_160_42 (n_iadd c_160_46 rfl (n_wrap ?_)))
          have f15 := n_wr_r (x2 + 1)
          generalize n_wr (x2 + 1) = z16 at f15 ⊢
          refine n_istore_n (L2 := [some (2, 112), some (0, k), some (0, z16), some (1, x3), none]) c_160_47 rfl rfl (n_lload_n c_160_48 rfl (n_lconst (n := 1) c_160_49 rfl (n_ladd c_160_50 rfl (n_lstore_n (L2 := [some (2, 112), some (0, k), some (0, z16), some (1, (x3 + 1)), none]) c_160_51 rfl rfl (n_goto c_160_52 (n_fg (le_s (le_s (le_s (le_s (le_n le_0))))) ?_))))))
          exact ih.2 _ _ (by omega) (by omega) (by omega) (by omega)
set_option maxHeartbeats 4000000 in
theorem mlaws_2 {xs : List Int32} {e : Nat} {ac : Int} {M0 M : nM} {k : Int} (hS : Sf 2 ac M0 M) (hdm : M0 112 0 = 2) (hk : -2147483648 ≤ k ∧ k ≤ 2147483647) : nW xs (e + 5) 160 0 [some (2, 112), some (0, k), none, none, none] [] M (nPI fun z M1 => M = M1 ∧ (-2147483648 ≤ z ∧ z ≤ 2147483647)) := by
  have hd : (2 : Int) = 2 ∨ (2 : Int) = 3 := by decide
  have hac := hS.2.2.2.2
  refine n_iload_n c_160_0 rfl (n_iconst c_160_1 ?_)
  refine n_if2_lt c_160_2 (by omega) (by omega) ?_ ?_
  · intro h1
    refine n_fg (le_n (le_n (le_n (le_n (le_n le_0))))) ?_
    exact (mlaws_2_c hS hdm hk 528).1   (by omega)
  · intro h2
    refine n_iload_n c_160_5 rfl (n_iconst c_160_6 ?_)
    refine n_if2_le c_160_7 (by omega) (by omega) ?_ ?_
    · intro h3
      refine n_iconst c_160_12 (n_istore_n (L2 := [some (2, 112), some (0, k), some (0, 0), none, none]) c_160_13 rfl rfl (n_lconst (n := 0) c_160_14 rfl (n_lstore_n (L2 := [some (2, 112), some (0, k), some (0, 0), some (1, 0), none]) c_160_15 rfl rfl (n_fg (le_s (le_s (le_s (le_s (le_n le_0))))) ?_))))
      exact (mlaws_2_c hS hdm hk 528).2 _ _ (by omega) (by omega) (by omega) (by omega)
    · intro h4
      refine n_fg (le_n (le_n (le_n (le_n (le_n le_0))))) ?_
      exact (mlaws_2_c hS hdm hk 528).1   (by omega)

set_option maxHeartbeats 4000000 in
theorem misMaking_2_c {xs : List Int32} {e : Nat} {ac : Int} {M0 M : nM} {n : Int} (hS : Sf 2 ac M0 M) (hdm : M0 112 0 = 2) (hn : -2147483648 ≤ n ∧ n ≤ 2147483647) : ∀ nn : Nat, (1 < (nn : Int) → nW xs e 161 26 [none, none] [] M (nPI fun z M1 => M = M1 ∧ (0 ≤ z ∧ z ≤ 1) ∧ (z = 0 ∨ (1 ≤ n ∧ n ≤ 3)))) := by
  have hd : (2 : Int) = 2 ∨ (2 : Int) = 3 := by decide
  have hac := hS.2.2.2.2
  intro nn
  induction nn with
  | zero => intros; omega
  | succ nn ih =>
    intro hnn
    refine n_iconst c_161_26 ?_
    exact n_rZ c_161_27 rfl (by omega) ⟨rfl, by omega, by omega⟩
set_option maxHeartbeats 4000000 in
theorem misMaking_2 {xs : List Int32} {e : Nat} {ac : Int} {M0 M : nM} {n : Int} (hS : Sf 2 ac M0 M) (hdm : M0 112 0 = 2) (hn : -2147483648 ≤ n ∧ n ≤ 2147483647) : nW xs e 161 0 [some (2, 112), some (0, n)] [] M (nPI fun z M1 => M = M1 ∧ (0 ≤ z ∧ z ≤ 1) ∧ (z = 0 ∨ (1 ≤ n ∧ n ≤ 3))) := by
  have hd : (2 : Int) = 2 ∨ (2 : Int) = 3 := by decide
  have hac := hS.2.2.2.2
  refine n_iload_n c_161_0 rfl (n_iconst c_161_1 ?_)
  refine n_if2_lt c_161_2 (by omega) (by omega) ?_ ?_
  · intro h1
    refine n_fg (le_n (le_n le_0)) ?_
    exact (misMaking_2_c hS hdm hn 12)   (by omega)
  · intro h2
    refine n_iload_n c_161_5 rfl (n_aload_n c_161_6 rfl (n_getV (bi := 0) c_161_7 sc_112.n rfl rfl rfl (t_dm hS hdm) ?_))
    intro z3 ez3 f4
    obtain rfl : z3 = 2 := by omega
    refine n_iconst c_161_10 ?_
    refine n_if2_ne c_161_11 (by omega) (by omega) ?_ ?_
    · intro h5
      exfalso; omega
    · intro h6
      refine n_iconst c_161_14 (n_goto c_161_15 ?_)
      refine n_if2_gt c_161_19 (by omega) (by omega) ?_ ?_
      · intro h7
        refine n_fg (le_n (le_n le_0)) ?_
        exact (misMaking_2_c hS hdm hn 12)   (by omega)
      · intro h8
        refine n_iconst c_161_22 (n_goto c_161_23 ?_)
        exact n_rZ c_161_27 rfl (by omega) ⟨rfl, by omega, by omega⟩

set_option maxHeartbeats 4000000 in
theorem mrowsOf1_2 {xs : List Int32} {e : Nat} {ac : Int} {M0 M : nM} (hS : Sf 2 ac M0 M) (hdm : M0 112 0 = 2) : nW xs (e + 1) 162 0 [some (2, 112), some (0, 1)] [] M (nPI fun z M1 => M = M1 ∧ (2 ≤ z ∧ z ≤ 2)) := by
  have hd : (2 : Int) = 2 ∨ (2 : Int) = 3 := by decide
  have hac := hS.2.2.2.2
  refine n_aload_n c_162_0 rfl (n_getV (bi := 0) c_162_1 sc_112.n rfl rfl rfl (t_dm hS hdm) ?_)
  intro z1 ez1 f2
  obtain rfl : z1 = 2 := by omega
  refine n_iload_n c_162_4 rfl (n_s2I c_162_5 rfl rfl rfl rfl (mpower1_2  hS ) ?_)
  intro z3 M4 hP5
  obtain ⟨eM, f5⟩ := hP5
  subst eM
  obtain rfl : z3 = 2 := by omega
  exact n_rI c_162_8 rfl ⟨rfl, by omega⟩

set_option maxHeartbeats 4000000 in
theorem mrowsOf2_2 {xs : List Int32} {e : Nat} {ac : Int} {M0 M : nM} (hS : Sf 2 ac M0 M) (hdm : M0 112 0 = 2) : nW xs (e + 1) 162 0 [some (2, 112), some (0, 2)] [] M (nPI fun z M1 => M = M1 ∧ (4 ≤ z ∧ z ≤ 4)) := by
  have hd : (2 : Int) = 2 ∨ (2 : Int) = 3 := by decide
  have hac := hS.2.2.2.2
  refine n_aload_n c_162_0 rfl (n_getV (bi := 0) c_162_1 sc_112.n rfl rfl rfl (t_dm hS hdm) ?_)
  intro z1 ez1 f2
  obtain rfl : z1 = 2 := by omega
  refine n_iload_n c_162_4 rfl (n_s2I c_162_5 rfl rfl rfl rfl (mpower2_2  hS ) ?_)
  intro z3 M4 hP5
  obtain ⟨eM, f5⟩ := hP5
  subst eM
  obtain rfl : z3 = 4 := by omega
  exact n_rI c_162_8 rfl ⟨rfl, by omega⟩

set_option maxHeartbeats 4000000 in
theorem mrowsOf3_2 {xs : List Int32} {e : Nat} {ac : Int} {M0 M : nM} (hS : Sf 2 ac M0 M) (hdm : M0 112 0 = 2) : nW xs (e + 1) 162 0 [some (2, 112), some (0, 3)] [] M (nPI fun z M1 => M = M1 ∧ (8 ≤ z ∧ z ≤ 8)) := by
  have hd : (2 : Int) = 2 ∨ (2 : Int) = 3 := by decide
  have hac := hS.2.2.2.2
  refine n_aload_n c_162_0 rfl (n_getV (bi := 0) c_162_1 sc_112.n rfl rfl rfl (t_dm hS hdm) ?_)
  intro z1 ez1 f2
  obtain rfl : z1 = 2 := by omega
  refine n_iload_n c_162_4 rfl (n_s2I c_162_5 rfl rfl rfl rfl (mpower3_2  hS ) ?_)
  intro z3 M4 hP5
  obtain ⟨eM, f5⟩ := hP5
  subst eM
  obtain rfl : z3 = 8 := by omega
  exact n_rI c_162_8 rfl ⟨rfl, by omega⟩

set_option maxHeartbeats 4000000 in
theorem mrowsOf_2 {xs : List Int32} {e : Nat} {ac : Int} {M0 M : nM} {n : Int} (hS : Sf 2 ac M0 M) (hdm : M0 112 0 = 2) (hn : 1 ≤ n ∧ n ≤ 3) : nW xs (e + 1) 162 0 [some (2, 112), some (0, n)] [] M (nPI fun z M1 => M = M1 ∧ (1 ≤ z ∧ z ≤ 9)) := by
  rcases (show n = 1 ∨ n = 2 ∨ n = 3 by omega) with rfl | rfl | rfl
  · exact n_post (mrowsOf1_2 hS hdm) (fun w M1 h => by obtain ⟨z, rfl, h1, h2⟩ := h; exact ⟨z, rfl, h1, by omega⟩)
  · exact n_post (mrowsOf2_2 hS hdm) (fun w M1 h => by obtain ⟨z, rfl, h1, h2⟩ := h; exact ⟨z, rfl, h1, by omega⟩)
  · exact n_post (mrowsOf3_2 hS hdm) (fun w M1 h => by obtain ⟨z, rfl, h1, h2⟩ := h; exact ⟨z, rfl, h1, by omega⟩)

set_option maxHeartbeats 4000000 in
theorem msizeOf_2 {xs : List Int32} {e : Nat} {ac : Int} {M0 M : nM} {n i : Int} (hS : Sf 2 ac M0 M) (hdm : M0 112 0 = 2) (hn : 0 ≤ n ∧ n ≤ 3) (hi : 0 ≤ i ∧ i ≤ 255) : nW xs e 164 0 [some (2, 112), some (0, n), some (0, i)] [] M (nPI fun z M1 => M = M1 ∧ (0 ≤ z ∧ z ≤ 1000000)) := by
  have hd : (2 : Int) = 2 ∨ (2 : Int) = 3 := by decide
  have hac := hS.2.2.2.2
  refine n_aload_n c_164_0 rfl (n_getR c_164_1 sc_112.n rfl rfl rfl r_112_15 (n_sipush c_164_4 rfl (n_iload_n c_164_7 rfl (n_imul c_164_8 rfl (n_iload_n c_164_9 rfl (n_iadd c_164_10 rfl (n_ialoadV c_164_11 sc_123.n rfl rfl rfl (by omega) (t_123 hS (by omega)) ?_)))))))
  intro z1 ez1 f2
  exact n_rI c_164_12 rfl ⟨rfl, by omega⟩

set_option maxHeartbeats 4000000 in
theorem mlay_2_c {xs : List Int32} {e : Nat} {ac : Int} {M0 M : nM} {c r g : Int} (hS : Sf 2 ac M0 M) (hdm : M0 112 0 = 2) (hc : 0 ≤ c ∧ c ≤ 4611686018427387904) (hr : 0 ≤ r ∧ r ≤ 27) (hg : M 112 22 = g) : ∀ nn : Nat, (∀ (x4 x6 : Int) (M : nM), Sf 2 ac M0 M → (0 ≤ x4 ∧ x4 ≤ 4611686018427387904) → (0 ≤ x6 ∧ x6 ≤ 27) → (M 112 22 = g) → (27 - x6) * 1 + 1 < (nn : Int) → nW xs e 171 6 [some (2, 112), none, none, some (0, r), some (1, x4), none, some (0, x6)] [] M (nPV fun M1 => Sf 2 ac M0 M1 ∧ (M1 112 22 = g))) := by
  have hd : (2 : Int) = 2 ∨ (2 : Int) = 3 := by decide
  have hac := hS.2.2.2.2
  intro nn
  induction nn with
  | zero => intros; omega
  | succ nn ih =>
    intro x4 x6 M hS k4 k6 hgg hnn
    refine n_iload c_171_6 rfl (n_iload_n c_171_8 rfl ?_)
    refine n_if2_ge c_171_9 (by omega) (by omega) ?_ ?_
    · intro h1
      exact n_rV c_171_44 rfl ⟨hS, by omega⟩
    · intro h2
      refine n_aload_n c_171_12 rfl (n_getR c_171_13 sc_112.n rfl rfl rfl r_112_19 (n_iload c_171_16 rfl (n_lload c_171_18 rfl (n_aload_n c_171_20 rfl (n_getV (bi := 0) c_171_21 sc_112.n rfl rfl rfl (t_dm hS hdm) ?_)))))
      intro z3 ez3 f4
      obtain rfl : z3 = 2 := by omega
      refine n_i2l c_171_24 (by omega) ?_
      refine n_lremV c_171_25 (by omega) (by omega) ?_
      intro z5 _ f6
      refine n_l2i c_171_26 (n_iastoreV hS c_171_27 sc_127.n rfl (by omega) (w_127 (by omega) (by omega)) ?_)
      intro M7 eM7 hS7
      have g7_0 : M7 112 22 = M 112 22 := by rw [eM7]; exact nu_a (by omega)
      refine n_lload c_171_28 rfl (n_aload_n c_171_30 rfl (n_getV (bi := 0) c_171_31 sc_112.n rfl rfl rfl (t_dm hS7 hdm) ?_))
      intro z8 ez8 f9
      obtain rfl : z8 = 2 := by omega
      refine n_i2l c_171_34 (by omega) ?_
      refine n_ldivV c_171_35 (by omega) (by omega) ?_
      intro z10 _ f11
      refine n_lstore (L2 := [some (2, 112), none, none, some (0, r), some (1, z10), none, some (0, x6)]) c_171_36 rfl rfl (n_iinc (L2 := [some (2, 112), none, none, some (0, r), some (1, z10), none, some (0, (x6 + 1))]) c_171_38 rfl rfl rfl (n_goto c_171_41 (n_fg (le_s (le_n (le_n (le_s (le_s (le_n (le_s le_0))))))) ?_)))
      exact ih _ _ M7 hS7 (by omega) (by omega) (by omega) (by omega)
set_option maxHeartbeats 4000000 in
theorem mlay_2 {xs : List Int32} {e : Nat} {ac : Int} {M0 M : nM} {c r g : Int} (hS : Sf 2 ac M0 M) (hdm : M0 112 0 = 2) (hc : 0 ≤ c ∧ c ≤ 4611686018427387904) (hr : 0 ≤ r ∧ r ≤ 27) (hg : M 112 22 = g) : nW xs e 171 0 [some (2, 112), some (1, c), none, some (0, r), none, none, none] [] M (nPV fun M1 => Sf 2 ac M0 M1 ∧ (M1 112 22 = g)) := by
  have hd : (2 : Int) = 2 ∨ (2 : Int) = 3 := by decide
  have hac := hS.2.2.2.2
  refine n_lload_n c_171_0 rfl (n_lstore (L2 := [some (2, 112), some (1, c), none, some (0, r), some (1, c), none, none]) c_171_1 rfl rfl (n_iconst c_171_3 (n_istore (L2 := [some (2, 112), some (1, c), none, some (0, r), some (1, c), none, some (0, 0)]) c_171_4 rfl rfl (n_fg (le_s (le_n (le_n (le_s (le_s (le_n (le_s le_0))))))) ?_))))
  exact (mlay_2_c hS hdm hc hr hg 68) _ _ M hS (by omega) (by omega) (by omega) (by omega)

set_option maxHeartbeats 4000000 in
theorem mhandKeeps_2_c {xs : List Int32} {e : Nat} {ac : Int} {M0 M : nM} {m k : Int} (hS : Sf 2 ac M0 M) (hdm : M0 112 0 = 2) (hm : 0 ≤ m ∧ m ≤ 3) (hk : -2147483648 ≤ k ∧ k ≤ 2147483647) : ∀ nn : Nat, (∀ (x3 : Int), (0 ≤ x3 ∧ x3 ≤ 12) → (12 - x3) * 2 + 2 < (nn : Int) → nW xs (e + 3) 172 2 [some (2, 112), some (0, m), some (0, k), some (0, x3)] [] M (nPI fun z M1 => M = M1 ∧ (0 ≤ z ∧ z ≤ 1))) ∧ (∀ (x3 : Int), (0 ≤ x3 ∧ x3 ≤ 11) → (12 - x3) * 2 + 1 < (nn : Int) → nW xs (e + 3) 172 47 [some (2, 112), some (0, m), some (0, k), some (0, x3)] [] M (nPI fun z M1 => M = M1 ∧ (0 ≤ z ∧ z ≤ 1))) := by
  have hd : (2 : Int) = 2 ∨ (2 : Int) = 3 := by decide
  have hac := hS.2.2.2.2
  intro nn
  induction nn with
  | zero => refine ⟨?_, ?_⟩ <;> (intros; omega)
  | succ nn ih =>
    refine ⟨?_, ?_⟩
    · intro x3 k3 hnn
      refine n_iload_n c_172_2 rfl (n_aload_n c_172_3 rfl (n_getV (bi := 7) c_172_4 sc_112.n rfl rfl rfl (t_112_7 hS) ?_))
      intro z1 ez1 f2
      refine n_if2_ge c_172_7 (by omega) (by omega) ?_ ?_
      · intro h3
        refine n_iconst c_172_53 ?_
        exact n_rZ c_172_54 rfl (by omega) ⟨rfl, by omega⟩
      · intro h4
        refine n_iload_n c_172_10 rfl (n_iload_n c_172_11 rfl (n_i_ishr c_172_12 rfl ?_))
        have f5 := n_shr_r k x3
        generalize (n_shr k x3) = z6 at f5 ⊢
        refine n_iconst c_172_13 (n_i_iand c_172_14 rfl ?_)
        have f7 := n_and_y (x := z6) (y := 1) (by omega)
        generalize (n_and z6 1) = z8 at f7 ⊢
        refine n_iconst c_172_15 ?_
        refine n_if2_ne c_172_16 (by omega) (by omega) ?_ ?_
        · intro h9
          refine n_fg (le_s (le_s (le_s (le_s le_0)))) ?_
          exact ih.2 _ (by omega) (by omega)
        · intro h10
          refine n_aload_n c_172_19 rfl (n_iload_n c_172_20 rfl (n_aload_n c_172_21 rfl (n_getR c_172_22 sc_112.n rfl rfl rfl r_112_19 (n_iconst c_172_25 (n_aload_n c_172_26 rfl (n_getR c_172_27 sc_112.n rfl rfl rfl r_112_8 (n_iload_n c_172_30 rfl (n_ialoadV c_172_31 sc_118.n rfl rfl rfl (by omega) (t_118 hS (by omega)) ?_))))))))
          intro z11 ez11 f12
          refine n_aload_n c_172_32 rfl (n_getR c_172_33 sc_112.n rfl rfl rfl r_112_9 (n_iload_n c_172_36 rfl (n_laloadV c_172_37 sc_119.n rfl rfl rfl (by omega) (t_119 hS (by omega)) ?_)))
          intro z13 ez13 f14
          refine n_v5I c_172_38 rfl sc_112.n rfl rfl rfl rfl (escapesH_2 (m := m) (f := 0) (k := z11) (s := z13) hS hdm (by omega) (by omega) (by omega) (by omega)) ?_
          intro z15 M16 hP17
          obtain ⟨eM, f17, f17p0⟩ := hP17
          subst eM
          refine n_iconst c_172_41 ?_
          refine n_if2_eq c_172_42 (by omega) (by omega) ?_ ?_
          · intro h18
            refine n_fg (le_s (le_s (le_s (le_s le_0)))) ?_
            exact ih.2 _ (by omega) (by omega)
          · intro h19
            refine n_iconst c_172_45 ?_
            exact n_rZ c_172_46 rfl (by omega) ⟨rfl, by omega⟩
    · intro x3 k3 hnn
      refine n_iinc (L2 := [some (2, 112), some (0, m), some (0, k), some (0, (x3 + 1))]) c_172_47 rfl rfl rfl (n_goto c_172_50 (n_fg (le_s (le_s (le_s (le_s le_0)))) ?_))
      exact ih.1 _ (by omega) (by omega)
set_option maxHeartbeats 4000000 in
theorem mhandKeeps_2 {xs : List Int32} {e : Nat} {ac : Int} {M0 M : nM} {m k : Int} (hS : Sf 2 ac M0 M) (hdm : M0 112 0 = 2) (hm : 0 ≤ m ∧ m ≤ 3) (hk : -2147483648 ≤ k ∧ k ≤ 2147483647) : nW xs (e + 3) 172 0 [some (2, 112), some (0, m), some (0, k), none] [] M (nPI fun z M1 => M = M1 ∧ (0 ≤ z ∧ z ≤ 1)) := by
  have hd : (2 : Int) = 2 ∨ (2 : Int) = 3 := by decide
  have hac := hS.2.2.2.2
  refine n_iconst c_172_0 (n_istore_n (L2 := [some (2, 112), some (0, m), some (0, k), some (0, 0)]) c_172_1 rfl rfl (n_fg (le_s (le_s (le_s (le_s le_0)))) ?_))
  exact (mhandKeeps_2_c hS hdm hm hk 66).1 _ (by omega) (by omega)

set_option maxHeartbeats 4000000 in
theorem mheaps_2_c {xs : List Int32} {e : Nat} {ac : Int} {M0 M : nM} (hS : Sf 2 ac M0 M) (hdm : M0 112 0 = 2) : ∀ nn : Nat, (∀ (x1 x2 : Int), (-2147483648 ≤ x1 ∧ x1 ≤ 2147483647) → (1 ≤ x2 ∧ x2 ≤ 4) → (4 - x2) * 1 + 1 < (nn : Int) → nW xs (e + 5) 176 4 [some (2, 112), some (0, x1), some (0, x2)] [] M (nPI fun z M1 => M = M1 ∧ (-2147483648 ≤ z ∧ z ≤ 2147483647))) := by
  have hd : (2 : Int) = 2 ∨ (2 : Int) = 3 := by decide
  have hac := hS.2.2.2.2
  intro nn
  induction nn with
  | zero => intros; omega
  | succ nn ih =>
    intro x1 x2 k1 k2 hnn
    refine n_iload_n c_176_4 rfl (n_iconst c_176_5 (n_aload_n c_176_6 rfl (n_getV (bi := 0) c_176_7 sc_112.n rfl rfl rfl (t_dm hS hdm) ?_)))
    intro z1 ez1 f2
    obtain rfl : z1 = 2 := by omega
    refine n_i_ishl (z := 4) c_176_10 (by decide) ?_
    refine n_if2_ge c_176_11 (by omega) (by omega) ?_ ?_
    · intro h3
      refine n_iload_n c_176_38 rfl ?_
      exact n_rI c_176_39 rfl ⟨rfl, by omega⟩
    · intro h4
      refine n_iload_n c_176_14 rfl (n_aload_n c_176_15 rfl (n_iconst c_176_16 (n_iload_n c_176_17 rfl (n_i2l c_176_18 (by omega) ?_))))
      refine n_v2I c_176_19 rfl sc_112.n rfl rfl rfl rfl (mallKeep_2 (k := 1) (s := x2) hS hdm (by omega) (by omega)) ?_
      intro z5 M6 hP7
      obtain ⟨eM, f7⟩ := hP7
      subst eM
      refine n_if0_eq c_176_22 (by omega) ?_ ?_
      · intro h8
        refine n_iconst c_176_29 (n_iadd c_176_30 rfl (n_istore_n (L2 := [some (2, 112), some (0, (x1 + 0)), some (0, x2)]) c_176_31 rfl rfl (n_iinc (L2 := [some (2, 112), some (0, (x1 + 0)), some (0, (x2 + 1))]) c_176_32 rfl rfl rfl (n_goto c_176_35 (n_fg (le_s (le_s (le_s le_0))) ?_)))))
        exact ih _ _ (by omega) (by omega) (by omega)
      · intro h9
        refine n_iconst c_176_25 (n_goto c_176_26 (n_iadd c_176_30 rfl (n_wrap ?_)))
        have f10 := n_wr_r (x1 + 1)
        generalize n_wr (x1 + 1) = z11 at f10 ⊢
        refine n_istore_n (L2 := [some (2, 112), some (0, z11), some (0, x2)]) c_176_31 rfl rfl (n_iinc (L2 := [some (2, 112), some (0, z11), some (0, (x2 + 1))]) c_176_32 rfl rfl rfl (n_goto c_176_35 (n_fg (le_s (le_s (le_s le_0))) ?_)))
        exact ih _ _ (by omega) (by omega) (by omega)
set_option maxHeartbeats 4000000 in
theorem mheaps_2 {xs : List Int32} {e : Nat} {ac : Int} {M0 M : nM} (hS : Sf 2 ac M0 M) (hdm : M0 112 0 = 2) : nW xs (e + 5) 176 0 [some (2, 112), none, none] [] M (nPI fun z M1 => M = M1 ∧ (-2147483648 ≤ z ∧ z ≤ 2147483647)) := by
  have hd : (2 : Int) = 2 ∨ (2 : Int) = 3 := by decide
  have hac := hS.2.2.2.2
  refine n_iconst c_176_0 (n_istore_n (L2 := [some (2, 112), some (0, 0), none]) c_176_1 rfl rfl (n_iconst c_176_2 (n_istore_n (L2 := [some (2, 112), some (0, 0), some (0, 1)]) c_176_3 rfl rfl (n_fg (le_s (le_s (le_s le_0))) ?_))))
  exact (mheaps_2_c hS hdm 20) _ _ (by omega) (by omega) (by omega)

/-! The methods, by program. -/
set_option maxHeartbeats 4000000 in
theorem misParting_2_c {xs : List Int32} {e : Nat} {ac : Int} {M0 M : nM} {n : Int} (hS : Sf 2 ac M0 M) (hdm : M0 112 0 = 2) (hn : -2147483648 ≤ n ∧ n ≤ 2147483647) : ∀ nn : Nat, (∀ (x2 : Int), (0 ≤ x2 ∧ x2 ≤ 2) → (2 - x2) * 1 + 2 < (nn : Int) → nW xs e 178 2 [some (2, 112), some (0, n), some (0, x2), none] [] M (nPI fun z M1 => M = M1 ∧ (0 ≤ z ∧ z ≤ 1))) ∧ (1 < (nn : Int) → nW xs e 178 34 [none, none, none, none] [] M (nPI fun z M1 => M = M1 ∧ (0 ≤ z ∧ z ≤ 1))) := by
  have hd : (2 : Int) = 2 ∨ (2 : Int) = 3 := by decide
  have hac := hS.2.2.2.2
  intro nn
  induction nn with
  | zero => refine ⟨?_, ?_⟩ <;> (intros; omega)
  | succ nn ih =>
    refine ⟨?_, ?_⟩
    · intro x2 k2 hnn
      refine n_iload_n c_178_2 rfl (n_aload_n c_178_3 rfl (n_getV (bi := 0) c_178_4 sc_112.n rfl rfl rfl (t_dm hS hdm) ?_))
      intro z1 ez1 f2
      obtain rfl : z1 = 2 := by omega
      refine n_if2_ge c_178_7 (by omega) (by omega) ?_ ?_
      · intro h3
        refine n_iconst c_178_42 ?_
        exact n_rZ c_178_43 rfl (by omega) ⟨rfl, by omega⟩
      · intro h4
        refine n_iload_n c_178_10 rfl (n_iconst c_178_11 (n_iload_n c_178_12 rfl (n_imul c_178_13 rfl (n_i_ishr c_178_14 rfl ?_))))
        have f5 := n_shr_r n (2 * x2)
        generalize (n_shr n (2 * x2)) = z6 at f5 ⊢
        refine n_iconst c_178_15 (n_i_iand c_178_16 rfl ?_)
        have f7 := n_and_y (x := z6) (y := 3) (by omega)
        generalize (n_and z6 3) = z8 at f7 ⊢
        refine n_istore_n (L2 := [some (2, 112), some (0, n), some (0, x2), some (0, z8)]) c_178_17 rfl rfl (n_iload_n c_178_18 rfl (n_iload_n c_178_19 rfl ?_))
        refine n_if2_gt c_178_20 (by omega) (by omega) ?_ ?_
        · intro h9
          refine n_fg (le_n (le_n (le_n (le_n le_0)))) ?_
          exact ih.2   (by omega)
        · intro h10
          refine n_iload_n c_178_23 rfl (n_iconst c_178_24 (n_iload_n c_178_25 rfl (n_imul c_178_26 rfl (n_i_ishr c_178_27 rfl ?_))))
          have f11 := n_shr_r n (2 * z8)
          generalize (n_shr n (2 * z8)) = z12 at f11 ⊢
          refine n_iconst c_178_28 (n_i_iand c_178_29 rfl ?_)
          have f13 := n_and_y (x := z12) (y := 3) (by omega)
          generalize (n_and z12 3) = z14 at f13 ⊢
          refine n_iload_n c_178_30 rfl ?_
          refine n_if2_eq c_178_31 (by omega) (by omega) ?_ ?_
          · intro h15
            refine n_iinc (L2 := [some (2, 112), some (0, n), some (0, (x2 + 1)), some (0, z8)]) c_178_36 rfl rfl rfl (n_goto c_178_39 (n_fg (le_s (le_s (le_s (le_n le_0)))) ?_))
            exact ih.1 _ (by omega) (by omega)
          · intro h16
            refine n_fg (le_n (le_n (le_n (le_n le_0)))) ?_
            exact ih.2   (by omega)
    · intro hnn
      refine n_iconst c_178_34 ?_
      exact n_rZ c_178_35 rfl (by omega) ⟨rfl, by omega⟩
set_option maxHeartbeats 4000000 in
theorem misParting_2 {xs : List Int32} {e : Nat} {ac : Int} {M0 M : nM} {n : Int} (hS : Sf 2 ac M0 M) (hdm : M0 112 0 = 2) (hn : -2147483648 ≤ n ∧ n ≤ 2147483647) : nW xs e 178 0 [some (2, 112), some (0, n), none, none] [] M (nPI fun z M1 => M = M1 ∧ (0 ≤ z ∧ z ≤ 1)) := by
  have hd : (2 : Int) = 2 ∨ (2 : Int) = 3 := by decide
  have hac := hS.2.2.2.2
  refine n_iconst c_178_0 (n_istore_n (L2 := [some (2, 112), some (0, n), some (0, 0), none]) c_178_1 rfl rfl (n_fg (le_s (le_s (le_s (le_n le_0)))) ?_))
  exact (misParting_2_c hS hdm hn 20).1 _ (by omega) (by omega)

set_option maxHeartbeats 4000000 in
theorem misPairing_2_c {xs : List Int32} {e : Nat} {ac : Int} {M0 M : nM} {n : Int} (hS : Sf 2 ac M0 M) (hdm : M0 112 0 = 2) (hn : -2147483648 ≤ n ∧ n ≤ 2147483647) : ∀ nn : Nat, (∀ (x2 x4 : Int), (-9223372036854775808 ≤ x2 ∧ x2 ≤ 9223372036854775807) → (0 ≤ x4 ∧ x4 ≤ 2) → (2 - x4) * 5 + 5 < (nn : Int) → nW xs (e + 5) 179 15 [some (2, 112), some (0, n), some (1, x2), none, some (0, x4), none] [] M (nPI fun z M1 => M = M1 ∧ (0 ≤ z ∧ z ≤ 1))) ∧ (∀ (x2 x4 x5 : Int), (-9223372036854775808 ≤ x2 ∧ x2 ≤ 9223372036854775807) → (0 ≤ x4 ∧ x4 ≤ 1) → (0 ≤ x5 ∧ x5 ≤ 2) → (2 - x4) * 5 + (2 - x5) * 1 + 1 < (nn : Int) → nW xs (e + 5) 179 27 [some (2, 112), some (0, n), some (1, x2), none, some (0, x4), some (0, x5)] [] M (nPI fun z M1 => M = M1 ∧ (0 ≤ z ∧ z ≤ 1))) := by
  have hd : (2 : Int) = 2 ∨ (2 : Int) = 3 := by decide
  have hac := hS.2.2.2.2
  intro nn
  induction nn with
  | zero => refine ⟨?_, ?_⟩ <;> (intros; omega)
  | succ nn ih =>
    refine ⟨?_, ?_⟩
    · intro x2 x4 k2 k4 hnn
      refine n_iload c_179_15 rfl (n_aload_n c_179_17 rfl (n_getV (bi := 0) c_179_18 sc_112.n rfl rfl rfl (t_dm hS hdm) ?_))
      intro z1 ez1 f2
      obtain rfl : z1 = 2 := by omega
      refine n_if2_ge c_179_21 (by omega) (by omega) ?_ ?_
      · intro h3
        refine n_aload_n c_179_86 rfl (n_iconst c_179_87 (n_lload_n c_179_88 rfl (n_v2I c_179_89 rfl sc_112.n rfl rfl rfl rfl (mallKeep_2 (k := 2) (s := x2) hS hdm (by omega) (by omega)) ?_)))
        intro z4 M5 hP6
        obtain ⟨eM, f6⟩ := hP6
        subst eM
        exact n_rZ c_179_92 rfl (by omega) ⟨rfl, by omega⟩
      · intro h7
        refine n_iconst c_179_24 (n_istore (L2 := [some (2, 112), some (0, n), some (1, x2), none, some (0, x4), some (0, 0)]) c_179_25 rfl rfl (n_fg (le_s (le_s (le_s (le_n (le_s (le_s le_0)))))) ?_))
        exact ih.2 _ _ _ (by omega) (by omega) (by omega) (by omega)
    · intro x2 x4 x5 k2 k4 k5 hnn
      refine n_iload c_179_27 rfl (n_aload_n c_179_29 rfl (n_getV (bi := 0) c_179_30 sc_112.n rfl rfl rfl (t_dm hS hdm) ?_))
      intro z1 ez1 f2
      obtain rfl : z1 = 2 := by omega
      refine n_if2_ge c_179_33 (by omega) (by omega) ?_ ?_
      · intro h3
        refine n_iinc (L2 := [some (2, 112), some (0, n), some (1, x2), none, some (0, (x4 + 1)), some (0, x5)]) c_179_80 rfl rfl rfl (n_goto c_179_83 (n_fg (le_s (le_s (le_s (le_n (le_s (le_n le_0)))))) ?_))
        exact ih.1 _ _ (by omega) (by omega) (by omega)
      · intro h4
        refine n_lload_n c_179_36 rfl (n_iload_n c_179_37 rfl (n_iconst c_179_38 (n_iload c_179_39 rfl (n_imul c_179_41 rfl (n_i_ishr c_179_42 rfl ?_)))))
        have f5 := n_shr_r n (2 * x4)
        generalize (n_shr n (2 * x4)) = z6 at f5 ⊢
        refine n_iconst c_179_43 (n_i_iand c_179_44 rfl ?_)
        have f7 := n_and_y (x := z6) (y := 3) (by omega)
        generalize (n_and z6 3) = z8 at f7 ⊢
        refine n_iload_n c_179_45 rfl (n_iconst c_179_46 (n_iload c_179_47 rfl (n_imul c_179_49 rfl (n_i_ishr c_179_50 rfl ?_))))
        have f9 := n_shr_r n (2 * x5)
        generalize (n_shr n (2 * x5)) = z10 at f9 ⊢
        refine n_iconst c_179_51 (n_i_iand c_179_52 rfl ?_)
        have f11 := n_and_y (x := z10) (y := 3) (by omega)
        generalize (n_and z10 3) = z12 at f11 ⊢
        refine n_if2_ne c_179_53 (by omega) (by omega) ?_ ?_
        · intro h13
          refine n_lconst (n := 0) c_179_71 rfl (n_i_lor c_179_72 rfl ?_)
          have f14 := n_lor_r x2 0
          generalize (n_lor x2 0) = z15 at f14 ⊢
          refine n_lstore_n (L2 := [some (2, 112), some (0, n), some (1, z15), none, some (0, x4), some (0, x5)]) c_179_73 rfl rfl (n_iinc (L2 := [some (2, 112), some (0, n), some (1, z15), none, some (0, x4), some (0, (x5 + 1))]) c_179_74 rfl rfl rfl (n_goto c_179_77 (n_fg (le_s (le_s (le_s (le_n (le_s (le_s le_0)))))) ?_)))
          exact ih.2 _ _ _ (by omega) (by omega) (by omega) (by omega)
        · intro h16
          refine n_lconst (n := 1) c_179_56 rfl (n_iload c_179_57 rfl (n_aload_n c_179_59 rfl (n_getV (bi := 0) c_179_60 sc_112.n rfl rfl rfl (t_dm hS hdm) ?_)))
          intro z17 ez17 f18
          obtain rfl : z17 = 2 := by omega
          refine n_imul c_179_63 rfl (n_iload c_179_64 rfl (n_iadd c_179_66 rfl (n_i_lshl c_179_67 rfl ?_)))
          have f19 := n_lshl_1 (y := ((x4 * 2) + x5)) (a := 0) (b := 3) (by decide) (by omega)
          generalize (n_lshl 1 ((x4 * 2) + x5)) = z20 at f19 ⊢
          refine n_goto c_179_68 (n_i_lor c_179_72 rfl ?_)
          have f21 := n_lor_r x2 z20
          generalize (n_lor x2 z20) = z22 at f21 ⊢
          refine n_lstore_n (L2 := [some (2, 112), some (0, n), some (1, z22), none, some (0, x4), some (0, x5)]) c_179_73 rfl rfl (n_iinc (L2 := [some (2, 112), some (0, n), some (1, z22), none, some (0, x4), some (0, (x5 + 1))]) c_179_74 rfl rfl rfl (n_goto c_179_77 (n_fg (le_s (le_s (le_s (le_n (le_s (le_s le_0)))))) ?_)))
          exact ih.2 _ _ _ (by omega) (by omega) (by omega) (by omega)
set_option maxHeartbeats 4000000 in
theorem misPairing_2 {xs : List Int32} {e : Nat} {ac : Int} {M0 M : nM} {n : Int} (hS : Sf 2 ac M0 M) (hdm : M0 112 0 = 2) (hn : -2147483648 ≤ n ∧ n ≤ 2147483647) : nW xs (e + 5) 179 0 [some (2, 112), some (0, n), none, none, none, none] [] M (nPI fun z M1 => M = M1 ∧ (0 ≤ z ∧ z ≤ 1)) := by
  have hd : (2 : Int) = 2 ∨ (2 : Int) = 3 := by decide
  have hac := hS.2.2.2.2
  refine n_aload_n c_179_0 rfl (n_iload_n c_179_1 rfl (n_v1I c_179_2 rfl sc_112.n rfl rfl rfl rfl (misParting_2 (n := n) hS hdm (by omega)) ?_))
  intro z1 M2 hP3
  obtain ⟨eM, f3⟩ := hP3
  subst eM
  refine n_if0_ne c_179_5 (by omega) ?_ ?_
  · intro h4
    refine n_lconst (n := 0) c_179_10 rfl (n_lstore_n (L2 := [some (2, 112), some (0, n), some (1, 0), none, none, none]) c_179_11 rfl rfl (n_iconst c_179_12 (n_istore (L2 := [some (2, 112), some (0, n), some (1, 0), none, some (0, 0), none]) c_179_13 rfl rfl (n_fg (le_s (le_s (le_s (le_n (le_s (le_n le_0)))))) ?_))))
    exact (misPairing_2_c hS hdm hn 50).1 _ _ (by omega) (by omega) (by omega)
  · intro h5
    refine n_iconst c_179_8 ?_
    exact n_rZ c_179_9 rfl (by omega) ⟨rfl, by omega⟩

set_option maxHeartbeats 4000000 in
theorem mpairings_2_c {xs : List Int32} {e : Nat} {ac : Int} {M0 M : nM} (hS : Sf 2 ac M0 M) (hdm : M0 112 0 = 2) : ∀ nn : Nat, (∀ (x1 x2 : Int), (-2147483648 ≤ x1 ∧ x1 ≤ 2147483647) → (0 ≤ x2 ∧ x2 ≤ 16) → (16 - x2) * 1 + 1 < (nn : Int) → nW xs (e + 6) 180 4 [some (2, 112), some (0, x1), some (0, x2)] [] M (nPI fun z M1 => M = M1 ∧ (-2147483648 ≤ z ∧ z ≤ 2147483647))) := by
  have hd : (2 : Int) = 2 ∨ (2 : Int) = 3 := by decide
  have hac := hS.2.2.2.2
  intro nn
  induction nn with
  | zero => intros; omega
  | succ nn ih =>
    intro x1 x2 k1 k2 hnn
    refine n_iload_n c_180_4 rfl (n_iconst c_180_5 (n_iconst c_180_6 (n_aload_n c_180_7 rfl (n_getV (bi := 0) c_180_8 sc_112.n rfl rfl rfl (t_dm hS hdm) ?_))))
    intro z1 ez1 f2
    obtain rfl : z1 = 2 := by omega
    refine n_imul c_180_11 rfl (n_i_ishl (z := 16) c_180_12 (by decide) ?_)
    refine n_if2_ge c_180_13 (by omega) (by omega) ?_ ?_
    · intro h3
      refine n_iload_n c_180_38 rfl ?_
      exact n_rI c_180_39 rfl ⟨rfl, by omega⟩
    · intro h4
      refine n_iload_n c_180_16 rfl (n_aload_n c_180_17 rfl (n_iload_n c_180_18 rfl (n_v1I c_180_19 rfl sc_112.n rfl rfl rfl rfl (misPairing_2 (n := x2) hS hdm (by omega)) ?_)))
      intro z5 M6 hP7
      obtain ⟨eM, f7⟩ := hP7
      subst eM
      refine n_if0_eq c_180_22 (by omega) ?_ ?_
      · intro h8
        refine n_iconst c_180_29 (n_iadd c_180_30 rfl (n_istore_n (L2 := [some (2, 112), some (0, (x1 + 0)), some (0, x2)]) c_180_31 rfl rfl (n_iinc (L2 := [some (2, 112), some (0, (x1 + 0)), some (0, (x2 + 1))]) c_180_32 rfl rfl rfl (n_goto c_180_35 (n_fg (le_s (le_s (le_s le_0))) ?_)))))
        exact ih _ _ (by omega) (by omega) (by omega)
      · intro h9
        refine n_iconst c_180_25 (n_goto c_180_26 (n_iadd c_180_30 rfl (n_wrap ?_)))
        have f10 := n_wr_r (x1 + 1)
        generalize n_wr (x1 + 1) = z11 at f10 ⊢
        refine n_istore_n (L2 := [some (2, 112), some (0, z11), some (0, x2)]) c_180_31 rfl rfl (n_iinc (L2 := [some (2, 112), some (0, z11), some (0, (x2 + 1))]) c_180_32 rfl rfl rfl (n_goto c_180_35 (n_fg (le_s (le_s (le_s le_0))) ?_)))
        exact ih _ _ (by omega) (by omega) (by omega)
set_option maxHeartbeats 4000000 in
theorem mpairings_2 {xs : List Int32} {e : Nat} {ac : Int} {M0 M : nM} (hS : Sf 2 ac M0 M) (hdm : M0 112 0 = 2) : nW xs (e + 6) 180 0 [some (2, 112), none, none] [] M (nPI fun z M1 => M = M1 ∧ (-2147483648 ≤ z ∧ z ≤ 2147483647)) := by
  have hd : (2 : Int) = 2 ∨ (2 : Int) = 3 := by decide
  have hac := hS.2.2.2.2
  refine n_iconst c_180_0 (n_istore_n (L2 := [some (2, 112), some (0, 0), none]) c_180_1 rfl rfl (n_iconst c_180_2 (n_istore_n (L2 := [some (2, 112), some (0, 0), some (0, 0)]) c_180_3 rfl rfl (n_fg (le_s (le_s (le_s le_0))) ?_))))
  exact (mpairings_2_c hS hdm 46) _ _ (by omega) (by omega) (by omega)

set_option maxHeartbeats 4000000 in
theorem mpairing_2_c {xs : List Int32} {e : Nat} {ac : Int} {M0 M : nM} {i : Int} (hS : Sf 2 ac M0 M) (hdm : M0 112 0 = 2) (hi : -2147483648 ≤ i ∧ i ≤ 2147483647) : ∀ nn : Nat, (∀ (x2 x3 : Int), (-2147483648 ≤ x2 ∧ x2 ≤ 2147483647) → (0 ≤ x3 ∧ x3 ≤ 16) → (16 - x3) * 2 + 3 < (nn : Int) → nW xs (e + 6) 181 4 [some (2, 112), none, some (0, x2), some (0, x3)] [] M (nPI fun z M1 => M = M1 ∧ (-2147483648 ≤ z ∧ z ≤ 2147483647))) ∧ (∀ (x2 x3 : Int), (0 ≤ x2 ∧ x2 ≤ 2147483647) → (0 ≤ x3 ∧ x3 ≤ 15) → (16 - x3) * 2 + 2 < (nn : Int) → nW xs (e + 6) 181 37 [some (2, 112), none, some (0, x2), some (0, x3)] [] M (nPI fun z M1 => M = M1 ∧ (-2147483648 ≤ z ∧ z ≤ 2147483647))) ∧ (1 < (nn : Int) → nW xs (e + 6) 181 43 [none, none, none, none] [] M (nPI fun z M1 => M = M1 ∧ (-2147483648 ≤ z ∧ z ≤ 2147483647))) := by
  have hd : (2 : Int) = 2 ∨ (2 : Int) = 3 := by decide
  have hac := hS.2.2.2.2
  intro nn
  induction nn with
  | zero => refine ⟨?_, ?_, ?_⟩ <;> (intros; omega)
  | succ nn ih =>
    refine ⟨?_, ?_, ?_⟩
    · intro x2 x3 k2 k3 hnn
      refine n_iload_n c_181_4 rfl (n_iconst c_181_5 (n_iconst c_181_6 (n_aload_n c_181_7 rfl (n_getV (bi := 0) c_181_8 sc_112.n rfl rfl rfl (t_dm hS hdm) ?_))))
      intro z1 ez1 f2
      obtain rfl : z1 = 2 := by omega
      refine n_imul c_181_11 rfl (n_i_ishl (z := 16) c_181_12 (by decide) ?_)
      refine n_if2_ge c_181_13 (by omega) (by omega) ?_ ?_
      · intro h3
        refine n_fg (le_n (le_n (le_n (le_n le_0)))) ?_
        exact ih.2.2   (by omega)
      · intro h4
        refine n_iload_n c_181_16 rfl ?_
        refine n_if0_lt c_181_17 (by omega) ?_ ?_
        · intro h5
          refine n_fg (le_n (le_n (le_n (le_n le_0)))) ?_
          exact ih.2.2   (by omega)
        · intro h6
          refine n_aload_n c_181_20 rfl (n_iload_n c_181_21 rfl (n_v1I c_181_22 rfl sc_112.n rfl rfl rfl rfl (misPairing_2 (n := x3) hS hdm (by omega)) ?_))
          intro z7 M8 hP9
          obtain ⟨eM, f9⟩ := hP9
          subst eM
          refine n_if0_eq c_181_25 (by omega) ?_ ?_
          · intro h10
            refine n_fg (le_s (le_n (le_s (le_s le_0)))) ?_
            exact ih.2.1 _ _ (by omega) (by omega) (by omega)
          · intro h11
            refine n_iload_n c_181_28 rfl ?_
            refine n_if0_ne c_181_29 (by omega) ?_ ?_
            · intro h12
              refine n_iinc (L2 := [some (2, 112), none, some (0, (x2 + (-1))), some (0, x3)]) c_181_34 rfl rfl rfl (n_fg (le_s (le_n (le_s (le_s le_0)))) ?_)
              exact ih.2.1 _ _ (by omega) (by omega) (by omega)
            · intro h13
              refine n_iload_n c_181_32 rfl ?_
              exact n_rI c_181_33 rfl ⟨rfl, by omega⟩
    · intro x2 x3 k2 k3 hnn
      refine n_iinc (L2 := [some (2, 112), none, some (0, x2), some (0, (x3 + 1))]) c_181_37 rfl rfl rfl (n_goto c_181_40 (n_fg (le_s (le_n (le_s (le_s le_0)))) ?_))
      exact ih.1 _ _ (by omega) (by omega) (by omega)
    · intro hnn
      refine n_iconst c_181_43 ?_
      exact n_rI c_181_44 rfl ⟨rfl, by omega⟩
set_option maxHeartbeats 4000000 in
theorem mpairing_2 {xs : List Int32} {e : Nat} {ac : Int} {M0 M : nM} {i : Int} (hS : Sf 2 ac M0 M) (hdm : M0 112 0 = 2) (hi : -2147483648 ≤ i ∧ i ≤ 2147483647) : nW xs (e + 6) 181 0 [some (2, 112), some (0, i), none, none] [] M (nPI fun z M1 => M = M1 ∧ (-2147483648 ≤ z ∧ z ≤ 2147483647)) := by
  have hd : (2 : Int) = 2 ∨ (2 : Int) = 3 := by decide
  have hac := hS.2.2.2.2
  refine n_iload_n c_181_0 rfl (n_istore_n (L2 := [some (2, 112), some (0, i), some (0, i), none]) c_181_1 rfl rfl (n_iconst c_181_2 (n_istore_n (L2 := [some (2, 112), some (0, i), some (0, i), some (0, 0)]) c_181_3 rfl rfl (n_fg (le_s (le_n (le_s (le_s le_0)))) ?_))))
  exact (mpairing_2_c hS hdm hi 84).1 _ _ (by omega) (by omega) (by omega)

set_option maxHeartbeats 4000000 in
theorem mrises_2_c {xs : List Int32} {e : Nat} {ac : Int} {M0 M : nM} {a : Int} (hS : Sf 2 ac M0 M) (hdm : M0 112 0 = 2) (ha : 0 ≤ a ∧ a ≤ 7) : ∀ nn : Nat, (∀ (x2 x3 : Int), (1 ≤ x2 ∧ x2 ≤ 8) → (0 ≤ x3 ∧ x3 ≤ 8) → (8 - x3) * 21 + 21 < (nn : Int) → nW xs e 182 11 [some (2, 112), some (0, a), some (0, x2), some (0, x3), none] [] M (nPI fun z M1 => M = M1 ∧ (0 ≤ z ∧ z ≤ 1))) ∧ (∀ (x2 x3 x4 : Int), (1 ≤ x2 ∧ x2 ≤ 8) → (0 ≤ x3 ∧ x3 ≤ 7) → (0 ≤ x4 ∧ x4 ≤ 8) → (8 - x3) * 21 + (8 - x4) * 2 + 2 < (nn : Int) → nW xs e 182 19 [some (2, 112), some (0, a), some (0, x2), some (0, x3), some (0, x4)] [] M (nPI fun z M1 => M = M1 ∧ (0 ≤ z ∧ z ≤ 1))) ∧ (∀ (x2 x3 x4 : Int), (1 ≤ x2 ∧ x2 ≤ 8) → (0 ≤ x3 ∧ x3 ≤ 7) → (0 ≤ x4 ∧ x4 ≤ 7) → (8 - x3) * 21 + (8 - x4) * 2 + 1 < (nn : Int) → nW xs e 182 61 [some (2, 112), some (0, a), some (0, x2), some (0, x3), some (0, x4)] [] M (nPI fun z M1 => M = M1 ∧ (0 ≤ z ∧ z ≤ 1))) := by
  have hd : (2 : Int) = 2 ∨ (2 : Int) = 3 := by decide
  have hac := hS.2.2.2.2
  intro nn
  induction nn with
  | zero => refine ⟨?_, ?_, ?_⟩ <;> (intros; omega)
  | succ nn ih =>
    refine ⟨?_, ?_, ?_⟩
    · intro x2 x3 k2 k3 hnn
      refine n_iload_n c_182_11 rfl (n_iload_n c_182_12 rfl ?_)
      refine n_if2_ge c_182_13 (by omega) (by omega) ?_ ?_
      · intro h1
        refine n_iconst c_182_73 ?_
        exact n_rZ c_182_74 rfl (by omega) ⟨rfl, by omega⟩
      · intro h2
        refine n_iconst c_182_16 (n_istore (L2 := [some (2, 112), some (0, a), some (0, x2), some (0, x3), some (0, 0)]) c_182_17 rfl rfl (n_fg (le_s (le_s (le_s (le_s (le_s le_0))))) ?_))
        exact ih.2.1 _ _ _ (by omega) (by omega) (by omega) (by omega)
    · intro x2 x3 x4 k2 k3 k4 hnn
      refine n_iload c_182_19 rfl (n_iload_n c_182_21 rfl ?_)
      refine n_if2_ge c_182_22 (by omega) (by omega) ?_ ?_
      · intro h1
        refine n_iinc (L2 := [some (2, 112), some (0, a), some (0, x2), some (0, (x3 + 1)), some (0, x4)]) c_182_67 rfl rfl rfl (n_goto c_182_70 (n_fg (le_s (le_s (le_s (le_s (le_n le_0))))) ?_))
        exact ih.1 _ _ (by omega) (by omega) (by omega)
      · intro h2
        refine n_iload_n c_182_25 rfl (n_iload c_182_26 rfl (n_i_iand c_182_28 rfl ?_))
        have f3 := n_and_y (x := x3) (y := x4) (by omega)
        generalize (n_and x3 x4) = z4 at f3 ⊢
        refine n_iload_n c_182_29 rfl ?_
        refine n_if2_ne c_182_30 (by omega) (by omega) ?_ ?_
        · intro h5
          refine n_fg (le_s (le_s (le_s (le_s (le_s le_0))))) ?_
          exact ih.2.2 _ _ _ (by omega) (by omega) (by omega) (by omega)
        · intro h6
          refine n_aload_n c_182_33 rfl (n_getR c_182_34 sc_112.n rfl rfl rfl r_112_6 (n_bipush c_182_37 rfl (n_iload_n c_182_39 rfl (n_imul c_182_40 rfl (n_iload_n c_182_41 rfl (n_iadd c_182_42 rfl (n_ialoadV c_182_43 sc_117.n rfl rfl rfl (by omega) (t_117 hS (by omega)) ?_)))))))
          intro z7 ez7 f8
          refine n_aload_n c_182_44 rfl (n_getR c_182_45 sc_112.n rfl rfl rfl r_112_6 (n_bipush c_182_48 rfl (n_iload_n c_182_50 rfl (n_imul c_182_51 rfl (n_iload c_182_52 rfl (n_iadd c_182_54 rfl (n_ialoadV c_182_55 sc_117.n rfl rfl rfl (by omega) (t_117 hS (by omega)) ?_)))))))
          intro z9 ez9 f10
          refine n_if2_le c_182_56 (by omega) (by omega) ?_ ?_
          · intro h11
            refine n_fg (le_s (le_s (le_s (le_s (le_s le_0))))) ?_
            exact ih.2.2 _ _ _ (by omega) (by omega) (by omega) (by omega)
          · intro h12
            refine n_iconst c_182_59 ?_
            exact n_rZ c_182_60 rfl (by omega) ⟨rfl, by omega⟩
    · intro x2 x3 x4 k2 k3 k4 hnn
      refine n_iinc (L2 := [some (2, 112), some (0, a), some (0, x2), some (0, x3), some (0, (x4 + 1))]) c_182_61 rfl rfl rfl (n_goto c_182_64 (n_fg (le_s (le_s (le_s (le_s (le_s le_0))))) ?_))
      exact ih.2.1 _ _ _ (by omega) (by omega) (by omega) (by omega)
set_option maxHeartbeats 4000000 in
theorem mrises_2 {xs : List Int32} {e : Nat} {ac : Int} {M0 M : nM} {a : Int} (hS : Sf 2 ac M0 M) (hdm : M0 112 0 = 2) (ha : 0 ≤ a ∧ a ≤ 7) : nW xs e 182 0 [some (2, 112), some (0, a), none, none, none] [] M (nPI fun z M1 => M = M1 ∧ (0 ≤ z ∧ z ≤ 1)) := by
  have hd : (2 : Int) = 2 ∨ (2 : Int) = 3 := by decide
  have hac := hS.2.2.2.2
  refine n_iconst c_182_0 (n_aload_n c_182_1 rfl (n_getR c_182_2 sc_112.n rfl rfl rfl r_112_5 (n_iload_n c_182_5 rfl (n_ialoadV c_182_6 sc_116.n rfl rfl rfl (by omega) (t_116 hS (by omega)) ?_))))
  intro z1 ez1 f2
  refine n_i_ishl c_182_7 rfl ?_
  have f3 := n_shl_1 (y := z1) (a := 0) (b := 3) (by decide) (by omega)
  generalize (n_shl 1 z1) = z4 at f3 ⊢
  refine n_istore_n (L2 := [some (2, 112), some (0, a), some (0, z4), none, none]) c_182_8 rfl rfl (n_iconst c_182_9 (n_istore_n (L2 := [some (2, 112), some (0, a), some (0, z4), some (0, 0), none]) c_182_10 rfl rfl (n_fg (le_s (le_s (le_s (le_s (le_n le_0))))) ?_)))
  exact (mrises_2_c hS hdm ha 430).1 _ _ (by omega) (by omega) (by omega)

set_option maxHeartbeats 4000000 in
theorem mturns_2_c {xs : List Int32} {e : Nat} {ac : Int} {M0 M : nM} {a : Int} (hS : Sf 2 ac M0 M) (hdm : M0 112 0 = 2) (ha : 0 ≤ a ∧ a ≤ 7) : ∀ nn : Nat, (∀ (x2 x3 : Int), (1 ≤ x2 ∧ x2 ≤ 8) → (0 ≤ x3 ∧ x3 ≤ 8) → (8 - x3) * 1 + 1 < (nn : Int) → nW xs e 183 11 [some (2, 112), some (0, a), some (0, x2), some (0, x3)] [] M (nPI fun z M1 => M = M1 ∧ (0 ≤ z ∧ z ≤ 1))) := by
  have hd : (2 : Int) = 2 ∨ (2 : Int) = 3 := by decide
  have hac := hS.2.2.2.2
  intro nn
  induction nn with
  | zero => intros; omega
  | succ nn ih =>
    intro x2 x3 k2 k3 hnn
    refine n_iload_n c_183_11 rfl (n_iload_n c_183_12 rfl ?_)
    refine n_if2_ge c_183_13 (by omega) (by omega) ?_ ?_
    · intro h1
      refine n_iconst c_183_53 ?_
      exact n_rZ c_183_54 rfl (by omega) ⟨rfl, by omega⟩
    · intro h2
      refine n_aload_n c_183_16 rfl (n_getR c_183_17 sc_112.n rfl rfl rfl r_112_6 (n_bipush c_183_20 rfl (n_iload_n c_183_22 rfl (n_imul c_183_23 rfl (n_iload_n c_183_24 rfl (n_iadd c_183_25 rfl (n_ialoadV c_183_26 sc_117.n rfl rfl rfl (by omega) (t_117 hS (by omega)) ?_)))))))
      intro z3 ez3 f4
      refine n_aload_n c_183_27 rfl (n_getR c_183_28 sc_112.n rfl rfl rfl r_112_6 (n_bipush c_183_31 rfl (n_iload_n c_183_33 rfl (n_imul c_183_34 rfl (n_iload_n c_183_35 rfl (n_iadd c_183_36 rfl (n_iconst c_183_37 (n_isub c_183_38 rfl (n_iload_n c_183_39 rfl (n_isub c_183_40 rfl (n_ialoadV c_183_41 sc_117.n rfl rfl rfl (by omega) (t_117 hS (by omega)) ?_)))))))))))
      intro z5 ez5 f6
      refine n_if2_ne c_183_42 (by omega) (by omega) ?_ ?_
      · intro h7
        refine n_iinc (L2 := [some (2, 112), some (0, a), some (0, x2), some (0, (x3 + 1))]) c_183_47 rfl rfl rfl (n_goto c_183_50 (n_fg (le_s (le_s (le_s (le_s le_0)))) ?_))
        exact ih _ _ (by omega) (by omega) (by omega)
      · intro h8
        refine n_iconst c_183_45 ?_
        exact n_rZ c_183_46 rfl (by omega) ⟨rfl, by omega⟩
set_option maxHeartbeats 4000000 in
theorem mturns_2 {xs : List Int32} {e : Nat} {ac : Int} {M0 M : nM} {a : Int} (hS : Sf 2 ac M0 M) (hdm : M0 112 0 = 2) (ha : 0 ≤ a ∧ a ≤ 7) : nW xs e 183 0 [some (2, 112), some (0, a), none, none] [] M (nPI fun z M1 => M = M1 ∧ (0 ≤ z ∧ z ≤ 1)) := by
  have hd : (2 : Int) = 2 ∨ (2 : Int) = 3 := by decide
  have hac := hS.2.2.2.2
  refine n_iconst c_183_0 (n_aload_n c_183_1 rfl (n_getR c_183_2 sc_112.n rfl rfl rfl r_112_5 (n_iload_n c_183_5 rfl (n_ialoadV c_183_6 sc_116.n rfl rfl rfl (by omega) (t_116 hS (by omega)) ?_))))
  intro z1 ez1 f2
  refine n_i_ishl c_183_7 rfl ?_
  have f3 := n_shl_1 (y := z1) (a := 0) (b := 3) (by decide) (by omega)
  generalize (n_shl 1 z1) = z4 at f3 ⊢
  refine n_istore_n (L2 := [some (2, 112), some (0, a), some (0, z4), none]) c_183_8 rfl rfl (n_iconst c_183_9 (n_istore_n (L2 := [some (2, 112), some (0, a), some (0, z4), some (0, 0)]) c_183_10 rfl rfl (n_fg (le_s (le_s (le_s (le_s le_0)))) ?_)))
  exact (mturns_2_c hS hdm ha 30) _ _ (by omega) (by omega) (by omega)

set_option maxHeartbeats 4000000 in
theorem misSum_2_c {xs : List Int32} {e : Nat} {ac : Int} {M0 M : nM} {a : Int} (hS : Sf 2 ac M0 M) (hdm : M0 112 0 = 2) (ha : 0 ≤ a ∧ a ≤ 7) : ∀ nn : Nat, (∀ (x2 x3 : Int), (1 ≤ x2 ∧ x2 ≤ 8) → (0 ≤ x3 ∧ x3 ≤ 8) → (8 - x3) * 445 + 445 < (nn : Int) → nW xs e 184 11 [some (2, 112), some (0, a), some (0, x2), some (0, x3), none, none, none, none, none] [] M (nPI fun z M1 => M = M1 ∧ (0 ≤ z ∧ z ≤ 1))) ∧ (∀ (x2 x3 x4 : Int), (1 ≤ x2 ∧ x2 ≤ 8) → (0 ≤ x3 ∧ x3 ≤ 7) → (0 ≤ x4 ∧ x4 ≤ 2) → (8 - x3) * 445 + (2 - x4) * 111 + 111 < (nn : Int) → nW xs e 184 19 [some (2, 112), some (0, a), some (0, x2), some (0, x3), some (0, x4), none, none, none, none] [] M (nPI fun z M1 => M = M1 ∧ (0 ≤ z ∧ z ≤ 1))) ∧ (∀ (x2 x3 x4 x5 x6 : Int), (1 ≤ x2 ∧ x2 ≤ 8) → (0 ≤ x3 ∧ x3 ≤ 7) → (0 ≤ x4 ∧ x4 ≤ 1) → (0 ≤ x5 ∧ x5 ≤ 1) → (0 ≤ x6 ∧ x6 ≤ 8) → (8 - x3) * 445 + (2 - x4) * 111 + (8 - x6) * 11 + 11 < (nn : Int) → nW xs e 184 31 [some (2, 112), some (0, a), some (0, x2), some (0, x3), some (0, x4), some (0, x5), some (0, x6), none, none] [] M (nPI fun z M1 => M = M1 ∧ (0 ≤ z ∧ z ≤ 1))) ∧ (∀ (x2 x3 x4 x5 x6 x7 x8 : Int), (1 ≤ x2 ∧ x2 ≤ 8) → (0 ≤ x3 ∧ x3 ≤ 7) → (0 ≤ x4 ∧ x4 ≤ 1) → (0 ≤ x5 ∧ x5 ≤ 1) → (0 ≤ x6 ∧ x6 ≤ 7) → (0 ≤ x7 ∧ x7 ≤ 1) → (0 ≤ x8 ∧ x8 ≤ 7) → (8 - x3) * 445 + (2 - x4) * 111 + (8 - x6) * 11 + (x8 - 0) * 1 + 2 < (nn : Int) → nW xs e 184 47 [some (2, 112), some (0, a), some (0, x2), some (0, x3), some (0, x4), some (0, x5), some (0, x6), some (0, x7), some (0, x8)] [] M (nPI fun z M1 => M = M1 ∧ (0 ≤ z ∧ z ≤ 1))) ∧ (∀ (x2 x3 x4 x6 : Int), (1 ≤ x2 ∧ x2 ≤ 8) → (0 ≤ x3 ∧ x3 ≤ 7) → (0 ≤ x4 ∧ x4 ≤ 1) → (0 ≤ x6 ∧ x6 ≤ 7) → (8 - x3) * 445 + (2 - x4) * 111 + (8 - x6) * 11 + 1 < (nn : Int) → nW xs e 184 96 [some (2, 112), some (0, a), some (0, x2), some (0, x3), some (0, x4), none, some (0, x6), none, none] [] M (nPI fun z M1 => M = M1 ∧ (0 ≤ z ∧ z ≤ 1))) := by
  have hd : (2 : Int) = 2 ∨ (2 : Int) = 3 := by decide
  have hac := hS.2.2.2.2
  intro nn
  induction nn with
  | zero => refine ⟨?_, ?_, ?_, ?_, ?_⟩ <;> (intros; omega)
  | succ nn ih =>
    refine ⟨?_, ?_, ?_, ?_, ?_⟩
    · intro x2 x3 k2 k3 hnn
      refine n_iload_n c_184_11 rfl (n_iload_n c_184_12 rfl ?_)
      refine n_if2_ge c_184_13 (by omega) (by omega) ?_ ?_
      · intro h1
        refine n_iconst c_184_124 ?_
        exact n_rZ c_184_125 rfl (by omega) ⟨rfl, by omega⟩
      · intro h2
        refine n_iconst c_184_16 (n_istore (L2 := [some (2, 112), some (0, a), some (0, x2), some (0, x3), some (0, 0), none, none, none, none]) c_184_17 rfl rfl (n_fg (le_s (le_s (le_s (le_s (le_s (le_n (le_n (le_n (le_n le_0))))))))) ?_))
        exact ih.2.1 _ _ _ (by omega) (by omega) (by omega) (by omega)
    · intro x2 x3 x4 k2 k3 k4 hnn
      refine n_iload c_184_19 rfl (n_iconst c_184_21 ?_)
      refine n_if2_ge c_184_22 (by omega) (by omega) ?_ ?_
      · intro h1
        refine n_iinc (L2 := [some (2, 112), some (0, a), some (0, x2), some (0, (x3 + 1)), some (0, x4), none, none, none, none]) c_184_118 rfl rfl rfl (n_goto c_184_121 (n_fg (le_s (le_s (le_s (le_s (le_n (le_n (le_n (le_n (le_n le_0))))))))) ?_))
        exact ih.1 _ _ (by omega) (by omega) (by omega)
      · intro h2
        refine n_iconst c_184_25 (n_istore (L2 := [some (2, 112), some (0, a), some (0, x2), some (0, x3), some (0, x4), some (0, 1), none, none, none]) c_184_26 rfl rfl (n_iconst c_184_28 (n_istore (L2 := [some (2, 112), some (0, a), some (0, x2), some (0, x3), some (0, x4), some (0, 1), some (0, 0), none, none]) c_184_29 rfl rfl (n_fg (le_s (le_s (le_s (le_s (le_s (le_s (le_s (le_n (le_n le_0))))))))) ?_))))
        exact ih.2.2.1 _ _ _ _ _ (by omega) (by omega) (by omega) (by omega) (by omega) (by omega)
    · intro x2 x3 x4 x5 x6 k2 k3 k4 k5 k6 hnn
      refine n_iload c_184_31 rfl (n_iload_n c_184_33 rfl ?_)
      refine n_if2_ge c_184_34 (by omega) (by omega) ?_ ?_
      · intro h1
        refine n_iload c_184_105 rfl ?_
        refine n_if0_eq c_184_107 (by omega) ?_ ?_
        · intro h2
          refine n_iinc (L2 := [some (2, 112), some (0, a), some (0, x2), some (0, x3), some (0, (x4 + 1)), some (0, x5), some (0, x6), none, none]) c_184_112 rfl rfl rfl (n_goto c_184_115 (n_fg (le_s (le_s (le_s (le_s (le_s (le_n (le_n (le_n (le_n le_0))))))))) ?_))
          exact ih.2.1 _ _ _ (by omega) (by omega) (by omega) (by omega)
        · intro h3
          refine n_iconst c_184_110 ?_
          exact n_rZ c_184_111 rfl (by omega) ⟨rfl, by omega⟩
      · intro h4
        refine n_iload c_184_37 rfl (n_istore (L2 := [some (2, 112), some (0, a), some (0, x2), some (0, x3), some (0, x4), some (0, x5), some (0, x6), some (0, x4), none]) c_184_39 rfl rfl (n_iload c_184_41 rfl (n_iload_n c_184_43 rfl (n_i_iand c_184_44 rfl ?_))))
        have f5 := n_and_y (x := x6) (y := x3) (by omega)
        generalize (n_and x6 x3) = z6 at f5 ⊢
        refine n_istore (L2 := [some (2, 112), some (0, a), some (0, x2), some (0, x3), some (0, x4), some (0, x5), some (0, x6), some (0, x4), some (0, z6)]) c_184_45 rfl rfl (n_fg (le_s (le_s (le_s (le_s (le_s (le_s (le_s (le_s (le_s le_0))))))))) ?_)
        exact ih.2.2.2.1 _ _ _ _ _ _ _ (by omega) (by omega) (by omega) (by omega) (by omega) (by omega) (by omega) (by omega)
    · intro x2 x3 x4 x5 x6 x7 x8 k2 k3 k4 k5 k6 k7 k8 hnn
      refine n_iload c_184_47 rfl ?_
      refine n_if0_le c_184_49 (by omega) ?_ ?_
      · intro h1
        refine n_iload c_184_70 rfl ?_
        refine n_if0_eq c_184_72 (by omega) ?_ ?_
        · intro h2
          refine n_fg (le_s (le_s (le_s (le_s (le_s (le_n (le_s (le_n (le_n le_0))))))))) ?_
          exact ih.2.2.2.2 _ _ _ _ (by omega) (by omega) (by omega) (by omega) (by omega)
        · intro h3
          refine n_iload c_184_75 rfl (n_aload_n c_184_77 rfl (n_getR c_184_78 sc_112.n rfl rfl rfl r_112_6 (n_bipush c_184_81 rfl (n_iload_n c_184_83 rfl (n_imul c_184_84 rfl (n_iload c_184_85 rfl (n_iadd c_184_87 rfl (n_ialoadV c_184_88 sc_117.n rfl rfl rfl (by omega) (t_117 hS (by omega)) ?_))))))))
          intro z4 ez4 f5
          refine n_if2_ne c_184_89 (by omega) (by omega) ?_ ?_
          · intro h6
            refine n_fg (le_s (le_s (le_s (le_s (le_s (le_n (le_s (le_n (le_n le_0))))))))) ?_
            exact ih.2.2.2.2 _ _ _ _ (by omega) (by omega) (by omega) (by omega) (by omega)
          · intro h7
            refine n_iconst c_184_92 (n_goto c_184_93 (n_istore (L2 := [some (2, 112), some (0, a), some (0, x2), some (0, x3), some (0, x4), some (0, 1), some (0, x6), some (0, x7), some (0, x8)]) c_184_97 rfl rfl (n_iinc (L2 := [some (2, 112), some (0, a), some (0, x2), some (0, x3), some (0, x4), some (0, 1), some (0, (x6 + 1)), some (0, x7), some (0, x8)]) c_184_99 rfl rfl rfl (n_goto c_184_102 (n_fg (le_s (le_s (le_s (le_s (le_s (le_s (le_s (le_n (le_n le_0))))))))) ?_)))))
            exact ih.2.2.1 _ _ _ _ _ (by omega) (by omega) (by omega) (by omega) (by omega) (by omega)
      · intro h8
        refine n_iload c_184_52 rfl (n_iload c_184_54 rfl (n_iconst c_184_56 (n_i_iand c_184_57 rfl ?_)))
        have f9 := n_and_y (x := x8) (y := 1) (by omega)
        generalize (n_and x8 1) = z10 at f9 ⊢
        refine n_i_ixor c_184_58 rfl ?_
        have f11 := n_xor_1 (x := x7) (y := z10) (by omega) (by omega)
        generalize (n_xor x7 z10) = z12 at f11 ⊢
        refine n_istore (L2 := [some (2, 112), some (0, a), some (0, x2), some (0, x3), some (0, x4), some (0, x5), some (0, x6), some (0, z12), some (0, x8)]) c_184_59 rfl rfl (n_iload c_184_61 rfl (n_iconst c_184_63 (n_i_ishr c_184_64 rfl ?_)))
        have f13 := n_shr_1 (x := x8) (by omega)
        generalize (n_shr x8 1) = z14 at f13 ⊢
        refine n_istore (L2 := [some (2, 112), some (0, a), some (0, x2), some (0, x3), some (0, x4), some (0, x5), some (0, x6), some (0, z12), some (0, z14)]) c_184_65 rfl rfl (n_goto c_184_67 (n_fg (le_s (le_s (le_s (le_s (le_s (le_s (le_s (le_s (le_s le_0))))))))) ?_))
        exact ih.2.2.2.1 _ _ _ _ _ _ _ (by omega) (by omega) (by omega) (by omega) (by omega) (by omega) (by omega) (by omega)
    · intro x2 x3 x4 x6 k2 k3 k4 k6 hnn
      refine n_iconst c_184_96 (n_istore (L2 := [some (2, 112), some (0, a), some (0, x2), some (0, x3), some (0, x4), some (0, 0), some (0, x6), none, none]) c_184_97 rfl rfl (n_iinc (L2 := [some (2, 112), some (0, a), some (0, x2), some (0, x3), some (0, x4), some (0, 0), some (0, (x6 + 1)), none, none]) c_184_99 rfl rfl rfl (n_goto c_184_102 (n_fg (le_s (le_s (le_s (le_s (le_s (le_s (le_s (le_n (le_n le_0))))))))) ?_))))
      exact ih.2.2.1 _ _ _ _ _ (by omega) (by omega) (by omega) (by omega) (by omega) (by omega)
set_option maxHeartbeats 4000000 in
theorem misSum_2 {xs : List Int32} {e : Nat} {ac : Int} {M0 M : nM} {a : Int} (hS : Sf 2 ac M0 M) (hdm : M0 112 0 = 2) (ha : 0 ≤ a ∧ a ≤ 7) : nW xs e 184 0 [some (2, 112), some (0, a), none, none, none, none, none, none, none] [] M (nPI fun z M1 => M = M1 ∧ (0 ≤ z ∧ z ≤ 1)) := by
  have hd : (2 : Int) = 2 ∨ (2 : Int) = 3 := by decide
  have hac := hS.2.2.2.2
  refine n_iconst c_184_0 (n_aload_n c_184_1 rfl (n_getR c_184_2 sc_112.n rfl rfl rfl r_112_5 (n_iload_n c_184_5 rfl (n_ialoadV c_184_6 sc_116.n rfl rfl rfl (by omega) (t_116 hS (by omega)) ?_))))
  intro z1 ez1 f2
  refine n_i_ishl c_184_7 rfl ?_
  have f3 := n_shl_1 (y := z1) (a := 0) (b := 3) (by decide) (by omega)
  generalize (n_shl 1 z1) = z4 at f3 ⊢
  refine n_istore_n (L2 := [some (2, 112), some (0, a), some (0, z4), none, none, none, none, none, none]) c_184_8 rfl rfl (n_iconst c_184_9 (n_istore_n (L2 := [some (2, 112), some (0, a), some (0, z4), some (0, 0), none, none, none, none, none]) c_184_10 rfl rfl (n_fg (le_s (le_s (le_s (le_s (le_n (le_n (le_n (le_n (le_n le_0))))))))) ?_)))
  exact (misSum_2_c hS hdm ha 8910).1 _ _ (by omega) (by omega) (by omega)

set_option maxHeartbeats 4000000 in
theorem msigns_2_c {xs : List Int32} {e : Nat} {ac : Int} {M0 M : nM} {a : Int} (hS : Sf 2 ac M0 M) (hdm : M0 112 0 = 2) (ha : -2147483648 ≤ a ∧ a ≤ 2147483647) : ∀ nn : Nat, (1 < (nn : Int) → nW xs (e + 1) 185 20 [none, none, none, none] [] M (nPI fun z M1 => M = M1 ∧ (-2147483648 ≤ z ∧ z ≤ 2147483647))) := by
  have hd : (2 : Int) = 2 ∨ (2 : Int) = 3 := by decide
  have hac := hS.2.2.2.2
  intro nn
  induction nn with
  | zero => intros; omega
  | succ nn ih =>
    intro hnn
    refine n_iconst c_185_20 ?_
    exact n_rI c_185_21 rfl ⟨rfl, by omega⟩
set_option maxHeartbeats 4000000 in
theorem msigns_2 {xs : List Int32} {e : Nat} {ac : Int} {M0 M : nM} {a : Int} (hS : Sf 2 ac M0 M) (hdm : M0 112 0 = 2) (ha : -2147483648 ≤ a ∧ a ≤ 2147483647) : nW xs (e + 1) 185 0 [some (2, 112), some (0, a), none, none] [] M (nPI fun z M1 => M = M1 ∧ (-2147483648 ≤ z ∧ z ≤ 2147483647)) := by
  have hd : (2 : Int) = 2 ∨ (2 : Int) = 3 := by decide
  have hac := hS.2.2.2.2
  refine n_iload_n c_185_0 rfl ?_
  refine n_if0_lt c_185_1 (by omega) ?_ ?_
  · intro h1
    refine n_fg (le_n (le_n (le_n (le_n le_0)))) ?_
    exact (msigns_2_c hS hdm ha 12)   (by omega)
  · intro h2
    refine n_iload_n c_185_4 rfl (n_aload_n c_185_5 rfl (n_getV (bi := 4) c_185_6 sc_112.n rfl rfl rfl (t_112_4 hS) ?_))
    intro z3 ez3 f4
    refine n_if2_ge c_185_9 (by omega) (by omega) ?_ ?_
    · intro h5
      refine n_fg (le_n (le_n (le_n (le_n le_0)))) ?_
      exact (msigns_2_c hS hdm ha 12)   (by omega)
    · intro h6
      refine n_aload_n c_185_12 rfl (n_getV (bi := 0) c_185_13 sc_112.n rfl rfl rfl (t_dm hS hdm) ?_)
      intro z7 ez7 f8
      obtain rfl : z7 = 2 := by omega
      refine n_iconst c_185_16 ?_
      refine n_if2_ne c_185_17 (by omega) (by omega) ?_ ?_
      · intro h9
        refine n_iconst c_185_22 (n_aload_n c_185_23 rfl (n_getR c_185_24 sc_112.n rfl rfl rfl r_112_5 (n_iload_n c_185_27 rfl (n_ialoadV c_185_28 sc_116.n rfl rfl rfl (by omega) (t_116 hS (by omega)) ?_))))
        intro z10 ez10 f11
        refine n_i_ishl c_185_29 rfl ?_
        have f12 := n_shl_1 (y := z10) (a := 0) (b := 3) (by decide) (by omega)
        generalize (n_shl 1 z10) = z13 at f12 ⊢
        refine n_istore_n (L2 := [some (2, 112), some (0, a), some (0, z13), none]) c_185_30 rfl rfl (n_aload_n c_185_31 rfl (n_getR c_185_32 sc_112.n rfl rfl rfl r_112_6 (n_bipush c_185_35 rfl (n_iload_n c_185_37 rfl (n_imul c_185_38 rfl (n_ialoadV c_185_39 sc_117.n rfl rfl rfl (by omega) (t_117 hS (by omega)) ?_))))))
        intro z14 ez14 f15
        refine n_if0_ne c_185_40 (by omega) ?_ ?_
        · intro h16
          refine n_iconst c_185_47 (n_istore_n (L2 := [some (2, 112), some (0, a), some (0, z13), some (0, 0)]) c_185_48 rfl rfl (n_iload_n c_185_49 rfl (n_aload_n c_185_50 rfl (n_getR c_185_51 sc_112.n rfl rfl rfl r_112_6 (n_bipush c_185_54 rfl (n_iload_n c_185_56 rfl (n_imul c_185_57 rfl (n_iload_n c_185_58 rfl (n_iadd c_185_59 rfl (n_iconst c_185_60 (n_isub c_185_61 rfl ?_)))))))))))
          refine n_ialoadV c_185_62 sc_117.n rfl rfl rfl (by omega) (t_117 hS (by omega)) ?_
          intro z17 ez17 f18
          refine n_iconst c_185_63 ?_
          refine n_if2_ne c_185_64 (by omega) (by omega) ?_ ?_
          · intro h19
            refine n_iconst c_185_71 (n_i_ior (z := 0) c_185_72 (by decide) ?_)
            refine n_istore_n (L2 := [some (2, 112), some (0, a), some (0, z13), some (0, 0)]) c_185_73 rfl rfl (n_iload_n c_185_74 rfl (n_aload_n c_185_75 rfl (n_iload_n c_185_76 rfl (n_v1I c_185_77 rfl sc_112.n rfl rfl rfl rfl (mrises_2 (a := a) hS hdm (by omega)) ?_))))
            intro z20 M21 hP22
            obtain ⟨eM, f22⟩ := hP22
            subst eM
            refine n_if0_eq c_185_80 (by omega) ?_ ?_
            · intro h23
              refine n_iconst c_185_87 (n_i_ior (z := 0) c_185_88 (by decide) ?_)
              refine n_istore_n (L2 := [some (2, 112), some (0, a), some (0, z13), some (0, 0)]) c_185_89 rfl rfl (n_iload_n c_185_90 rfl (n_aload_n c_185_91 rfl (n_iload_n c_185_92 rfl (n_v1I c_185_93 rfl sc_112.n rfl rfl rfl rfl (mturns_2 (a := a) hS hdm (by omega)) ?_))))
              intro z24 M25 hP26
              obtain ⟨eM, f26⟩ := hP26
              subst eM
              refine n_if0_eq c_185_96 (by omega) ?_ ?_
              · intro h27
                refine n_iconst c_185_104 (n_i_ior (z := 0) c_185_105 (by decide) ?_)
                refine n_istore_n (L2 := [some (2, 112), some (0, a), some (0, z13), some (0, 0)]) c_185_106 rfl rfl (n_iload_n c_185_107 rfl (n_aload_n c_185_108 rfl (n_iload_n c_185_109 rfl (n_v1I c_185_110 rfl sc_112.n rfl rfl rfl rfl (misSum_2 (a := a) hS hdm (by omega)) ?_))))
                intro z28 M29 hP30
                obtain ⟨eM, f30⟩ := hP30
                subst eM
                refine n_if0_eq c_185_113 (by omega) ?_ ?_
                · intro h31
                  refine n_iconst c_185_121 (n_i_ior (z := 0) c_185_122 (by decide) ?_)
                  exact n_rI c_185_123 rfl ⟨rfl, by omega⟩
                · intro h32
                  refine n_bipush c_185_116 rfl (n_goto c_185_118 (n_i_ior (z := 16) c_185_122 (by decide) ?_))
                  exact n_rI c_185_123 rfl ⟨rfl, by omega⟩
              · intro h33
                refine n_bipush c_185_99 rfl (n_goto c_185_101 (n_i_ior (z := 8) c_185_105 (by decide) ?_))
                refine n_istore_n (L2 := [some (2, 112), some (0, a), some (0, z13), some (0, 8)]) c_185_106 rfl rfl (n_iload_n c_185_107 rfl (n_aload_n c_185_108 rfl (n_iload_n c_185_109 rfl (n_v1I c_185_110 rfl sc_112.n rfl rfl rfl rfl (misSum_2 (a := a) hS hdm (by omega)) ?_))))
                intro z34 M35 hP36
                obtain ⟨eM, f36⟩ := hP36
                subst eM
                refine n_if0_eq c_185_113 (by omega) ?_ ?_
                · intro h37
                  refine n_iconst c_185_121 (n_i_ior (z := 8) c_185_122 (by decide) ?_)
                  exact n_rI c_185_123 rfl ⟨rfl, by omega⟩
                · intro h38
                  refine n_bipush c_185_116 rfl (n_goto c_185_118 (n_i_ior (z := 24) c_185_122 (by decide) ?_))
                  exact n_rI c_185_123 rfl ⟨rfl, by omega⟩
            · intro h39
              refine n_iconst c_185_83 (n_goto c_185_84 (n_i_ior (z := 4) c_185_88 (by decide) ?_))
              refine n_istore_n (L2 := [some (2, 112), some (0, a), some (0, z13), some (0, 4)]) c_185_89 rfl rfl (n_iload_n c_185_90 rfl (n_aload_n c_185_91 rfl (n_iload_n c_185_92 rfl (n_v1I c_185_93 rfl sc_112.n rfl rfl rfl rfl (mturns_2 (a := a) hS hdm (by omega)) ?_))))
              intro z40 M41 hP42
              obtain ⟨eM, f42⟩ := hP42
              subst eM
              refine n_if0_eq c_185_96 (by omega) ?_ ?_
              · intro h43
                refine n_iconst c_185_104 (n_i_ior (z := 4) c_185_105 (by decide) ?_)
                refine n_istore_n (L2 := [some (2, 112), some (0, a), some (0, z13), some (0, 4)]) c_185_106 rfl rfl (n_iload_n c_185_107 rfl (n_aload_n c_185_108 rfl (n_iload_n c_185_109 rfl (n_v1I c_185_110 rfl sc_112.n rfl rfl rfl rfl (misSum_2 (a := a) hS hdm (by omega)) ?_))))
                intro z44 M45 hP46
                obtain ⟨eM, f46⟩ := hP46
                subst eM
                refine n_if0_eq c_185_113 (by omega) ?_ ?_
                · intro h47
                  refine n_iconst c_185_121 (n_i_ior (z := 4) c_185_122 (by decide) ?_)
                  exact n_rI c_185_123 rfl ⟨rfl, by omega⟩
                · intro h48
                  refine n_bipush c_185_116 rfl (n_goto c_185_118 (n_i_ior (z := 20) c_185_122 (by decide) ?_))
                  exact n_rI c_185_123 rfl ⟨rfl, by omega⟩
              · intro h49
                refine n_bipush c_185_99 rfl (n_goto c_185_101 (n_i_ior (z := 12) c_185_105 (by decide) ?_))
                refine n_istore_n (L2 := [some (2, 112), some (0, a), some (0, z13), some (0, 12)]) c_185_106 rfl rfl (n_iload_n c_185_107 rfl (n_aload_n c_185_108 rfl (n_iload_n c_185_109 rfl (n_v1I c_185_110 rfl sc_112.n rfl rfl rfl rfl (misSum_2 (a := a) hS hdm (by omega)) ?_))))
                intro z50 M51 hP52
                obtain ⟨eM, f52⟩ := hP52
                subst eM
                refine n_if0_eq c_185_113 (by omega) ?_ ?_
                · intro h53
                  refine n_iconst c_185_121 (n_i_ior (z := 12) c_185_122 (by decide) ?_)
                  exact n_rI c_185_123 rfl ⟨rfl, by omega⟩
                · intro h54
                  refine n_bipush c_185_116 rfl (n_goto c_185_118 (n_i_ior (z := 28) c_185_122 (by decide) ?_))
                  exact n_rI c_185_123 rfl ⟨rfl, by omega⟩
          · intro h55
            refine n_iconst c_185_67 (n_goto c_185_68 (n_i_ior (z := 2) c_185_72 (by decide) ?_))
            refine n_istore_n (L2 := [some (2, 112), some (0, a), some (0, z13), some (0, 2)]) c_185_73 rfl rfl (n_iload_n c_185_74 rfl (n_aload_n c_185_75 rfl (n_iload_n c_185_76 rfl (n_v1I c_185_77 rfl sc_112.n rfl rfl rfl rfl (mrises_2 (a := a) hS hdm (by omega)) ?_))))
            intro z56 M57 hP58
            obtain ⟨eM, f58⟩ := hP58
            subst eM
            refine n_if0_eq c_185_80 (by omega) ?_ ?_
            · intro h59
              refine n_iconst c_185_87 (n_i_ior (z := 2) c_185_88 (by decide) ?_)
              refine n_istore_n (L2 := [some (2, 112), some (0, a), some (0, z13), some (0, 2)]) c_185_89 rfl rfl (n_iload_n c_185_90 rfl (n_aload_n c_185_91 rfl (n_iload_n c_185_92 rfl (n_v1I c_185_93 rfl sc_112.n rfl rfl rfl rfl (mturns_2 (a := a) hS hdm (by omega)) ?_))))
              intro z60 M61 hP62
              obtain ⟨eM, f62⟩ := hP62
              subst eM
              refine n_if0_eq c_185_96 (by omega) ?_ ?_
              · intro h63
                refine n_iconst c_185_104 (n_i_ior (z := 2) c_185_105 (by decide) ?_)
                refine n_istore_n (L2 := [some (2, 112), some (0, a), some (0, z13), some (0, 2)]) c_185_106 rfl rfl (n_iload_n c_185_107 rfl (n_aload_n c_185_108 rfl (n_iload_n c_185_109 rfl (n_v1I c_185_110 rfl sc_112.n rfl rfl rfl rfl (misSum_2 (a := a) hS hdm (by omega)) ?_))))
                intro z64 M65 hP66
                obtain ⟨eM, f66⟩ := hP66
                subst eM
                refine n_if0_eq c_185_113 (by omega) ?_ ?_
                · intro h67
                  refine n_iconst c_185_121 (n_i_ior (z := 2) c_185_122 (by decide) ?_)
                  exact n_rI c_185_123 rfl ⟨rfl, by omega⟩
                · intro h68
                  refine n_bipush c_185_116 rfl (n_goto c_185_118 (n_i_ior (z := 18) c_185_122 (by decide) ?_))
                  exact n_rI c_185_123 rfl ⟨rfl, by omega⟩
              · intro h69
                refine n_bipush c_185_99 rfl (n_goto c_185_101 (n_i_ior (z := 10) c_185_105 (by decide) ?_))
                refine n_istore_n (L2 := [some (2, 112), some (0, a), some (0, z13), some (0, 10)]) c_185_106 rfl rfl (n_iload_n c_185_107 rfl (n_aload_n c_185_108 rfl (n_iload_n c_185_109 rfl (n_v1I c_185_110 rfl sc_112.n rfl rfl rfl rfl (misSum_2 (a := a) hS hdm (by omega)) ?_))))
                intro z70 M71 hP72
                obtain ⟨eM, f72⟩ := hP72
                subst eM
                refine n_if0_eq c_185_113 (by omega) ?_ ?_
                · intro h73
                  refine n_iconst c_185_121 (n_i_ior (z := 10) c_185_122 (by decide) ?_)
                  exact n_rI c_185_123 rfl ⟨rfl, by omega⟩
                · intro h74
                  refine n_bipush c_185_116 rfl (n_goto c_185_118 (n_i_ior (z := 26) c_185_122 (by decide) ?_))
                  exact n_rI c_185_123 rfl ⟨rfl, by omega⟩
            · intro h75
              refine n_iconst c_185_83 (n_goto c_185_84 (n_i_ior (z := 6) c_185_88 (by decide) ?_))
              refine n_istore_n (L2 := [some (2, 112), some (0, a), some (0, z13), some (0, 6)]) c_185_89 rfl rfl (n_iload_n c_185_90 rfl (n_aload_n c_185_91 rfl (n_iload_n c_185_92 rfl (n_v1I c_185_93 rfl sc_112.n rfl rfl rfl rfl (mturns_2 (a := a) hS hdm (by omega)) ?_))))
              intro z76 M77 hP78
              obtain ⟨eM, f78⟩ := hP78
              subst eM
              refine n_if0_eq c_185_96 (by omega) ?_ ?_
              · intro h79
                refine n_iconst c_185_104 (n_i_ior (z := 6) c_185_105 (by decide) ?_)
                refine n_istore_n (L2 := [some (2, 112), some (0, a), some (0, z13), some (0, 6)]) c_185_106 rfl rfl (n_iload_n c_185_107 rfl (n_aload_n c_185_108 rfl (n_iload_n c_185_109 rfl (n_v1I c_185_110 rfl sc_112.n rfl rfl rfl rfl (misSum_2 (a := a) hS hdm (by omega)) ?_))))
                intro z80 M81 hP82
                obtain ⟨eM, f82⟩ := hP82
                subst eM
                refine n_if0_eq c_185_113 (by omega) ?_ ?_
                · intro h83
                  refine n_iconst c_185_121 (n_i_ior (z := 6) c_185_122 (by decide) ?_)
                  exact n_rI c_185_123 rfl ⟨rfl, by omega⟩
                · intro h84
                  refine n_bipush c_185_116 rfl (n_goto c_185_118 (n_i_ior (z := 22) c_185_122 (by decide) ?_))
                  exact n_rI c_185_123 rfl ⟨rfl, by omega⟩
              · intro h85
                refine n_bipush c_185_99 rfl (n_goto c_185_101 (n_i_ior (z := 14) c_185_105 (by decide) ?_))
                refine n_istore_n (L2 := [some (2, 112), some (0, a), some (0, z13), some (0, 14)]) c_185_106 rfl rfl (n_iload_n c_185_107 rfl (n_aload_n c_185_108 rfl (n_iload_n c_185_109 rfl (n_v1I c_185_110 rfl sc_112.n rfl rfl rfl rfl (misSum_2 (a := a) hS hdm (by omega)) ?_))))
                intro z86 M87 hP88
                obtain ⟨eM, f88⟩ := hP88
                subst eM
                refine n_if0_eq c_185_113 (by omega) ?_ ?_
                · intro h89
                  refine n_iconst c_185_121 (n_i_ior (z := 14) c_185_122 (by decide) ?_)
                  exact n_rI c_185_123 rfl ⟨rfl, by omega⟩
                · intro h90
                  refine n_bipush c_185_116 rfl (n_goto c_185_118 (n_i_ior (z := 30) c_185_122 (by decide) ?_))
                  exact n_rI c_185_123 rfl ⟨rfl, by omega⟩
        · intro h91
          refine n_iconst c_185_43 (n_goto c_185_44 (n_istore_n (L2 := [some (2, 112), some (0, a), some (0, z13), some (0, 1)]) c_185_48 rfl rfl (n_iload_n c_185_49 rfl (n_aload_n c_185_50 rfl (n_getR c_185_51 sc_112.n rfl rfl rfl r_112_6 (n_bipush c_185_54 rfl (n_iload_n c_185_56 rfl (n_imul c_185_57 rfl (n_iload_n c_185_58 rfl (n_iadd c_185_59 rfl (n_iconst c_185_60 ?_)))))))))))
          refine n_isub c_185_61 rfl (n_ialoadV c_185_62 sc_117.n rfl rfl rfl (by omega) (t_117 hS (by omega)) ?_)
          intro z92 ez92 f93
          refine n_iconst c_185_63 ?_
          refine n_if2_ne c_185_64 (by omega) (by omega) ?_ ?_
          · intro h94
            refine n_iconst c_185_71 (n_i_ior (z := 1) c_185_72 (by decide) ?_)
            refine n_istore_n (L2 := [some (2, 112), some (0, a), some (0, z13), some (0, 1)]) c_185_73 rfl rfl (n_iload_n c_185_74 rfl (n_aload_n c_185_75 rfl (n_iload_n c_185_76 rfl (n_v1I c_185_77 rfl sc_112.n rfl rfl rfl rfl (mrises_2 (a := a) hS hdm (by omega)) ?_))))
            intro z95 M96 hP97
            obtain ⟨eM, f97⟩ := hP97
            subst eM
            refine n_if0_eq c_185_80 (by omega) ?_ ?_
            · intro h98
              refine n_iconst c_185_87 (n_i_ior (z := 1) c_185_88 (by decide) ?_)
              refine n_istore_n (L2 := [some (2, 112), some (0, a), some (0, z13), some (0, 1)]) c_185_89 rfl rfl (n_iload_n c_185_90 rfl (n_aload_n c_185_91 rfl (n_iload_n c_185_92 rfl (n_v1I c_185_93 rfl sc_112.n rfl rfl rfl rfl (mturns_2 (a := a) hS hdm (by omega)) ?_))))
              intro z99 M100 hP101
              obtain ⟨eM, f101⟩ := hP101
              subst eM
              refine n_if0_eq c_185_96 (by omega) ?_ ?_
              · intro h102
                refine n_iconst c_185_104 (n_i_ior (z := 1) c_185_105 (by decide) ?_)
                refine n_istore_n (L2 := [some (2, 112), some (0, a), some (0, z13), some (0, 1)]) c_185_106 rfl rfl (n_iload_n c_185_107 rfl (n_aload_n c_185_108 rfl (n_iload_n c_185_109 rfl (n_v1I c_185_110 rfl sc_112.n rfl rfl rfl rfl (misSum_2 (a := a) hS hdm (by omega)) ?_))))
                intro z103 M104 hP105
                obtain ⟨eM, f105⟩ := hP105
                subst eM
                refine n_if0_eq c_185_113 (by omega) ?_ ?_
                · intro h106
                  refine n_iconst c_185_121 (n_i_ior (z := 1) c_185_122 (by decide) ?_)
                  exact n_rI c_185_123 rfl ⟨rfl, by omega⟩
                · intro h107
                  refine n_bipush c_185_116 rfl (n_goto c_185_118 (n_i_ior (z := 17) c_185_122 (by decide) ?_))
                  exact n_rI c_185_123 rfl ⟨rfl, by omega⟩
              · intro h108
                refine n_bipush c_185_99 rfl (n_goto c_185_101 (n_i_ior (z := 9) c_185_105 (by decide) ?_))
                refine n_istore_n (L2 := [some (2, 112), some (0, a), some (0, z13), some (0, 9)]) c_185_106 rfl rfl (n_iload_n c_185_107 rfl (n_aload_n c_185_108 rfl (n_iload_n c_185_109 rfl (n_v1I c_185_110 rfl sc_112.n rfl rfl rfl rfl (misSum_2 (a := a) hS hdm (by omega)) ?_))))
                intro z109 M110 hP111
                obtain ⟨eM, f111⟩ := hP111
                subst eM
                refine n_if0_eq c_185_113 (by omega) ?_ ?_
                · intro h112
                  refine n_iconst c_185_121 (n_i_ior (z := 9) c_185_122 (by decide) ?_)
                  exact n_rI c_185_123 rfl ⟨rfl, by omega⟩
                · intro h113
                  refine n_bipush c_185_116 rfl (n_goto c_185_118 (n_i_ior (z := 25) c_185_122 (by decide) ?_))
                  exact n_rI c_185_123 rfl ⟨rfl, by omega⟩
            · intro h114
              refine n_iconst c_185_83 (n_goto c_185_84 (n_i_ior (z := 5) c_185_88 (by decide) ?_))
              refine n_istore_n (L2 := [some (2, 112), some (0, a), some (0, z13), some (0, 5)]) c_185_89 rfl rfl (n_iload_n c_185_90 rfl (n_aload_n c_185_91 rfl (n_iload_n c_185_92 rfl (n_v1I c_185_93 rfl sc_112.n rfl rfl rfl rfl (mturns_2 (a := a) hS hdm (by omega)) ?_))))
              intro z115 M116 hP117
              obtain ⟨eM, f117⟩ := hP117
              subst eM
              refine n_if0_eq c_185_96 (by omega) ?_ ?_
              · intro h118
                refine n_iconst c_185_104 (n_i_ior (z := 5) c_185_105 (by decide) ?_)
                refine n_istore_n (L2 := [some (2, 112), some (0, a), some (0, z13), some (0, 5)]) c_185_106 rfl rfl (n_iload_n c_185_107 rfl (n_aload_n c_185_108 rfl (n_iload_n c_185_109 rfl (n_v1I c_185_110 rfl sc_112.n rfl rfl rfl rfl (misSum_2 (a := a) hS hdm (by omega)) ?_))))
                intro z119 M120 hP121
                obtain ⟨eM, f121⟩ := hP121
                subst eM
                refine n_if0_eq c_185_113 (by omega) ?_ ?_
                · intro h122
                  refine n_iconst c_185_121 (n_i_ior (z := 5) c_185_122 (by decide) ?_)
                  exact n_rI c_185_123 rfl ⟨rfl, by omega⟩
                · intro h123
                  refine n_bipush c_185_116 rfl (n_goto c_185_118 (n_i_ior (z := 21) c_185_122 (by decide) ?_))
                  exact n_rI c_185_123 rfl ⟨rfl, by omega⟩
              · intro h124
                refine n_bipush c_185_99 rfl (n_goto c_185_101 (n_i_ior (z := 13) c_185_105 (by decide) ?_))
                refine n_istore_n (L2 := [some (2, 112), some (0, a), some (0, z13), some (0, 13)]) c_185_106 rfl rfl (n_iload_n c_185_107 rfl (n_aload_n c_185_108 rfl (n_iload_n c_185_109 rfl (n_v1I c_185_110 rfl sc_112.n rfl rfl rfl rfl (misSum_2 (a := a) hS hdm (by omega)) ?_))))
                intro z125 M126 hP127
                obtain ⟨eM, f127⟩ := hP127
                subst eM
                refine n_if0_eq c_185_113 (by omega) ?_ ?_
                · intro h128
                  refine n_iconst c_185_121 (n_i_ior (z := 13) c_185_122 (by decide) ?_)
                  exact n_rI c_185_123 rfl ⟨rfl, by omega⟩
                · intro h129
                  refine n_bipush c_185_116 rfl (n_goto c_185_118 (n_i_ior (z := 29) c_185_122 (by decide) ?_))
                  exact n_rI c_185_123 rfl ⟨rfl, by omega⟩
          · intro h130
            refine n_iconst c_185_67 (n_goto c_185_68 (n_i_ior (z := 3) c_185_72 (by decide) ?_))
            refine n_istore_n (L2 := [some (2, 112), some (0, a), some (0, z13), some (0, 3)]) c_185_73 rfl rfl (n_iload_n c_185_74 rfl (n_aload_n c_185_75 rfl (n_iload_n c_185_76 rfl (n_v1I c_185_77 rfl sc_112.n rfl rfl rfl rfl (mrises_2 (a := a) hS hdm (by omega)) ?_))))
            intro z131 M132 hP133
            obtain ⟨eM, f133⟩ := hP133
            subst eM
            refine n_if0_eq c_185_80 (by omega) ?_ ?_
            · intro h134
              refine n_iconst c_185_87 (n_i_ior (z := 3) c_185_88 (by decide) ?_)
              refine n_istore_n (L2 := [some (2, 112), some (0, a), some (0, z13), some (0, 3)]) c_185_89 rfl rfl (n_iload_n c_185_90 rfl (n_aload_n c_185_91 rfl (n_iload_n c_185_92 rfl (n_v1I c_185_93 rfl sc_112.n rfl rfl rfl rfl (mturns_2 (a := a) hS hdm (by omega)) ?_))))
              intro z135 M136 hP137
              obtain ⟨eM, f137⟩ := hP137
              subst eM
              refine n_if0_eq c_185_96 (by omega) ?_ ?_
              · intro h138
                refine n_iconst c_185_104 (n_i_ior (z := 3) c_185_105 (by decide) ?_)
                refine n_istore_n (L2 := [some (2, 112), some (0, a), some (0, z13), some (0, 3)]) c_185_106 rfl rfl (n_iload_n c_185_107 rfl (n_aload_n c_185_108 rfl (n_iload_n c_185_109 rfl (n_v1I c_185_110 rfl sc_112.n rfl rfl rfl rfl (misSum_2 (a := a) hS hdm (by omega)) ?_))))
                intro z139 M140 hP141
                obtain ⟨eM, f141⟩ := hP141
                subst eM
                refine n_if0_eq c_185_113 (by omega) ?_ ?_
                · intro h142
                  refine n_iconst c_185_121 (n_i_ior (z := 3) c_185_122 (by decide) ?_)
                  exact n_rI c_185_123 rfl ⟨rfl, by omega⟩
                · intro h143
                  refine n_bipush c_185_116 rfl (n_goto c_185_118 (n_i_ior (z := 19) c_185_122 (by decide) ?_))
                  exact n_rI c_185_123 rfl ⟨rfl, by omega⟩
              · intro h144
                refine n_bipush c_185_99 rfl (n_goto c_185_101 (n_i_ior (z := 11) c_185_105 (by decide) ?_))
                refine n_istore_n (L2 := [some (2, 112), some (0, a), some (0, z13), some (0, 11)]) c_185_106 rfl rfl (n_iload_n c_185_107 rfl (n_aload_n c_185_108 rfl (n_iload_n c_185_109 rfl (n_v1I c_185_110 rfl sc_112.n rfl rfl rfl rfl (misSum_2 (a := a) hS hdm (by omega)) ?_))))
                intro z145 M146 hP147
                obtain ⟨eM, f147⟩ := hP147
                subst eM
                refine n_if0_eq c_185_113 (by omega) ?_ ?_
                · intro h148
                  refine n_iconst c_185_121 (n_i_ior (z := 11) c_185_122 (by decide) ?_)
                  exact n_rI c_185_123 rfl ⟨rfl, by omega⟩
                · intro h149
                  refine n_bipush c_185_116 rfl (n_goto c_185_118 (n_i_ior (z := 27) c_185_122 (by decide) ?_))
                  exact n_rI c_185_123 rfl ⟨rfl, by omega⟩
            · intro h150
              refine n_iconst c_185_83 (n_goto c_185_84 (n_i_ior (z := 7) c_185_88 (by decide) ?_))
              refine n_istore_n (L2 := [some (2, 112), some (0, a), some (0, z13), some (0, 7)]) c_185_89 rfl rfl (n_iload_n c_185_90 rfl (n_aload_n c_185_91 rfl (n_iload_n c_185_92 rfl (n_v1I c_185_93 rfl sc_112.n rfl rfl rfl rfl (mturns_2 (a := a) hS hdm (by omega)) ?_))))
              intro z151 M152 hP153
              obtain ⟨eM, f153⟩ := hP153
              subst eM
              refine n_if0_eq c_185_96 (by omega) ?_ ?_
              · intro h154
                refine n_iconst c_185_104 (n_i_ior (z := 7) c_185_105 (by decide) ?_)
                refine n_istore_n (L2 := [some (2, 112), some (0, a), some (0, z13), some (0, 7)]) c_185_106 rfl rfl (n_iload_n c_185_107 rfl (n_aload_n c_185_108 rfl (n_iload_n c_185_109 rfl (n_v1I c_185_110 rfl sc_112.n rfl rfl rfl rfl (misSum_2 (a := a) hS hdm (by omega)) ?_))))
                intro z155 M156 hP157
                obtain ⟨eM, f157⟩ := hP157
                subst eM
                refine n_if0_eq c_185_113 (by omega) ?_ ?_
                · intro h158
                  refine n_iconst c_185_121 (n_i_ior (z := 7) c_185_122 (by decide) ?_)
                  exact n_rI c_185_123 rfl ⟨rfl, by omega⟩
                · intro h159
                  refine n_bipush c_185_116 rfl (n_goto c_185_118 (n_i_ior (z := 23) c_185_122 (by decide) ?_))
                  exact n_rI c_185_123 rfl ⟨rfl, by omega⟩
              · intro h160
                refine n_bipush c_185_99 rfl (n_goto c_185_101 (n_i_ior (z := 15) c_185_105 (by decide) ?_))
                refine n_istore_n (L2 := [some (2, 112), some (0, a), some (0, z13), some (0, 15)]) c_185_106 rfl rfl (n_iload_n c_185_107 rfl (n_aload_n c_185_108 rfl (n_iload_n c_185_109 rfl (n_v1I c_185_110 rfl sc_112.n rfl rfl rfl rfl (misSum_2 (a := a) hS hdm (by omega)) ?_))))
                intro z161 M162 hP163
                obtain ⟨eM, f163⟩ := hP163
                subst eM
                refine n_if0_eq c_185_113 (by omega) ?_ ?_
                · intro h164
                  refine n_iconst c_185_121 (n_i_ior (z := 15) c_185_122 (by decide) ?_)
                  exact n_rI c_185_123 rfl ⟨rfl, by omega⟩
                · intro h165
                  refine n_bipush c_185_116 rfl (n_goto c_185_118 (n_i_ior (z := 31) c_185_122 (by decide) ?_))
                  exact n_rI c_185_123 rfl ⟨rfl, by omega⟩
      · intro h166
        exfalso; omega

set_option maxHeartbeats 4000000 in
theorem mwhole_2_c {xs : List Int32} {e : Nat} {ac : Int} {M0 M : nM} (hS : Sf 2 ac M0 M) (hdm : M0 112 0 = 2) : ∀ nn : Nat, (∀ (x1 x2 : Int), (0 ≤ x1 ∧ x1 ≤ 31) → (0 ≤ x2 ∧ x2 ≤ 8) → (8 - x2) * 1 + 1 < (nn : Int) → nW xs (e + 2) 186 15 [some (2, 112), some (0, x1), some (0, x2)] [] M (nPI fun z M1 => M = M1 ∧ (-2147483648 ≤ z ∧ z ≤ 2147483647))) := by
  have hd : (2 : Int) = 2 ∨ (2 : Int) = 3 := by decide
  have hac := hS.2.2.2.2
  intro nn
  induction nn with
  | zero => intros; omega
  | succ nn ih =>
    intro x1 x2 k1 k2 hnn
    refine n_iload_n c_186_15 rfl (n_aload_n c_186_16 rfl (n_getV (bi := 4) c_186_17 sc_112.n rfl rfl rfl (t_112_4 hS) ?_))
    intro z1 ez1 f2
    refine n_if2_ge c_186_20 (by omega) (by omega) ?_ ?_
    · intro h3
      refine n_iload_n c_186_37 rfl ?_
      refine n_if0_ne c_186_38 (by omega) ?_ ?_
      · intro h4
        refine n_iconst c_186_45 ?_
        exact n_rI c_186_46 rfl ⟨rfl, by omega⟩
      · intro h5
        refine n_iconst c_186_41 (n_goto c_186_42 ?_)
        exact n_rI c_186_46 rfl ⟨rfl, by omega⟩
    · intro h6
      refine n_iload_n c_186_23 rfl (n_aload_n c_186_24 rfl (n_iload_n c_186_25 rfl (n_v1I c_186_26 rfl sc_112.n rfl rfl rfl rfl (msigns_2 (a := x2) hS hdm (by omega)) ?_)))
      intro z7 M8 hP9
      obtain ⟨eM, f9⟩ := hP9
      subst eM
      refine n_i_iand c_186_29 rfl ?_
      have f10 := n_and_x (x := x1) (y := z7) (by omega)
      generalize (n_and x1 z7) = z11 at f10 ⊢
      refine n_istore_n (L2 := [some (2, 112), some (0, z11), some (0, x2)]) c_186_30 rfl rfl (n_iinc (L2 := [some (2, 112), some (0, z11), some (0, (x2 + 1))]) c_186_31 rfl rfl rfl (n_goto c_186_34 (n_fg (le_s (le_s (le_s le_0))) ?_)))
      exact ih _ _ (by omega) (by omega) (by omega)
set_option maxHeartbeats 4000000 in
theorem mwhole_2 {xs : List Int32} {e : Nat} {ac : Int} {M0 M : nM} (hS : Sf 2 ac M0 M) (hdm : M0 112 0 = 2) : nW xs (e + 2) 186 0 [some (2, 112), none, none] [] M (nPI fun z M1 => M = M1 ∧ (-2147483648 ≤ z ∧ z ≤ 2147483647)) := by
  have hd : (2 : Int) = 2 ∨ (2 : Int) = 3 := by decide
  have hac := hS.2.2.2.2
  refine n_aload_n c_186_0 rfl (n_getV (bi := 0) c_186_1 sc_112.n rfl rfl rfl (t_dm hS hdm) ?_)
  intro z1 ez1 f2
  obtain rfl : z1 = 2 := by omega
  refine n_iconst c_186_4 ?_
  refine n_if2_ne c_186_5 (by omega) (by omega) ?_ ?_
  · intro h3
    refine n_bipush c_186_10 rfl (n_istore_n (L2 := [some (2, 112), some (0, 31), none]) c_186_12 rfl rfl (n_iconst c_186_13 (n_istore_n (L2 := [some (2, 112), some (0, 31), some (0, 0)]) c_186_14 rfl rfl (n_fg (le_s (le_s (le_s le_0))) ?_))))
    exact (mwhole_2_c hS hdm 30) _ _ (by omega) (by omega) (by omega)
  · intro h4
    exfalso; omega

set_option maxHeartbeats 4000000 in
theorem misUnknown_2_c {xs : List Int32} {e : Nat} {ac : Int} {M0 M : nM} {u : Int} (hS : Sf 2 ac M0 M) (hdm : M0 112 0 = 2) (hu : -2147483648 ≤ u ∧ u ≤ 2147483647) : ∀ nn : Nat, (1 < (nn : Int) → nW xs e 188 16 [none, none] [] M (nPI fun z M1 => M = M1 ∧ (0 ≤ z ∧ z ≤ 1) ∧ (z = 0 ∨ (0 ≤ u ∧ u ≤ 7)))) := by
  have hd : (2 : Int) = 2 ∨ (2 : Int) = 3 := by decide
  have hac := hS.2.2.2.2
  intro nn
  induction nn with
  | zero => intros; omega
  | succ nn ih =>
    intro hnn
    refine n_iconst c_188_16 ?_
    exact n_rZ c_188_17 rfl (by omega) ⟨rfl, by omega, by omega⟩
set_option maxHeartbeats 4000000 in
theorem misUnknown_2 {xs : List Int32} {e : Nat} {ac : Int} {M0 M : nM} {u : Int} (hS : Sf 2 ac M0 M) (hdm : M0 112 0 = 2) (hu : -2147483648 ≤ u ∧ u ≤ 2147483647) : nW xs e 188 0 [some (2, 112), some (0, u)] [] M (nPI fun z M1 => M = M1 ∧ (0 ≤ z ∧ z ≤ 1) ∧ (z = 0 ∨ (0 ≤ u ∧ u ≤ 7))) := by
  have hd : (2 : Int) = 2 ∨ (2 : Int) = 3 := by decide
  have hac := hS.2.2.2.2
  refine n_iload_n c_188_0 rfl ?_
  refine n_if0_lt c_188_1 (by omega) ?_ ?_
  · intro h1
    refine n_fg (le_n (le_n le_0)) ?_
    exact (misUnknown_2_c hS hdm hu 12)   (by omega)
  · intro h2
    refine n_iload_n c_188_4 rfl (n_aload_n c_188_5 rfl (n_getV (bi := 10) c_188_6 sc_112.n rfl rfl rfl (t_112_10 hS) ?_))
    intro z3 ez3 f4
    refine n_if2_ge c_188_9 (by omega) (by omega) ?_ ?_
    · intro h5
      refine n_fg (le_n (le_n le_0)) ?_
      exact (misUnknown_2_c hS hdm hu 12)   (by omega)
    · intro h6
      refine n_iconst c_188_12 (n_goto c_188_13 ?_)
      exact n_rZ c_188_17 rfl (by omega) ⟨rfl, by omega, by omega⟩

set_option maxHeartbeats 4000000 in
theorem masked_2_c {xs : List Int32} {e : Nat} {ac : Int} {M0 M : nM} (hS : Sf 2 ac M0 M) (hdm : M0 112 0 = 2) : ∀ nn : Nat, (∀ (x1 x2 : Int), (0 ≤ x1 ∧ x1 ≤ 4095) → (0 ≤ x2 ∧ x2 ≤ 30) → (30 - x2) * 1 + 1 < (nn : Int) → nW xs e 196 4 [some (2, 112), some (0, x1), some (0, x2)] [] M (nPI fun z M1 => M = M1 ∧ (-2147483648 ≤ z ∧ z ≤ 2147483647))) := by
  have hd : (2 : Int) = 2 ∨ (2 : Int) = 3 := by decide
  have hac := hS.2.2.2.2
  intro nn
  induction nn with
  | zero => intros; omega
  | succ nn ih =>
    intro x1 x2 k1 k2 hnn
    refine n_iload_n c_196_4 rfl (n_aload_n c_196_5 rfl (n_getV (bi := 11) c_196_6 sc_112.n rfl rfl rfl (t_112_11 hS) ?_))
    intro z1 ez1 f2
    refine n_if2_ge c_196_9 (by omega) (by omega) ?_ ?_
    · intro h3
      refine n_iload_n c_196_29 rfl ?_
      exact n_rI c_196_30 rfl ⟨rfl, by omega⟩
    · intro h4
      refine n_iload_n c_196_12 rfl (n_iconst c_196_13 (n_aload_n c_196_14 rfl (n_getR c_196_15 sc_112.n rfl rfl rfl r_112_12 (n_iload_n c_196_18 rfl (n_ialoadV c_196_19 sc_120.n rfl rfl rfl (by omega) (t_120 hS (by omega)) ?_)))))
      intro z5 ez5 f6
      refine n_i_ishl c_196_20 rfl ?_
      have f7 := n_shl_1 (y := z5) (a := 0) (b := 11) (by decide) (by omega)
      generalize (n_shl 1 z5) = z8 at f7 ⊢
      refine n_i_ior c_196_21 rfl ?_
      have f9 := n_or_k (x := x1) (y := z8) (n := 12) (by decide) (by omega) (by omega)
      generalize (n_or x1 z8) = z10 at f9 ⊢
      refine n_istore_n (L2 := [some (2, 112), some (0, z10), some (0, x2)]) c_196_22 rfl rfl (n_iinc (L2 := [some (2, 112), some (0, z10), some (0, (x2 + 1))]) c_196_23 rfl rfl rfl (n_goto c_196_26 (n_fg (le_s (le_s (le_s le_0))) ?_)))
      exact ih _ _ (by omega) (by omega) (by omega)
set_option maxHeartbeats 4000000 in
theorem masked_2 {xs : List Int32} {e : Nat} {ac : Int} {M0 M : nM} (hS : Sf 2 ac M0 M) (hdm : M0 112 0 = 2) : nW xs e 196 0 [some (2, 112), none, none] [] M (nPI fun z M1 => M = M1 ∧ (-2147483648 ≤ z ∧ z ≤ 2147483647)) := by
  have hd : (2 : Int) = 2 ∨ (2 : Int) = 3 := by decide
  have hac := hS.2.2.2.2
  refine n_iconst c_196_0 (n_istore_n (L2 := [some (2, 112), some (0, 0), none]) c_196_1 rfl rfl (n_iconst c_196_2 (n_istore_n (L2 := [some (2, 112), some (0, 0), some (0, 0)]) c_196_3 rfl rfl (n_fg (le_s (le_s (le_s le_0))) ?_))))
  exact (masked_2_c hS hdm 74) _ _ (by omega) (by omega) (by omega)

set_option maxHeartbeats 4000000 in
theorem misHalf_2_c {xs : List Int32} {e : Nat} {ac : Int} {M0 M : nM} (hS : Sf 2 ac M0 M) (hdm : M0 112 0 = 2) : ∀ nn : Nat, (∀ (x1 : Int), (0 ≤ x1 ∧ x1 ≤ 2) → (2 - x1) * 21 + 21 < (nn : Int) → nW xs e 197 2 [some (2, 112), some (0, x1), none, none] [] M (nPI fun z M1 => M = M1 ∧ (0 ≤ z ∧ z ≤ 1))) ∧ (∀ (x1 x2 : Int), (0 ≤ x1 ∧ x1 ≤ 1) → (0 ≤ x2 ∧ x2 ≤ 2) → (2 - x1) * 21 + (2 - x2) * 5 + 5 < (nn : Int) → nW xs e 197 31 [some (2, 112), some (0, x1), some (0, x2), none] [] M (nPI fun z M1 => M = M1 ∧ (0 ≤ z ∧ z ≤ 1))) ∧ (∀ (x1 x2 x3 : Int), (0 ≤ x1 ∧ x1 ≤ 1) → (0 ≤ x2 ∧ x2 ≤ 1) → (0 ≤ x3 ∧ x3 ≤ 2) → (2 - x1) * 21 + (2 - x2) * 5 + (2 - x3) * 1 + 1 < (nn : Int) → nW xs e 197 72 [some (2, 112), some (0, x1), some (0, x2), some (0, x3)] [] M (nPI fun z M1 => M = M1 ∧ (0 ≤ z ∧ z ≤ 1))) := by
  have hd : (2 : Int) = 2 ∨ (2 : Int) = 3 := by decide
  have hac := hS.2.2.2.2
  intro nn
  induction nn with
  | zero => refine ⟨?_, ?_, ?_⟩ <;> (intros; omega)
  | succ nn ih =>
    refine ⟨?_, ?_, ?_⟩
    · intro x1 k1 hnn
      refine n_iload_n c_197_2 rfl (n_aload_n c_197_3 rfl (n_getV (bi := 0) c_197_4 sc_112.n rfl rfl rfl (t_dm hS hdm) ?_))
      intro z1 ez1 f2
      obtain rfl : z1 = 2 := by omega
      refine n_if2_ge c_197_7 (by omega) (by omega) ?_ ?_
      · intro h3
        refine n_iconst c_197_153 ?_
        exact n_rZ c_197_154 rfl (by omega) ⟨rfl, by omega⟩
      · intro h4
        refine n_aload_n c_197_10 rfl (n_getR c_197_11 sc_112.n rfl rfl rfl r_112_19 (n_iload_n c_197_14 rfl (n_aload_n c_197_15 rfl (n_getV (bi := 0) c_197_16 sc_112.n rfl rfl rfl (t_dm hS hdm) ?_))))
        intro z5 ez5 f6
        obtain rfl : z5 = 2 := by omega
        refine n_imul c_197_19 rfl (n_iload_n c_197_20 rfl (n_iadd c_197_21 rfl (n_ialoadV c_197_22 sc_127.n rfl rfl rfl (by omega) (t_127 hS (by omega)) ?_)))
        intro z7 ez7 f8
        refine n_iload_n c_197_23 rfl ?_
        refine n_if2_eq c_197_24 (by omega) (by omega) ?_ ?_
        · intro h9
          refine n_iconst c_197_29 (n_istore_n (L2 := [some (2, 112), some (0, x1), some (0, 0), none]) c_197_30 rfl rfl (n_fg (le_s (le_s (le_s (le_n le_0)))) ?_))
          exact ih.2.1 _ _ (by omega) (by omega) (by omega)
        · intro h10
          refine n_iconst c_197_27 ?_
          exact n_rZ c_197_28 rfl (by omega) ⟨rfl, by omega⟩
    · intro x1 x2 k1 k2 hnn
      refine n_iload_n c_197_31 rfl (n_aload_n c_197_32 rfl (n_getV (bi := 0) c_197_33 sc_112.n rfl rfl rfl (t_dm hS hdm) ?_))
      intro z1 ez1 f2
      obtain rfl : z1 = 2 := by omega
      refine n_if2_ge c_197_36 (by omega) (by omega) ?_ ?_
      · intro h3
        refine n_iinc (L2 := [some (2, 112), some (0, (x1 + 1)), some (0, x2), none]) c_197_147 rfl rfl rfl (n_goto c_197_150 (n_fg (le_s (le_s (le_n (le_n le_0)))) ?_))
        exact ih.1 _ (by omega) (by omega)
      · intro h4
        refine n_aload_n c_197_39 rfl (n_getR c_197_40 sc_112.n rfl rfl rfl r_112_19 (n_iload_n c_197_43 rfl (n_aload_n c_197_44 rfl (n_getV (bi := 0) c_197_45 sc_112.n rfl rfl rfl (t_dm hS hdm) ?_))))
        intro z5 ez5 f6
        obtain rfl : z5 = 2 := by omega
        refine n_imul c_197_48 rfl (n_iload_n c_197_49 rfl (n_iadd c_197_50 rfl (n_ialoadV c_197_51 sc_127.n rfl rfl rfl (by omega) (t_127 hS (by omega)) ?_)))
        intro z7 ez7 f8
        refine n_aload_n c_197_52 rfl (n_getR c_197_53 sc_112.n rfl rfl rfl r_112_19 (n_iload_n c_197_56 rfl (n_aload_n c_197_57 rfl (n_getV (bi := 0) c_197_58 sc_112.n rfl rfl rfl (t_dm hS hdm) ?_))))
        intro z9 ez9 f10
        obtain rfl : z9 = 2 := by omega
        refine n_imul c_197_61 rfl (n_iload_n c_197_62 rfl (n_iadd c_197_63 rfl (n_ialoadV c_197_64 sc_127.n rfl rfl rfl (by omega) (t_127 hS (by omega)) ?_)))
        intro z11 ez11 f12
        refine n_if2_eq c_197_65 (by omega) (by omega) ?_ ?_
        · intro h13
          refine n_iconst c_197_70 (n_istore_n (L2 := [some (2, 112), some (0, x1), some (0, x2), some (0, 0)]) c_197_71 rfl rfl (n_fg (le_s (le_s (le_s (le_s le_0)))) ?_))
          exact ih.2.2 _ _ _ (by omega) (by omega) (by omega) (by omega)
        · intro h14
          refine n_iconst c_197_68 ?_
          exact n_rZ c_197_69 rfl (by omega) ⟨rfl, by omega⟩
    · intro x1 x2 x3 k1 k2 k3 hnn
      refine n_iload_n c_197_72 rfl (n_aload_n c_197_73 rfl (n_getV (bi := 0) c_197_74 sc_112.n rfl rfl rfl (t_dm hS hdm) ?_))
      intro z1 ez1 f2
      obtain rfl : z1 = 2 := by omega
      refine n_if2_ge c_197_77 (by omega) (by omega) ?_ ?_
      · intro h3
        refine n_iinc (L2 := [some (2, 112), some (0, x1), some (0, (x2 + 1)), some (0, x3)]) c_197_141 rfl rfl rfl (n_goto c_197_144 (n_fg (le_s (le_s (le_s (le_n le_0)))) ?_))
        exact ih.2.1 _ _ (by omega) (by omega) (by omega)
      · intro h4
        refine n_aload_n c_197_80 rfl (n_getR c_197_81 sc_112.n rfl rfl rfl r_112_19 (n_aload_n c_197_84 rfl (n_getR c_197_85 sc_112.n rfl rfl rfl r_112_19 (n_iload_n c_197_88 rfl (n_aload_n c_197_89 rfl (n_getV (bi := 0) c_197_90 sc_112.n rfl rfl rfl (t_dm hS hdm) ?_))))))
        intro z5 ez5 f6
        obtain rfl : z5 = 2 := by omega
        refine n_imul c_197_93 rfl (n_iload_n c_197_94 rfl (n_iadd c_197_95 rfl (n_ialoadV c_197_96 sc_127.n rfl rfl rfl (by omega) (t_127 hS (by omega)) ?_)))
        intro z7 ez7 f8
        refine n_aload_n c_197_97 rfl (n_getV (bi := 0) c_197_98 sc_112.n rfl rfl rfl (t_dm hS hdm) ?_)
        intro z9 ez9 f10
        obtain rfl : z9 = 2 := by omega
        refine n_imul c_197_101 rfl (n_iload_n c_197_102 rfl (n_iadd c_197_103 rfl (n_ialoadV c_197_104 sc_127.n rfl rfl rfl (by omega) (t_127 hS (by omega)) ?_)))
        intro z11 ez11 f12
        refine n_aload_n c_197_105 rfl (n_getR c_197_106 sc_112.n rfl rfl rfl r_112_19 (n_iload_n c_197_109 rfl (n_aload_n c_197_110 rfl (n_getV (bi := 0) c_197_111 sc_112.n rfl rfl rfl (t_dm hS hdm) ?_))))
        intro z13 ez13 f14
        obtain rfl : z13 = 2 := by omega
        refine n_imul c_197_114 rfl (n_aload_n c_197_115 rfl (n_getR c_197_116 sc_112.n rfl rfl rfl r_112_19 (n_iload_n c_197_119 rfl (n_aload_n c_197_120 rfl (n_getV (bi := 0) c_197_121 sc_112.n rfl rfl rfl (t_dm hS hdm) ?_)))))
        intro z15 ez15 f16
        obtain rfl : z15 = 2 := by omega
        refine n_imul c_197_124 rfl (n_iload_n c_197_125 rfl (n_iadd c_197_126 rfl (n_ialoadV c_197_127 sc_127.n rfl rfl rfl (by omega) (t_127 hS (by omega)) ?_)))
        intro z17 ez17 f18
        refine n_iadd c_197_128 rfl (n_ialoadV c_197_129 sc_127.n rfl rfl rfl (by omega) (t_127 hS (by omega)) ?_)
        intro z19 ez19 f20
        refine n_if2_eq c_197_130 (by omega) (by omega) ?_ ?_
        · intro h21
          refine n_iinc (L2 := [some (2, 112), some (0, x1), some (0, x2), some (0, (x3 + 1))]) c_197_135 rfl rfl rfl (n_goto c_197_138 (n_fg (le_s (le_s (le_s (le_s le_0)))) ?_))
          exact ih.2.2 _ _ _ (by omega) (by omega) (by omega) (by omega)
        · intro h22
          refine n_iconst c_197_133 ?_
          exact n_rZ c_197_134 rfl (by omega) ⟨rfl, by omega⟩
set_option maxHeartbeats 4000000 in
theorem misHalf_2 {xs : List Int32} {e : Nat} {ac : Int} {M0 M : nM} (hS : Sf 2 ac M0 M) (hdm : M0 112 0 = 2) : nW xs e 197 0 [some (2, 112), none, none, none] [] M (nPI fun z M1 => M = M1 ∧ (0 ≤ z ∧ z ≤ 1)) := by
  have hd : (2 : Int) = 2 ∨ (2 : Int) = 3 := by decide
  have hac := hS.2.2.2.2
  refine n_iconst c_197_0 (n_istore_n (L2 := [some (2, 112), some (0, 0), none, none]) c_197_1 rfl rfl (n_fg (le_s (le_s (le_n (le_n le_0)))) ?_))
  exact (misHalf_2_c hS hdm 178).1 _ (by omega) (by omega)

set_option maxHeartbeats 4000000 in
theorem mhandCode_2_c {xs : List Int32} {e : Nat} {ac : Int} {M0 M : nM} (hS : Sf 2 ac M0 M) (hdm : M0 112 0 = 2) : ∀ nn : Nat, (∀ (x1 x3 : Int), (-9223372036854775808 ≤ x1 ∧ x1 ≤ 9223372036854775807) → (-1 ≤ x3 ∧ x3 ≤ 7) → (x3 - (-1)) * 1 + 1 < (nn : Int) → nW xs (e + 1) 198 13 [some (2, 112), some (1, x1), none, some (0, x3)] [] M (nPJ fun z M1 => M = M1 ∧ (-9223372036854775808 ≤ z ∧ z ≤ 9223372036854775807))) := by
  have hd : (2 : Int) = 2 ∨ (2 : Int) = 3 := by decide
  have hac := hS.2.2.2.2
  intro nn
  induction nn with
  | zero => intros; omega
  | succ nn ih =>
    intro x1 x3 k1 k3 hnn
    refine n_iload_n c_198_13 rfl ?_
    refine n_if0_lt c_198_14 (by omega) ?_ ?_
    · intro h1
      refine n_lload_n c_198_39 rfl ?_
      exact n_rJ c_198_40 rfl ⟨rfl, by omega⟩
    · intro h2
      refine n_lload_n c_198_17 rfl (n_aload_n c_198_18 rfl (n_getV (bi := 0) c_198_19 sc_112.n rfl rfl rfl (t_dm hS hdm) ?_))
      intro z3 ez3 f4
      obtain rfl : z3 = 2 := by omega
      refine n_i2l c_198_22 (by omega) ?_
      refine n_lmul c_198_23 rfl (n_wrapl ?_)
      have f5 := n_wl_r (x1 * 2)
      generalize n_wl (x1 * 2) = z6 at f5 ⊢
      refine n_aload_n c_198_24 rfl (n_getR c_198_25 sc_112.n rfl rfl rfl r_112_19 (n_iload_n c_198_28 rfl (n_ialoadV c_198_29 sc_127.n rfl rfl rfl (by omega) (t_127 hS (by omega)) ?_)))
      intro z7 ez7 f8
      refine n_i2l c_198_30 (by omega) ?_
      refine n_ladd c_198_31 rfl (n_wrapl ?_)
      have f9 := n_wl_r (z6 + z7)
      generalize n_wl (z6 + z7) = z10 at f9 ⊢
      refine n_lstore_n (L2 := [some (2, 112), some (1, z10), none, some (0, x3)]) c_198_32 rfl rfl (n_iinc (L2 := [some (2, 112), some (1, z10), none, some (0, (x3 + (-1)))]) c_198_33 rfl rfl rfl (n_goto c_198_36 (n_fg (le_s (le_s (le_n (le_s le_0)))) ?_)))
      exact ih _ _ (by omega) (by omega) (by omega)
set_option maxHeartbeats 4000000 in
theorem mhandCode_2 {xs : List Int32} {e : Nat} {ac : Int} {M0 M : nM} (hS : Sf 2 ac M0 M) (hdm : M0 112 0 = 2) : nW xs (e + 1) 198 0 [some (2, 112), none, none, none] [] M (nPJ fun z M1 => M = M1 ∧ (-9223372036854775808 ≤ z ∧ z ≤ 9223372036854775807)) := by
  have hd : (2 : Int) = 2 ∨ (2 : Int) = 3 := by decide
  have hac := hS.2.2.2.2
  refine n_lconst (n := 0) c_198_0 rfl (n_lstore_n (L2 := [some (2, 112), some (1, 0), none, none]) c_198_1 rfl rfl (n_aload_n c_198_2 rfl (n_getV (bi := 0) c_198_3 sc_112.n rfl rfl rfl (t_dm hS hdm) ?_)))
  intro z1 ez1 f2
  obtain rfl : z1 = 2 := by omega
  refine n_iconst c_198_6 (n_s2I c_198_7 rfl rfl rfl rfl (mpower3_2  hS ) ?_)
  intro z3 M4 hP5
  obtain ⟨eM, f5⟩ := hP5
  subst eM
  obtain rfl : z3 = 8 := by omega
  refine n_iconst c_198_10 (n_isub c_198_11 rfl (n_istore_n (L2 := [some (2, 112), some (1, 0), none, some (0, (8 - 1))]) c_198_12 rfl rfl (n_fg (le_s (le_s (le_n (le_s le_0)))) ?_)))
  exact (mhandCode_2_c hS hdm 30) _ _ (by omega) (by omega) (by omega)

set_option maxHeartbeats 4000000 in
theorem mdigit_2 {xs : List Int32} {e : Nat} {ac : Int} {M0 M : nM} {r k j : Int} (hS : Sf 2 ac M0 M) (hdm : M0 112 0 = 2) (hr : 0 ≤ r ∧ r ≤ 2147483647) (hk : 0 ≤ k ∧ k ≤ 9) (hj : 0 ≤ j ∧ j ≤ 8) (hkj : j < k) : nW xs (e + 1) 152 0 [some (2, 112), some (0, r), some (0, k), some (0, j)] [] M (nPI fun z M1 => M = M1 ∧ (0 ≤ z ∧ z ≤ 1)) := by
  have hd : (2 : Int) = 2 ∨ (2 : Int) = 3 := by decide
  have hac := hS.2.2.2.2
  refine n_iload_n c_152_0 rfl (n_aload_n c_152_1 rfl (n_getV (bi := 0) c_152_2 sc_112.n rfl rfl rfl (t_dm hS hdm) ?_))
  intro z1 ez1 f2
  obtain rfl : z1 = 2 := by omega
  refine n_iload_n c_152_5 rfl (n_iconst c_152_6 (n_isub c_152_7 rfl (n_iload_n c_152_8 rfl (n_isub c_152_9 rfl (n_s2I c_152_10 rfl rfl rfl rfl (mpowerU_2 (n := ((k - 1) - j)) hS (by omega)) ?_)))))
  intro z3 M4 hP5
  obtain ⟨eM, f5⟩ := hP5
  subst eM
  refine n_idivV c_152_13 (by omega) (by omega) ?_
  intro z6 _ f7
  refine n_aload_n c_152_14 rfl (n_getV (bi := 0) c_152_15 sc_112.n rfl rfl rfl (t_dm hS hdm) ?_)
  intro z8 ez8 f9
  obtain rfl : z8 = 2 := by omega
  refine n_iremV c_152_18 (by omega) (by omega) ?_
  intro z10 _ f11
  exact n_rI c_152_19 rfl ⟨rfl, by omega⟩

set_option maxHeartbeats 4000000 in
theorem mjoined2_2_c {xs : List Int32} {e : Nat} {ac : Int} {M0 M : nM} {a x y w s : Int} (hS : Sf 2 ac M0 M) (hdm : M0 112 0 = 2) (ha : 0 ≤ a ∧ a ≤ 7) (hx : 0 ≤ x ∧ x ≤ 256) (hy : 0 ≤ y ∧ y ≤ 256) (hw : 0 ≤ w ∧ w ≤ 256) (hs : 0 ≤ s ∧ s ≤ 1000000) : ∀ nn : Nat, (∀ (x8 : Int) (M : nM), Sf 2 ac M0 M → (0 ≤ x8 ∧ x8 ≤ 6) → 2 < (nn : Int) → nW xs e 163 145 [some (2, 112), none, none, none, none, none, some (0, s), none, some (0, x8), none, none] [] M (nPV fun M1 => Sf 2 ac M0 M1)) ∧ (∀ (M : nM), Sf 2 ac M0 M → 1 < (nn : Int) → nW xs e 163 156 [none, none, none, none, none, none, none, none, none, none, none] [] M (nPV fun M1 => Sf 2 ac M0 M1)) := by
  have hd : (2 : Int) = 2 ∨ (2 : Int) = 3 := by decide
  have hac := hS.2.2.2.2
  intro nn
  induction nn with
  | zero => refine ⟨?_, ?_⟩ <;> (intros; omega)
  | succ nn ih =>
    refine ⟨?_, ?_⟩
    · intro x8 M hS k8 hnn
      refine n_aload_n c_163_145 rfl (n_getR c_163_146 sc_112.n rfl rfl rfl r_112_17 (n_iload c_163_149 rfl (n_iload c_163_151 rfl (n_iconst c_163_153 (n_iadd c_163_154 rfl (n_iastoreV hS c_163_155 sc_125.n rfl (by omega) (w_125 (by omega) (by omega)) ?_))))))
      intro M1 eM1 hS1
      refine n_fg (le_n (le_n (le_n (le_n (le_n (le_n (le_n (le_n (le_n (le_n (le_n le_0))))))))))) ?_
      exact ih.2  M1 hS1  (by omega)
    · intro M hS hnn
      exact n_rV c_163_156 rfl hS
set_option maxHeartbeats 4000000 in
theorem mjoined2_2 {xs : List Int32} {e : Nat} {ac : Int} {M0 M : nM} {a x y w s : Int} (hS : Sf 2 ac M0 M) (hdm : M0 112 0 = 2) (ha : 0 ≤ a ∧ a ≤ 7) (hx : 0 ≤ x ∧ x ≤ 256) (hy : 0 ≤ y ∧ y ≤ 256) (hw : 0 ≤ w ∧ w ≤ 256) (hs : 0 ≤ s ∧ s ≤ 1000000) : nW xs e 163 0 [some (2, 112), some (0, a), some (0, 2), some (0, x), some (0, y), some (0, w), some (0, s), none, none, none, none] [] M (nPV fun M1 => Sf 2 ac M0 M1) := by
  have hd : (2 : Int) = 2 ∨ (2 : Int) = 3 := by decide
  have hac := hS.2.2.2.2
  refine n_aload_n c_163_0 rfl (n_getR c_163_1 sc_112.n rfl rfl rfl r_112_5 (n_iload_n c_163_4 rfl (n_ialoadV c_163_5 sc_116.n rfl rfl rfl (by omega) (t_116 hS (by omega)) ?_)))
  intro z1 ez1 f2
  refine n_istore (L2 := [some (2, 112), some (0, a), some (0, 2), some (0, x), some (0, y), some (0, w), some (0, s), some (0, z1), none, none, none]) c_163_6 rfl rfl (n_iconst c_163_8 (n_istore (L2 := [some (2, 112), some (0, a), some (0, 2), some (0, x), some (0, y), some (0, w), some (0, s), some (0, z1), some (0, 0), none, none]) c_163_9 rfl rfl (n_iload_n c_163_11 rfl (n_iconst c_163_12 (n_isub c_163_13 rfl (n_istore (L2 := [some (2, 112), some (0, a), some (0, 2), some (0, x), some (0, y), some (0, w), some (0, s), some (0, z1), some (0, 0), some (0, (2 - 1)), none]) c_163_14 rfl rfl (n_iload c_163_16 rfl ?_)))))))
  refine n_if0_lt c_163_18 (by omega) ?_ ?_
  · intro h3
    exfalso; omega
  · intro h4
    refine n_aload_n c_163_21 rfl (n_getR c_163_22 sc_112.n rfl rfl rfl r_112_18 (n_bipush c_163_25 rfl (n_iload_n c_163_27 rfl (n_imul c_163_28 rfl (n_iload c_163_29 rfl (n_iadd c_163_31 rfl (n_ialoadV c_163_32 sc_126.n rfl rfl rfl (by omega) (t_126 hS (by omega)) ?_)))))))
    intro z5 ez5 f6
    refine n_istore (L2 := [some (2, 112), some (0, a), some (0, 2), some (0, x), some (0, y), some (0, w), some (0, s), some (0, z1), some (0, 0), some (0, (2 - 1)), some (0, z5)]) c_163_33 rfl rfl (n_iload c_163_35 rfl (n_iconst c_163_37 ?_))
    refine n_if2_le c_163_38 (by omega) (by omega) ?_ ?_
    · intro h7
      refine n_iload c_163_64 rfl (n_iconst c_163_66 ?_)
      refine n_if2_le c_163_67 (by omega) (by omega) ?_ ?_
      · intro h8
        refine n_iload c_163_93 rfl (n_aload_n c_163_95 rfl (n_getV (bi := 0) c_163_96 sc_112.n rfl rfl rfl (t_dm hS hdm) ?_))
        intro z9 ez9 f10
        obtain rfl : z9 = 2 := by omega
        refine n_imul c_163_99 rfl (n_aload_n c_163_100 rfl (n_getR c_163_101 sc_112.n rfl rfl rfl r_112_6 (n_bipush c_163_104 rfl (n_iload_n c_163_106 rfl (n_imul c_163_107 rfl (n_iload c_163_108 rfl (n_iadd c_163_110 rfl (n_ialoadV c_163_111 sc_117.n rfl rfl rfl (by omega) (t_117 hS (by omega)) ?_))))))))
        intro z11 ez11 f12
        refine n_iadd c_163_112 rfl (n_istore (L2 := [some (2, 112), some (0, a), some (0, 2), some (0, x), some (0, y), some (0, w), some (0, s), some (0, z1), some (0, ((0 * 2) + z11)), some (0, (2 - 1)), some (0, z5)]) c_163_113 rfl rfl (n_iinc (L2 := [some (2, 112), some (0, a), some (0, 2), some (0, x), some (0, y), some (0, w), some (0, s), some (0, z1), some (0, ((0 * 2) + z11)), some (0, ((2 - 1) + (-1))), some (0, z5)]) c_163_115 rfl rfl rfl (n_goto c_163_118 (n_iload c_163_16 rfl ?_))))
        refine n_if0_lt c_163_18 (by omega) ?_ ?_
        · intro h13
          exfalso; omega
        · intro h14
          refine n_aload_n c_163_21 rfl (n_getR c_163_22 sc_112.n rfl rfl rfl r_112_18 (n_bipush c_163_25 rfl (n_iload_n c_163_27 rfl (n_imul c_163_28 rfl (n_iload c_163_29 rfl (n_iadd c_163_31 rfl (n_ialoadV c_163_32 sc_126.n rfl rfl rfl (by omega) (t_126 hS (by omega)) ?_)))))))
          intro z15 ez15 f16
          refine n_istore (L2 := [some (2, 112), some (0, a), some (0, 2), some (0, x), some (0, y), some (0, w), some (0, s), some (0, z1), some (0, ((0 * 2) + z11)), some (0, ((2 - 1) + (-1))), some (0, z15)]) c_163_33 rfl rfl (n_iload c_163_35 rfl (n_iconst c_163_37 ?_))
          refine n_if2_le c_163_38 (by omega) (by omega) ?_ ?_
          · intro h17
            refine n_iload c_163_64 rfl (n_iconst c_163_66 ?_)
            refine n_if2_le c_163_67 (by omega) (by omega) ?_ ?_
            · intro h18
              refine n_iload c_163_93 rfl (n_aload_n c_163_95 rfl (n_getV (bi := 0) c_163_96 sc_112.n rfl rfl rfl (t_dm hS hdm) ?_))
              intro z19 ez19 f20
              obtain rfl : z19 = 2 := by omega
              refine n_imul c_163_99 rfl (n_aload_n c_163_100 rfl (n_getR c_163_101 sc_112.n rfl rfl rfl r_112_6 (n_bipush c_163_104 rfl (n_iload_n c_163_106 rfl (n_imul c_163_107 rfl (n_iload c_163_108 rfl (n_iadd c_163_110 rfl (n_ialoadV c_163_111 sc_117.n rfl rfl rfl (by omega) (t_117 hS (by omega)) ?_))))))))
              intro z21 ez21 f22
              refine n_iadd c_163_112 rfl (n_istore (L2 := [some (2, 112), some (0, a), some (0, 2), some (0, x), some (0, y), some (0, w), some (0, s), some (0, z1), some (0, ((((0 * 2) + z11) * 2) + z21)), some (0, ((2 - 1) + (-1))), some (0, z15)]) c_163_113 rfl rfl (n_iinc (L2 := [some (2, 112), some (0, a), some (0, 2), some (0, x), some (0, y), some (0, w), some (0, s), some (0, z1), some (0, ((((0 * 2) + z11) * 2) + z21)), some (0, (((2 - 1) + (-1)) + (-1))), some (0, z15)]) c_163_115 rfl rfl rfl (n_goto c_163_118 (n_iload c_163_16 rfl ?_))))
              refine n_if0_lt c_163_18 (by omega) ?_ ?_
              · intro h23
                refine n_aload_n c_163_121 rfl (n_getR c_163_122 sc_112.n rfl rfl rfl r_112_17 (n_iload c_163_125 rfl (n_ialoadV c_163_127 sc_125.n rfl rfl rfl (by omega) (t_125 hS (by omega)) ?_)))
                intro z24 ez24 f25
                refine n_if0_eq c_163_128 (by omega) ?_ ?_
                · intro h26
                  refine n_fg (le_s (le_n (le_n (le_n (le_n (le_n (le_s (le_n (le_s (le_n (le_n le_0))))))))))) ?_
                  exact (mjoined2_2_c hS hdm ha hx hy hw hs 14).1 _ M hS (by omega) (by omega)
                · intro h27
                  refine n_aload_n c_163_131 rfl (n_getR c_163_132 sc_112.n rfl rfl rfl r_112_17 (n_iload c_163_135 rfl (n_ialoadV c_163_137 sc_125.n rfl rfl rfl (by omega) (t_125 hS (by omega)) ?_)))
                  intro z28 ez28 f29
                  refine n_iload c_163_138 rfl (n_iconst c_163_140 (n_iadd c_163_141 rfl ?_))
                  refine n_if2_le c_163_142 (by omega) (by omega) ?_ ?_
                  · intro h30
                    refine n_fg (le_n (le_n (le_n (le_n (le_n (le_n (le_n (le_n (le_n (le_n (le_n le_0))))))))))) ?_
                    exact (mjoined2_2_c hS hdm ha hx hy hw hs 14).2  M hS  (by omega)
                  · intro h31
                    refine n_fg (le_s (le_n (le_n (le_n (le_n (le_n (le_s (le_n (le_s (le_n (le_n le_0))))))))))) ?_
                    exact (mjoined2_2_c hS hdm ha hx hy hw hs 14).1 _ M hS (by omega) (by omega)
              · intro h32
                exfalso; omega
            · intro h33
              exfalso; omega
          · intro h34
            exfalso; omega
      · intro h35
        exfalso; omega
    · intro h36
      refine n_iload c_163_41 rfl (n_aload_n c_163_43 rfl (n_getV (bi := 0) c_163_44 sc_112.n rfl rfl rfl (t_dm hS hdm) ?_))
      intro z37 ez37 f38
      obtain rfl : z37 = 2 := by omega
      refine n_imul c_163_47 rfl (n_aload_n c_163_48 rfl (n_getR c_163_49 sc_112.n rfl rfl rfl r_112_18 (n_bipush c_163_52 rfl (n_iload c_163_54 rfl (n_imul c_163_56 rfl (n_iload c_163_57 rfl (n_iadd c_163_59 rfl (n_ialoadV c_163_60 sc_126.n rfl rfl rfl (by omega) (t_126 hS (by omega)) ?_))))))))
      intro z39 ez39 f40
      refine n_iadd c_163_61 rfl (n_istore (L2 := [some (2, 112), some (0, a), some (0, 2), some (0, x), some (0, y), some (0, w), some (0, s), some (0, z1), some (0, 0), some (0, (2 - 1)), some (0, ((z5 * 2) + z39))]) c_163_62 rfl rfl (n_iload c_163_64 rfl (n_iconst c_163_66 ?_)))
      refine n_if2_le c_163_67 (by omega) (by omega) ?_ ?_
      · intro h41
        refine n_iload c_163_93 rfl (n_aload_n c_163_95 rfl (n_getV (bi := 0) c_163_96 sc_112.n rfl rfl rfl (t_dm hS hdm) ?_))
        intro z42 ez42 f43
        obtain rfl : z42 = 2 := by omega
        refine n_imul c_163_99 rfl (n_aload_n c_163_100 rfl (n_getR c_163_101 sc_112.n rfl rfl rfl r_112_6 (n_bipush c_163_104 rfl (n_iload_n c_163_106 rfl (n_imul c_163_107 rfl (n_iload c_163_108 rfl (n_iadd c_163_110 rfl (n_ialoadV c_163_111 sc_117.n rfl rfl rfl (by omega) (t_117 hS (by omega)) ?_))))))))
        intro z44 ez44 f45
        refine n_iadd c_163_112 rfl (n_istore (L2 := [some (2, 112), some (0, a), some (0, 2), some (0, x), some (0, y), some (0, w), some (0, s), some (0, z1), some (0, ((0 * 2) + z44)), some (0, (2 - 1)), some (0, ((z5 * 2) + z39))]) c_163_113 rfl rfl (n_iinc (L2 := [some (2, 112), some (0, a), some (0, 2), some (0, x), some (0, y), some (0, w), some (0, s), some (0, z1), some (0, ((0 * 2) + z44)), some (0, ((2 - 1) + (-1))), some (0, ((z5 * 2) + z39))]) c_163_115 rfl rfl rfl (n_goto c_163_118 (n_iload c_163_16 rfl ?_))))
        refine n_if0_lt c_163_18 (by omega) ?_ ?_
        · intro h46
          exfalso; omega
        · intro h47
          refine n_aload_n c_163_21 rfl (n_getR c_163_22 sc_112.n rfl rfl rfl r_112_18 (n_bipush c_163_25 rfl (n_iload_n c_163_27 rfl (n_imul c_163_28 rfl (n_iload c_163_29 rfl (n_iadd c_163_31 rfl (n_ialoadV c_163_32 sc_126.n rfl rfl rfl (by omega) (t_126 hS (by omega)) ?_)))))))
          intro z48 ez48 f49
          refine n_istore (L2 := [some (2, 112), some (0, a), some (0, 2), some (0, x), some (0, y), some (0, w), some (0, s), some (0, z1), some (0, ((0 * 2) + z44)), some (0, ((2 - 1) + (-1))), some (0, z48)]) c_163_33 rfl rfl (n_iload c_163_35 rfl (n_iconst c_163_37 ?_))
          refine n_if2_le c_163_38 (by omega) (by omega) ?_ ?_
          · intro h50
            exfalso; omega
          · intro h51
            refine n_iload c_163_41 rfl (n_aload_n c_163_43 rfl (n_getV (bi := 0) c_163_44 sc_112.n rfl rfl rfl (t_dm hS hdm) ?_))
            intro z52 ez52 f53
            obtain rfl : z52 = 2 := by omega
            refine n_imul c_163_47 rfl (n_aload_n c_163_48 rfl (n_getR c_163_49 sc_112.n rfl rfl rfl r_112_18 (n_bipush c_163_52 rfl (n_iload c_163_54 rfl (n_imul c_163_56 rfl (n_iload c_163_57 rfl (n_iadd c_163_59 rfl (n_ialoadV c_163_60 sc_126.n rfl rfl rfl (by omega) (t_126 hS (by omega)) ?_))))))))
            intro z54 ez54 f55
            refine n_iadd c_163_61 rfl (n_istore (L2 := [some (2, 112), some (0, a), some (0, 2), some (0, x), some (0, y), some (0, w), some (0, s), some (0, z1), some (0, ((0 * 2) + z44)), some (0, ((2 - 1) + (-1))), some (0, ((z48 * 2) + z54))]) c_163_62 rfl rfl (n_iload c_163_64 rfl (n_iconst c_163_66 ?_)))
            refine n_if2_le c_163_67 (by omega) (by omega) ?_ ?_
            · intro h56
              refine n_iload c_163_93 rfl (n_aload_n c_163_95 rfl (n_getV (bi := 0) c_163_96 sc_112.n rfl rfl rfl (t_dm hS hdm) ?_))
              intro z57 ez57 f58
              obtain rfl : z57 = 2 := by omega
              refine n_imul c_163_99 rfl (n_aload_n c_163_100 rfl (n_getR c_163_101 sc_112.n rfl rfl rfl r_112_6 (n_bipush c_163_104 rfl (n_iload_n c_163_106 rfl (n_imul c_163_107 rfl (n_iload c_163_108 rfl (n_iadd c_163_110 rfl (n_ialoadV c_163_111 sc_117.n rfl rfl rfl (by omega) (t_117 hS (by omega)) ?_))))))))
              intro z59 ez59 f60
              refine n_iadd c_163_112 rfl (n_istore (L2 := [some (2, 112), some (0, a), some (0, 2), some (0, x), some (0, y), some (0, w), some (0, s), some (0, z1), some (0, ((((0 * 2) + z44) * 2) + z59)), some (0, ((2 - 1) + (-1))), some (0, ((z48 * 2) + z54))]) c_163_113 rfl rfl (n_iinc (L2 := [some (2, 112), some (0, a), some (0, 2), some (0, x), some (0, y), some (0, w), some (0, s), some (0, z1), some (0, ((((0 * 2) + z44) * 2) + z59)), some (0, (((2 - 1) + (-1)) + (-1))), some (0, ((z48 * 2) + z54))]) c_163_115 rfl rfl rfl (n_goto c_163_118 (n_iload c_163_16 rfl ?_))))
              refine n_if0_lt c_163_18 (by omega) ?_ ?_
              · intro h61
                refine n_aload_n c_163_121 rfl (n_getR c_163_122 sc_112.n rfl rfl rfl r_112_17 (n_iload c_163_125 rfl (n_ialoadV c_163_127 sc_125.n rfl rfl rfl (by omega) (t_125 hS (by omega)) ?_)))
                intro z62 ez62 f63
                refine n_if0_eq c_163_128 (by omega) ?_ ?_
                · intro h64
                  refine n_fg (le_s (le_n (le_n (le_n (le_n (le_n (le_s (le_n (le_s (le_n (le_n le_0))))))))))) ?_
                  exact (mjoined2_2_c hS hdm ha hx hy hw hs 14).1 _ M hS (by omega) (by omega)
                · intro h65
                  refine n_aload_n c_163_131 rfl (n_getR c_163_132 sc_112.n rfl rfl rfl r_112_17 (n_iload c_163_135 rfl (n_ialoadV c_163_137 sc_125.n rfl rfl rfl (by omega) (t_125 hS (by omega)) ?_)))
                  intro z66 ez66 f67
                  refine n_iload c_163_138 rfl (n_iconst c_163_140 (n_iadd c_163_141 rfl ?_))
                  refine n_if2_le c_163_142 (by omega) (by omega) ?_ ?_
                  · intro h68
                    refine n_fg (le_n (le_n (le_n (le_n (le_n (le_n (le_n (le_n (le_n (le_n (le_n le_0))))))))))) ?_
                    exact (mjoined2_2_c hS hdm ha hx hy hw hs 14).2  M hS  (by omega)
                  · intro h69
                    refine n_fg (le_s (le_n (le_n (le_n (le_n (le_n (le_s (le_n (le_s (le_n (le_n le_0))))))))))) ?_
                    exact (mjoined2_2_c hS hdm ha hx hy hw hs 14).1 _ M hS (by omega) (by omega)
              · intro h70
                exfalso; omega
            · intro h71
              exfalso; omega
      · intro h72
        refine n_iload c_163_70 rfl (n_aload_n c_163_72 rfl (n_getV (bi := 0) c_163_73 sc_112.n rfl rfl rfl (t_dm hS hdm) ?_))
        intro z73 ez73 f74
        obtain rfl : z73 = 2 := by omega
        refine n_imul c_163_76 rfl (n_aload_n c_163_77 rfl (n_getR c_163_78 sc_112.n rfl rfl rfl r_112_18 (n_bipush c_163_81 rfl (n_iload c_163_83 rfl (n_imul c_163_85 rfl (n_iload c_163_86 rfl (n_iadd c_163_88 rfl (n_ialoadV c_163_89 sc_126.n rfl rfl rfl (by omega) (t_126 hS (by omega)) ?_))))))))
        intro z75 ez75 f76
        refine n_iadd c_163_90 rfl (n_istore (L2 := [some (2, 112), some (0, a), some (0, 2), some (0, x), some (0, y), some (0, w), some (0, s), some (0, z1), some (0, 0), some (0, (2 - 1)), some (0, ((((z5 * 2) + z39) * 2) + z75))]) c_163_91 rfl rfl (n_iload c_163_93 rfl (n_aload_n c_163_95 rfl (n_getV (bi := 0) c_163_96 sc_112.n rfl rfl rfl (t_dm hS hdm) ?_))))
        intro z77 ez77 f78
        obtain rfl : z77 = 2 := by omega
        refine n_imul c_163_99 rfl (n_aload_n c_163_100 rfl (n_getR c_163_101 sc_112.n rfl rfl rfl r_112_6 (n_bipush c_163_104 rfl (n_iload_n c_163_106 rfl (n_imul c_163_107 rfl (n_iload c_163_108 rfl (n_iadd c_163_110 rfl (n_ialoadV c_163_111 sc_117.n rfl rfl rfl (by omega) (t_117 hS (by omega)) ?_))))))))
        intro z79 ez79 f80
        refine n_iadd c_163_112 rfl (n_istore (L2 := [some (2, 112), some (0, a), some (0, 2), some (0, x), some (0, y), some (0, w), some (0, s), some (0, z1), some (0, ((0 * 2) + z79)), some (0, (2 - 1)), some (0, ((((z5 * 2) + z39) * 2) + z75))]) c_163_113 rfl rfl (n_iinc (L2 := [some (2, 112), some (0, a), some (0, 2), some (0, x), some (0, y), some (0, w), some (0, s), some (0, z1), some (0, ((0 * 2) + z79)), some (0, ((2 - 1) + (-1))), some (0, ((((z5 * 2) + z39) * 2) + z75))]) c_163_115 rfl rfl rfl (n_goto c_163_118 (n_iload c_163_16 rfl ?_))))
        refine n_if0_lt c_163_18 (by omega) ?_ ?_
        · intro h81
          exfalso; omega
        · intro h82
          refine n_aload_n c_163_21 rfl (n_getR c_163_22 sc_112.n rfl rfl rfl r_112_18 (n_bipush c_163_25 rfl (n_iload_n c_163_27 rfl (n_imul c_163_28 rfl (n_iload c_163_29 rfl (n_iadd c_163_31 rfl (n_ialoadV c_163_32 sc_126.n rfl rfl rfl (by omega) (t_126 hS (by omega)) ?_)))))))
          intro z83 ez83 f84
          refine n_istore (L2 := [some (2, 112), some (0, a), some (0, 2), some (0, x), some (0, y), some (0, w), some (0, s), some (0, z1), some (0, ((0 * 2) + z79)), some (0, ((2 - 1) + (-1))), some (0, z83)]) c_163_33 rfl rfl (n_iload c_163_35 rfl (n_iconst c_163_37 ?_))
          refine n_if2_le c_163_38 (by omega) (by omega) ?_ ?_
          · intro h85
            exfalso; omega
          · intro h86
            refine n_iload c_163_41 rfl (n_aload_n c_163_43 rfl (n_getV (bi := 0) c_163_44 sc_112.n rfl rfl rfl (t_dm hS hdm) ?_))
            intro z87 ez87 f88
            obtain rfl : z87 = 2 := by omega
            refine n_imul c_163_47 rfl (n_aload_n c_163_48 rfl (n_getR c_163_49 sc_112.n rfl rfl rfl r_112_18 (n_bipush c_163_52 rfl (n_iload c_163_54 rfl (n_imul c_163_56 rfl (n_iload c_163_57 rfl (n_iadd c_163_59 rfl (n_ialoadV c_163_60 sc_126.n rfl rfl rfl (by omega) (t_126 hS (by omega)) ?_))))))))
            intro z89 ez89 f90
            refine n_iadd c_163_61 rfl (n_istore (L2 := [some (2, 112), some (0, a), some (0, 2), some (0, x), some (0, y), some (0, w), some (0, s), some (0, z1), some (0, ((0 * 2) + z79)), some (0, ((2 - 1) + (-1))), some (0, ((z83 * 2) + z89))]) c_163_62 rfl rfl (n_iload c_163_64 rfl (n_iconst c_163_66 ?_)))
            refine n_if2_le c_163_67 (by omega) (by omega) ?_ ?_
            · intro h91
              exfalso; omega
            · intro h92
              refine n_iload c_163_70 rfl (n_aload_n c_163_72 rfl (n_getV (bi := 0) c_163_73 sc_112.n rfl rfl rfl (t_dm hS hdm) ?_))
              intro z93 ez93 f94
              obtain rfl : z93 = 2 := by omega
              refine n_imul c_163_76 rfl (n_aload_n c_163_77 rfl (n_getR c_163_78 sc_112.n rfl rfl rfl r_112_18 (n_bipush c_163_81 rfl (n_iload c_163_83 rfl (n_imul c_163_85 rfl (n_iload c_163_86 rfl (n_iadd c_163_88 rfl (n_ialoadV c_163_89 sc_126.n rfl rfl rfl (by omega) (t_126 hS (by omega)) ?_))))))))
              intro z95 ez95 f96
              refine n_iadd c_163_90 rfl (n_istore (L2 := [some (2, 112), some (0, a), some (0, 2), some (0, x), some (0, y), some (0, w), some (0, s), some (0, z1), some (0, ((0 * 2) + z79)), some (0, ((2 - 1) + (-1))), some (0, ((((z83 * 2) + z89) * 2) + z95))]) c_163_91 rfl rfl (n_iload c_163_93 rfl (n_aload_n c_163_95 rfl (n_getV (bi := 0) c_163_96 sc_112.n rfl rfl rfl (t_dm hS hdm) ?_))))
              intro z97 ez97 f98
              obtain rfl : z97 = 2 := by omega
              refine n_imul c_163_99 rfl (n_aload_n c_163_100 rfl (n_getR c_163_101 sc_112.n rfl rfl rfl r_112_6 (n_bipush c_163_104 rfl (n_iload_n c_163_106 rfl (n_imul c_163_107 rfl (n_iload c_163_108 rfl (n_iadd c_163_110 rfl (n_ialoadV c_163_111 sc_117.n rfl rfl rfl (by omega) (t_117 hS (by omega)) ?_))))))))
              intro z99 ez99 f100
              refine n_iadd c_163_112 rfl (n_istore (L2 := [some (2, 112), some (0, a), some (0, 2), some (0, x), some (0, y), some (0, w), some (0, s), some (0, z1), some (0, ((((0 * 2) + z79) * 2) + z99)), some (0, ((2 - 1) + (-1))), some (0, ((((z83 * 2) + z89) * 2) + z95))]) c_163_113 rfl rfl (n_iinc (L2 := [some (2, 112), some (0, a), some (0, 2), some (0, x), some (0, y), some (0, w), some (0, s), some (0, z1), some (0, ((((0 * 2) + z79) * 2) + z99)), some (0, (((2 - 1) + (-1)) + (-1))), some (0, ((((z83 * 2) + z89) * 2) + z95))]) c_163_115 rfl rfl rfl (n_goto c_163_118 (n_iload c_163_16 rfl ?_))))
              refine n_if0_lt c_163_18 (by omega) ?_ ?_
              · intro h101
                refine n_aload_n c_163_121 rfl (n_getR c_163_122 sc_112.n rfl rfl rfl r_112_17 (n_iload c_163_125 rfl (n_ialoadV c_163_127 sc_125.n rfl rfl rfl (by omega) (t_125 hS (by omega)) ?_)))
                intro z102 ez102 f103
                refine n_if0_eq c_163_128 (by omega) ?_ ?_
                · intro h104
                  refine n_fg (le_s (le_n (le_n (le_n (le_n (le_n (le_s (le_n (le_s (le_n (le_n le_0))))))))))) ?_
                  exact (mjoined2_2_c hS hdm ha hx hy hw hs 14).1 _ M hS (by omega) (by omega)
                · intro h105
                  refine n_aload_n c_163_131 rfl (n_getR c_163_132 sc_112.n rfl rfl rfl r_112_17 (n_iload c_163_135 rfl (n_ialoadV c_163_137 sc_125.n rfl rfl rfl (by omega) (t_125 hS (by omega)) ?_)))
                  intro z106 ez106 f107
                  refine n_iload c_163_138 rfl (n_iconst c_163_140 (n_iadd c_163_141 rfl ?_))
                  refine n_if2_le c_163_142 (by omega) (by omega) ?_ ?_
                  · intro h108
                    refine n_fg (le_n (le_n (le_n (le_n (le_n (le_n (le_n (le_n (le_n (le_n (le_n le_0))))))))))) ?_
                    exact (mjoined2_2_c hS hdm ha hx hy hw hs 14).2  M hS  (by omega)
                  · intro h109
                    refine n_fg (le_s (le_n (le_n (le_n (le_n (le_n (le_s (le_n (le_s (le_n (le_n le_0))))))))))) ?_
                    exact (mjoined2_2_c hS hdm ha hx hy hw hs 14).1 _ M hS (by omega) (by omega)
              · intro h110
                exfalso; omega

/-! The methods, by program. -/
set_option maxHeartbeats 4000000 in
theorem mjoined4_2_c {xs : List Int32} {e : Nat} {ac : Int} {M0 M : nM} {a x y w s : Int} (hS : Sf 2 ac M0 M) (hdm : M0 112 0 = 2) (ha : 0 ≤ a ∧ a ≤ 7) (hx : 0 ≤ x ∧ x ≤ 256) (hy : 0 ≤ y ∧ y ≤ 256) (hw : 0 ≤ w ∧ w ≤ 256) (hs : 0 ≤ s ∧ s ≤ 1000000) : ∀ nn : Nat, (∀ (x8 : Int) (M : nM), Sf 2 ac M0 M → (0 ≤ x8 ∧ x8 ≤ 30) → 2 < (nn : Int) → nW xs e 163 145 [some (2, 112), none, none, none, none, none, some (0, s), none, some (0, x8), none, none] [] M (nPV fun M1 => Sf 2 ac M0 M1)) ∧ (∀ (M : nM), Sf 2 ac M0 M → 1 < (nn : Int) → nW xs e 163 156 [none, none, none, none, none, none, none, none, none, none, none] [] M (nPV fun M1 => Sf 2 ac M0 M1)) := by
  have hd : (2 : Int) = 2 ∨ (2 : Int) = 3 := by decide
  have hac := hS.2.2.2.2
  intro nn
  induction nn with
  | zero => refine ⟨?_, ?_⟩ <;> (intros; omega)
  | succ nn ih =>
    refine ⟨?_, ?_⟩
    · intro x8 M hS k8 hnn
      refine n_aload_n c_163_145 rfl (n_getR c_163_146 sc_112.n rfl rfl rfl r_112_17 (n_iload c_163_149 rfl (n_iload c_163_151 rfl (n_iconst c_163_153 (n_iadd c_163_154 rfl (n_iastoreV hS c_163_155 sc_125.n rfl (by omega) (w_125 (by omega) (by omega)) ?_))))))
      intro M1 eM1 hS1
      refine n_fg (le_n (le_n (le_n (le_n (le_n (le_n (le_n (le_n (le_n (le_n (le_n le_0))))))))))) ?_
      exact ih.2  M1 hS1  (by omega)
    · intro M hS hnn
      exact n_rV c_163_156 rfl hS
set_option maxHeartbeats 4000000 in
theorem mjoined4_2 {xs : List Int32} {e : Nat} {ac : Int} {M0 M : nM} {a x y w s : Int} (hS : Sf 2 ac M0 M) (hdm : M0 112 0 = 2) (ha : 0 ≤ a ∧ a ≤ 7) (hx : 0 ≤ x ∧ x ≤ 256) (hy : 0 ≤ y ∧ y ≤ 256) (hw : 0 ≤ w ∧ w ≤ 256) (hs : 0 ≤ s ∧ s ≤ 1000000) : nW xs e 163 0 [some (2, 112), some (0, a), some (0, 4), some (0, x), some (0, y), some (0, w), some (0, s), none, none, none, none] [] M (nPV fun M1 => Sf 2 ac M0 M1) := by
  have hd : (2 : Int) = 2 ∨ (2 : Int) = 3 := by decide
  have hac := hS.2.2.2.2
  refine n_aload_n c_163_0 rfl (n_getR c_163_1 sc_112.n rfl rfl rfl r_112_5 (n_iload_n c_163_4 rfl (n_ialoadV c_163_5 sc_116.n rfl rfl rfl (by omega) (t_116 hS (by omega)) ?_)))
  intro z1 ez1 f2
  refine n_istore (L2 := [some (2, 112), some (0, a), some (0, 4), some (0, x), some (0, y), some (0, w), some (0, s), some (0, z1), none, none, none]) c_163_6 rfl rfl (n_iconst c_163_8 (n_istore (L2 := [some (2, 112), some (0, a), some (0, 4), some (0, x), some (0, y), some (0, w), some (0, s), some (0, z1), some (0, 0), none, none]) c_163_9 rfl rfl (n_iload_n c_163_11 rfl (n_iconst c_163_12 (n_isub c_163_13 rfl (n_istore (L2 := [some (2, 112), some (0, a), some (0, 4), some (0, x), some (0, y), some (0, w), some (0, s), some (0, z1), some (0, 0), some (0, (4 - 1)), none]) c_163_14 rfl rfl (n_iload c_163_16 rfl ?_)))))))
  refine n_if0_lt c_163_18 (by omega) ?_ ?_
  · intro h3
    exfalso; omega
  · intro h4
    refine n_aload_n c_163_21 rfl (n_getR c_163_22 sc_112.n rfl rfl rfl r_112_18 (n_bipush c_163_25 rfl (n_iload_n c_163_27 rfl (n_imul c_163_28 rfl (n_iload c_163_29 rfl (n_iadd c_163_31 rfl (n_ialoadV c_163_32 sc_126.n rfl rfl rfl (by omega) (t_126 hS (by omega)) ?_)))))))
    intro z5 ez5 f6
    refine n_istore (L2 := [some (2, 112), some (0, a), some (0, 4), some (0, x), some (0, y), some (0, w), some (0, s), some (0, z1), some (0, 0), some (0, (4 - 1)), some (0, z5)]) c_163_33 rfl rfl (n_iload c_163_35 rfl (n_iconst c_163_37 ?_))
    refine n_if2_le c_163_38 (by omega) (by omega) ?_ ?_
    · intro h7
      refine n_iload c_163_64 rfl (n_iconst c_163_66 ?_)
      refine n_if2_le c_163_67 (by omega) (by omega) ?_ ?_
      · intro h8
        refine n_iload c_163_93 rfl (n_aload_n c_163_95 rfl (n_getV (bi := 0) c_163_96 sc_112.n rfl rfl rfl (t_dm hS hdm) ?_))
        intro z9 ez9 f10
        obtain rfl : z9 = 2 := by omega
        refine n_imul c_163_99 rfl (n_aload_n c_163_100 rfl (n_getR c_163_101 sc_112.n rfl rfl rfl r_112_6 (n_bipush c_163_104 rfl (n_iload_n c_163_106 rfl (n_imul c_163_107 rfl (n_iload c_163_108 rfl (n_iadd c_163_110 rfl (n_ialoadV c_163_111 sc_117.n rfl rfl rfl (by omega) (t_117 hS (by omega)) ?_))))))))
        intro z11 ez11 f12
        refine n_iadd c_163_112 rfl (n_istore (L2 := [some (2, 112), some (0, a), some (0, 4), some (0, x), some (0, y), some (0, w), some (0, s), some (0, z1), some (0, ((0 * 2) + z11)), some (0, (4 - 1)), some (0, z5)]) c_163_113 rfl rfl (n_iinc (L2 := [some (2, 112), some (0, a), some (0, 4), some (0, x), some (0, y), some (0, w), some (0, s), some (0, z1), some (0, ((0 * 2) + z11)), some (0, ((4 - 1) + (-1))), some (0, z5)]) c_163_115 rfl rfl rfl (n_goto c_163_118 (n_iload c_163_16 rfl ?_))))
        refine n_if0_lt c_163_18 (by omega) ?_ ?_
        · intro h13
          exfalso; omega
        · intro h14
          refine n_aload_n c_163_21 rfl (n_getR c_163_22 sc_112.n rfl rfl rfl r_112_18 (n_bipush c_163_25 rfl (n_iload_n c_163_27 rfl (n_imul c_163_28 rfl (n_iload c_163_29 rfl (n_iadd c_163_31 rfl (n_ialoadV c_163_32 sc_126.n rfl rfl rfl (by omega) (t_126 hS (by omega)) ?_)))))))
          intro z15 ez15 f16
          refine n_istore (L2 := [some (2, 112), some (0, a), some (0, 4), some (0, x), some (0, y), some (0, w), some (0, s), some (0, z1), some (0, ((0 * 2) + z11)), some (0, ((4 - 1) + (-1))), some (0, z15)]) c_163_33 rfl rfl (n_iload c_163_35 rfl (n_iconst c_163_37 ?_))
          refine n_if2_le c_163_38 (by omega) (by omega) ?_ ?_
          · intro h17
            refine n_iload c_163_64 rfl (n_iconst c_163_66 ?_)
            refine n_if2_le c_163_67 (by omega) (by omega) ?_ ?_
            · intro h18
              refine n_iload c_163_93 rfl (n_aload_n c_163_95 rfl (n_getV (bi := 0) c_163_96 sc_112.n rfl rfl rfl (t_dm hS hdm) ?_))
              intro z19 ez19 f20
              obtain rfl : z19 = 2 := by omega
              refine n_imul c_163_99 rfl (n_aload_n c_163_100 rfl (n_getR c_163_101 sc_112.n rfl rfl rfl r_112_6 (n_bipush c_163_104 rfl (n_iload_n c_163_106 rfl (n_imul c_163_107 rfl (n_iload c_163_108 rfl (n_iadd c_163_110 rfl (n_ialoadV c_163_111 sc_117.n rfl rfl rfl (by omega) (t_117 hS (by omega)) ?_))))))))
              intro z21 ez21 f22
              refine n_iadd c_163_112 rfl (n_istore (L2 := [some (2, 112), some (0, a), some (0, 4), some (0, x), some (0, y), some (0, w), some (0, s), some (0, z1), some (0, ((((0 * 2) + z11) * 2) + z21)), some (0, ((4 - 1) + (-1))), some (0, z15)]) c_163_113 rfl rfl (n_iinc (L2 := [some (2, 112), some (0, a), some (0, 4), some (0, x), some (0, y), some (0, w), some (0, s), some (0, z1), some (0, ((((0 * 2) + z11) * 2) + z21)), some (0, (((4 - 1) + (-1)) + (-1))), some (0, z15)]) c_163_115 rfl rfl rfl (n_goto c_163_118 (n_iload c_163_16 rfl ?_))))
              refine n_if0_lt c_163_18 (by omega) ?_ ?_
              · intro h23
                exfalso; omega
              · intro h24
                refine n_aload_n c_163_21 rfl (n_getR c_163_22 sc_112.n rfl rfl rfl r_112_18 (n_bipush c_163_25 rfl (n_iload_n c_163_27 rfl (n_imul c_163_28 rfl (n_iload c_163_29 rfl (n_iadd c_163_31 rfl (n_ialoadV c_163_32 sc_126.n rfl rfl rfl (by omega) (t_126 hS (by omega)) ?_)))))))
                intro z25 ez25 f26
                refine n_istore (L2 := [some (2, 112), some (0, a), some (0, 4), some (0, x), some (0, y), some (0, w), some (0, s), some (0, z1), some (0, ((((0 * 2) + z11) * 2) + z21)), some (0, (((4 - 1) + (-1)) + (-1))), some (0, z25)]) c_163_33 rfl rfl (n_iload c_163_35 rfl (n_iconst c_163_37 ?_))
                refine n_if2_le c_163_38 (by omega) (by omega) ?_ ?_
                · intro h27
                  refine n_iload c_163_64 rfl (n_iconst c_163_66 ?_)
                  refine n_if2_le c_163_67 (by omega) (by omega) ?_ ?_
                  · intro h28
                    refine n_iload c_163_93 rfl (n_aload_n c_163_95 rfl (n_getV (bi := 0) c_163_96 sc_112.n rfl rfl rfl (t_dm hS hdm) ?_))
                    intro z29 ez29 f30
                    obtain rfl : z29 = 2 := by omega
                    refine n_imul c_163_99 rfl (n_aload_n c_163_100 rfl (n_getR c_163_101 sc_112.n rfl rfl rfl r_112_6 (n_bipush c_163_104 rfl (n_iload_n c_163_106 rfl (n_imul c_163_107 rfl (n_iload c_163_108 rfl (n_iadd c_163_110 rfl (n_ialoadV c_163_111 sc_117.n rfl rfl rfl (by omega) (t_117 hS (by omega)) ?_))))))))
                    intro z31 ez31 f32
                    refine n_iadd c_163_112 rfl (n_istore (L2 := [some (2, 112), some (0, a), some (0, 4), some (0, x), some (0, y), some (0, w), some (0, s), some (0, z1), some (0, ((((((0 * 2) + z11) * 2) + z21) * 2) + z31)), some (0, (((4 - 1) + (-1)) + (-1))), some (0, z25)]) c_163_113 rfl rfl (n_iinc (L2 := [some (2, 112), some (0, a), some (0, 4), some (0, x), some (0, y), some (0, w), some (0, s), some (0, z1), some (0, ((((((0 * 2) + z11) * 2) + z21) * 2) + z31)), some (0, ((((4 - 1) + (-1)) + (-1)) + (-1))), some (0, z25)]) c_163_115 rfl rfl rfl (n_goto c_163_118 (n_iload c_163_16 rfl ?_))))
                    refine n_if0_lt c_163_18 (by omega) ?_ ?_
                    · intro h33
                      exfalso; omega
                    · intro h34
                      refine n_aload_n c_163_21 rfl (n_getR c_163_22 sc_112.n rfl rfl rfl r_112_18 (n_bipush c_163_25 rfl (n_iload_n c_163_27 rfl (n_imul c_163_28 rfl (n_iload c_163_29 rfl (n_iadd c_163_31 rfl (n_ialoadV c_163_32 sc_126.n rfl rfl rfl (by omega) (t_126 hS (by omega)) ?_)))))))
                      intro z35 ez35 f36
                      refine n_istore (L2 := [some (2, 112), some (0, a), some (0, 4), some (0, x), some (0, y), some (0, w), some (0, s), some (0, z1), some (0, ((((((0 * 2) + z11) * 2) + z21) * 2) + z31)), some (0, ((((4 - 1) + (-1)) + (-1)) + (-1))), some (0, z35)]) c_163_33 rfl rfl (n_iload c_163_35 rfl (n_iconst c_163_37 ?_))
                      refine n_if2_le c_163_38 (by omega) (by omega) ?_ ?_
                      · intro h37
                        refine n_iload c_163_64 rfl (n_iconst c_163_66 ?_)
                        refine n_if2_le c_163_67 (by omega) (by omega) ?_ ?_
                        · intro h38
                          refine n_iload c_163_93 rfl (n_aload_n c_163_95 rfl (n_getV (bi := 0) c_163_96 sc_112.n rfl rfl rfl (t_dm hS hdm) ?_))
                          intro z39 ez39 f40
                          obtain rfl : z39 = 2 := by omega
                          refine n_imul c_163_99 rfl (n_aload_n c_163_100 rfl (n_getR c_163_101 sc_112.n rfl rfl rfl r_112_6 (n_bipush c_163_104 rfl (n_iload_n c_163_106 rfl (n_imul c_163_107 rfl (n_iload c_163_108 rfl (n_iadd c_163_110 rfl (n_ialoadV c_163_111 sc_117.n rfl rfl rfl (by omega) (t_117 hS (by omega)) ?_))))))))
                          intro z41 ez41 f42
                          refine n_iadd c_163_112 rfl (n_istore (L2 := [some (2, 112), some (0, a), some (0, 4), some (0, x), some (0, y), some (0, w), some (0, s), some (0, z1), some (0, ((((((((0 * 2) + z11) * 2) + z21) * 2) + z31) * 2) + z41)), some (0, ((((4 - 1) + (-1)) + (-1)) + (-1))), some (0, z35)]) c_163_113 rfl rfl (n_iinc (L2 := [some (2, 112), some (0, a), some (0, 4), some (0, x), some (0, y), some (0, w), some (0, s), some (0, z1), some (0, ((((((((0 * 2) + z11) * 2) + z21) * 2) + z31) * 2) + z41)), some (0, (((((4 - 1) + (-1)) + (-1)) + (-1)) + (-1))), some (0, z35)]) c_163_115 rfl rfl rfl (n_goto c_163_118 (n_iload c_163_16 rfl ?_))))
                          refine n_if0_lt c_163_18 (by omega) ?_ ?_
                          · intro h43
                            refine n_aload_n c_163_121 rfl (n_getR c_163_122 sc_112.n rfl rfl rfl r_112_17 (n_iload c_163_125 rfl (n_ialoadV c_163_127 sc_125.n rfl rfl rfl (by omega) (t_125 hS (by omega)) ?_)))
                            intro z44 ez44 f45
                            refine n_if0_eq c_163_128 (by omega) ?_ ?_
                            · intro h46
                              refine n_fg (le_s (le_n (le_n (le_n (le_n (le_n (le_s (le_n (le_s (le_n (le_n le_0))))))))))) ?_
                              exact (mjoined4_2_c hS hdm ha hx hy hw hs 14).1 _ M hS (by omega) (by omega)
                            · intro h47
                              refine n_aload_n c_163_131 rfl (n_getR c_163_132 sc_112.n rfl rfl rfl r_112_17 (n_iload c_163_135 rfl (n_ialoadV c_163_137 sc_125.n rfl rfl rfl (by omega) (t_125 hS (by omega)) ?_)))
                              intro z48 ez48 f49
                              refine n_iload c_163_138 rfl (n_iconst c_163_140 (n_iadd c_163_141 rfl ?_))
                              refine n_if2_le c_163_142 (by omega) (by omega) ?_ ?_
                              · intro h50
                                refine n_fg (le_n (le_n (le_n (le_n (le_n (le_n (le_n (le_n (le_n (le_n (le_n le_0))))))))))) ?_
                                exact (mjoined4_2_c hS hdm ha hx hy hw hs 14).2  M hS  (by omega)
                              · intro h51
                                refine n_fg (le_s (le_n (le_n (le_n (le_n (le_n (le_s (le_n (le_s (le_n (le_n le_0))))))))))) ?_
                                exact (mjoined4_2_c hS hdm ha hx hy hw hs 14).1 _ M hS (by omega) (by omega)
                          · intro h52
                            exfalso; omega
                        · intro h53
                          exfalso; omega
                      · intro h54
                        exfalso; omega
                  · intro h55
                    exfalso; omega
                · intro h56
                  exfalso; omega
            · intro h57
              exfalso; omega
          · intro h58
            exfalso; omega
      · intro h59
        exfalso; omega
    · intro h60
      refine n_iload c_163_41 rfl (n_aload_n c_163_43 rfl (n_getV (bi := 0) c_163_44 sc_112.n rfl rfl rfl (t_dm hS hdm) ?_))
      intro z61 ez61 f62
      obtain rfl : z61 = 2 := by omega
      refine n_imul c_163_47 rfl (n_aload_n c_163_48 rfl (n_getR c_163_49 sc_112.n rfl rfl rfl r_112_18 (n_bipush c_163_52 rfl (n_iload c_163_54 rfl (n_imul c_163_56 rfl (n_iload c_163_57 rfl (n_iadd c_163_59 rfl (n_ialoadV c_163_60 sc_126.n rfl rfl rfl (by omega) (t_126 hS (by omega)) ?_))))))))
      intro z63 ez63 f64
      refine n_iadd c_163_61 rfl (n_istore (L2 := [some (2, 112), some (0, a), some (0, 4), some (0, x), some (0, y), some (0, w), some (0, s), some (0, z1), some (0, 0), some (0, (4 - 1)), some (0, ((z5 * 2) + z63))]) c_163_62 rfl rfl (n_iload c_163_64 rfl (n_iconst c_163_66 ?_)))
      refine n_if2_le c_163_67 (by omega) (by omega) ?_ ?_
      · intro h65
        refine n_iload c_163_93 rfl (n_aload_n c_163_95 rfl (n_getV (bi := 0) c_163_96 sc_112.n rfl rfl rfl (t_dm hS hdm) ?_))
        intro z66 ez66 f67
        obtain rfl : z66 = 2 := by omega
        refine n_imul c_163_99 rfl (n_aload_n c_163_100 rfl (n_getR c_163_101 sc_112.n rfl rfl rfl r_112_6 (n_bipush c_163_104 rfl (n_iload_n c_163_106 rfl (n_imul c_163_107 rfl (n_iload c_163_108 rfl (n_iadd c_163_110 rfl (n_ialoadV c_163_111 sc_117.n rfl rfl rfl (by omega) (t_117 hS (by omega)) ?_))))))))
        intro z68 ez68 f69
        refine n_iadd c_163_112 rfl (n_istore (L2 := [some (2, 112), some (0, a), some (0, 4), some (0, x), some (0, y), some (0, w), some (0, s), some (0, z1), some (0, ((0 * 2) + z68)), some (0, (4 - 1)), some (0, ((z5 * 2) + z63))]) c_163_113 rfl rfl (n_iinc (L2 := [some (2, 112), some (0, a), some (0, 4), some (0, x), some (0, y), some (0, w), some (0, s), some (0, z1), some (0, ((0 * 2) + z68)), some (0, ((4 - 1) + (-1))), some (0, ((z5 * 2) + z63))]) c_163_115 rfl rfl rfl (n_goto c_163_118 (n_iload c_163_16 rfl ?_))))
        refine n_if0_lt c_163_18 (by omega) ?_ ?_
        · intro h70
          exfalso; omega
        · intro h71
          refine n_aload_n c_163_21 rfl (n_getR c_163_22 sc_112.n rfl rfl rfl r_112_18 (n_bipush c_163_25 rfl (n_iload_n c_163_27 rfl (n_imul c_163_28 rfl (n_iload c_163_29 rfl (n_iadd c_163_31 rfl (n_ialoadV c_163_32 sc_126.n rfl rfl rfl (by omega) (t_126 hS (by omega)) ?_)))))))
          intro z72 ez72 f73
          refine n_istore (L2 := [some (2, 112), some (0, a), some (0, 4), some (0, x), some (0, y), some (0, w), some (0, s), some (0, z1), some (0, ((0 * 2) + z68)), some (0, ((4 - 1) + (-1))), some (0, z72)]) c_163_33 rfl rfl (n_iload c_163_35 rfl (n_iconst c_163_37 ?_))
          refine n_if2_le c_163_38 (by omega) (by omega) ?_ ?_
          · intro h74
            exfalso; omega
          · intro h75
            refine n_iload c_163_41 rfl (n_aload_n c_163_43 rfl (n_getV (bi := 0) c_163_44 sc_112.n rfl rfl rfl (t_dm hS hdm) ?_))
            intro z76 ez76 f77
            obtain rfl : z76 = 2 := by omega
            refine n_imul c_163_47 rfl (n_aload_n c_163_48 rfl (n_getR c_163_49 sc_112.n rfl rfl rfl r_112_18 (n_bipush c_163_52 rfl (n_iload c_163_54 rfl (n_imul c_163_56 rfl (n_iload c_163_57 rfl (n_iadd c_163_59 rfl (n_ialoadV c_163_60 sc_126.n rfl rfl rfl (by omega) (t_126 hS (by omega)) ?_))))))))
            intro z78 ez78 f79
            refine n_iadd c_163_61 rfl (n_istore (L2 := [some (2, 112), some (0, a), some (0, 4), some (0, x), some (0, y), some (0, w), some (0, s), some (0, z1), some (0, ((0 * 2) + z68)), some (0, ((4 - 1) + (-1))), some (0, ((z72 * 2) + z78))]) c_163_62 rfl rfl (n_iload c_163_64 rfl (n_iconst c_163_66 ?_)))
            refine n_if2_le c_163_67 (by omega) (by omega) ?_ ?_
            · intro h80
              refine n_iload c_163_93 rfl (n_aload_n c_163_95 rfl (n_getV (bi := 0) c_163_96 sc_112.n rfl rfl rfl (t_dm hS hdm) ?_))
              intro z81 ez81 f82
              obtain rfl : z81 = 2 := by omega
              refine n_imul c_163_99 rfl (n_aload_n c_163_100 rfl (n_getR c_163_101 sc_112.n rfl rfl rfl r_112_6 (n_bipush c_163_104 rfl (n_iload_n c_163_106 rfl (n_imul c_163_107 rfl (n_iload c_163_108 rfl (n_iadd c_163_110 rfl (n_ialoadV c_163_111 sc_117.n rfl rfl rfl (by omega) (t_117 hS (by omega)) ?_))))))))
              intro z83 ez83 f84
              refine n_iadd c_163_112 rfl (n_istore (L2 := [some (2, 112), some (0, a), some (0, 4), some (0, x), some (0, y), some (0, w), some (0, s), some (0, z1), some (0, ((((0 * 2) + z68) * 2) + z83)), some (0, ((4 - 1) + (-1))), some (0, ((z72 * 2) + z78))]) c_163_113 rfl rfl (n_iinc (L2 := [some (2, 112), some (0, a), some (0, 4), some (0, x), some (0, y), some (0, w), some (0, s), some (0, z1), some (0, ((((0 * 2) + z68) * 2) + z83)), some (0, (((4 - 1) + (-1)) + (-1))), some (0, ((z72 * 2) + z78))]) c_163_115 rfl rfl rfl (n_goto c_163_118 (n_iload c_163_16 rfl ?_))))
              refine n_if0_lt c_163_18 (by omega) ?_ ?_
              · intro h85
                exfalso; omega
              · intro h86
                refine n_aload_n c_163_21 rfl (n_getR c_163_22 sc_112.n rfl rfl rfl r_112_18 (n_bipush c_163_25 rfl (n_iload_n c_163_27 rfl (n_imul c_163_28 rfl (n_iload c_163_29 rfl (n_iadd c_163_31 rfl (n_ialoadV c_163_32 sc_126.n rfl rfl rfl (by omega) (t_126 hS (by omega)) ?_)))))))
                intro z87 ez87 f88
                refine n_istore (L2 := [some (2, 112), some (0, a), some (0, 4), some (0, x), some (0, y), some (0, w), some (0, s), some (0, z1), some (0, ((((0 * 2) + z68) * 2) + z83)), some (0, (((4 - 1) + (-1)) + (-1))), some (0, z87)]) c_163_33 rfl rfl (n_iload c_163_35 rfl (n_iconst c_163_37 ?_))
                refine n_if2_le c_163_38 (by omega) (by omega) ?_ ?_
                · intro h89
                  exfalso; omega
                · intro h90
                  refine n_iload c_163_41 rfl (n_aload_n c_163_43 rfl (n_getV (bi := 0) c_163_44 sc_112.n rfl rfl rfl (t_dm hS hdm) ?_))
                  intro z91 ez91 f92
                  obtain rfl : z91 = 2 := by omega
                  refine n_imul c_163_47 rfl (n_aload_n c_163_48 rfl (n_getR c_163_49 sc_112.n rfl rfl rfl r_112_18 (n_bipush c_163_52 rfl (n_iload c_163_54 rfl (n_imul c_163_56 rfl (n_iload c_163_57 rfl (n_iadd c_163_59 rfl (n_ialoadV c_163_60 sc_126.n rfl rfl rfl (by omega) (t_126 hS (by omega)) ?_))))))))
                  intro z93 ez93 f94
                  refine n_iadd c_163_61 rfl (n_istore (L2 := [some (2, 112), some (0, a), some (0, 4), some (0, x), some (0, y), some (0, w), some (0, s), some (0, z1), some (0, ((((0 * 2) + z68) * 2) + z83)), some (0, (((4 - 1) + (-1)) + (-1))), some (0, ((z87 * 2) + z93))]) c_163_62 rfl rfl (n_iload c_163_64 rfl (n_iconst c_163_66 ?_)))
                  refine n_if2_le c_163_67 (by omega) (by omega) ?_ ?_
                  · intro h95
                    refine n_iload c_163_93 rfl (n_aload_n c_163_95 rfl (n_getV (bi := 0) c_163_96 sc_112.n rfl rfl rfl (t_dm hS hdm) ?_))
                    intro z96 ez96 f97
                    obtain rfl : z96 = 2 := by omega
                    refine n_imul c_163_99 rfl (n_aload_n c_163_100 rfl (n_getR c_163_101 sc_112.n rfl rfl rfl r_112_6 (n_bipush c_163_104 rfl (n_iload_n c_163_106 rfl (n_imul c_163_107 rfl (n_iload c_163_108 rfl (n_iadd c_163_110 rfl (n_ialoadV c_163_111 sc_117.n rfl rfl rfl (by omega) (t_117 hS (by omega)) ?_))))))))
                    intro z98 ez98 f99
                    refine n_iadd c_163_112 rfl (n_istore (L2 := [some (2, 112), some (0, a), some (0, 4), some (0, x), some (0, y), some (0, w), some (0, s), some (0, z1), some (0, ((((((0 * 2) + z68) * 2) + z83) * 2) + z98)), some (0, (((4 - 1) + (-1)) + (-1))), some (0, ((z87 * 2) + z93))]) c_163_113 rfl rfl (n_iinc (L2 := [some (2, 112), some (0, a), some (0, 4), some (0, x), some (0, y), some (0, w), some (0, s), some (0, z1), some (0, ((((((0 * 2) + z68) * 2) + z83) * 2) + z98)), some (0, ((((4 - 1) + (-1)) + (-1)) + (-1))), some (0, ((z87 * 2) + z93))]) c_163_115 rfl rfl rfl (n_goto c_163_118 (n_iload c_163_16 rfl ?_))))
                    refine n_if0_lt c_163_18 (by omega) ?_ ?_
                    · intro h100
                      exfalso; omega
                    · intro h101
                      refine n_aload_n c_163_21 rfl (n_getR c_163_22 sc_112.n rfl rfl rfl r_112_18 (n_bipush c_163_25 rfl (n_iload_n c_163_27 rfl (n_imul c_163_28 rfl (n_iload c_163_29 rfl (n_iadd c_163_31 rfl (n_ialoadV c_163_32 sc_126.n rfl rfl rfl (by omega) (t_126 hS (by omega)) ?_)))))))
                      intro z102 ez102 f103
                      refine n_istore (L2 := [some (2, 112), some (0, a), some (0, 4), some (0, x), some (0, y), some (0, w), some (0, s), some (0, z1), some (0, ((((((0 * 2) + z68) * 2) + z83) * 2) + z98)), some (0, ((((4 - 1) + (-1)) + (-1)) + (-1))), some (0, z102)]) c_163_33 rfl rfl (n_iload c_163_35 rfl (n_iconst c_163_37 ?_))
                      refine n_if2_le c_163_38 (by omega) (by omega) ?_ ?_
                      · intro h104
                        exfalso; omega
                      · intro h105
                        refine n_iload c_163_41 rfl (n_aload_n c_163_43 rfl (n_getV (bi := 0) c_163_44 sc_112.n rfl rfl rfl (t_dm hS hdm) ?_))
                        intro z106 ez106 f107
                        obtain rfl : z106 = 2 := by omega
                        refine n_imul c_163_47 rfl (n_aload_n c_163_48 rfl (n_getR c_163_49 sc_112.n rfl rfl rfl r_112_18 (n_bipush c_163_52 rfl (n_iload c_163_54 rfl (n_imul c_163_56 rfl (n_iload c_163_57 rfl (n_iadd c_163_59 rfl (n_ialoadV c_163_60 sc_126.n rfl rfl rfl (by omega) (t_126 hS (by omega)) ?_))))))))
                        intro z108 ez108 f109
                        refine n_iadd c_163_61 rfl (n_istore (L2 := [some (2, 112), some (0, a), some (0, 4), some (0, x), some (0, y), some (0, w), some (0, s), some (0, z1), some (0, ((((((0 * 2) + z68) * 2) + z83) * 2) + z98)), some (0, ((((4 - 1) + (-1)) + (-1)) + (-1))), some (0, ((z102 * 2) + z108))]) c_163_62 rfl rfl (n_iload c_163_64 rfl (n_iconst c_163_66 ?_)))
                        refine n_if2_le c_163_67 (by omega) (by omega) ?_ ?_
                        · intro h110
                          refine n_iload c_163_93 rfl (n_aload_n c_163_95 rfl (n_getV (bi := 0) c_163_96 sc_112.n rfl rfl rfl (t_dm hS hdm) ?_))
                          intro z111 ez111 f112
                          obtain rfl : z111 = 2 := by omega
                          refine n_imul c_163_99 rfl (n_aload_n c_163_100 rfl (n_getR c_163_101 sc_112.n rfl rfl rfl r_112_6 (n_bipush c_163_104 rfl (n_iload_n c_163_106 rfl (n_imul c_163_107 rfl (n_iload c_163_108 rfl (n_iadd c_163_110 rfl (n_ialoadV c_163_111 sc_117.n rfl rfl rfl (by omega) (t_117 hS (by omega)) ?_))))))))
                          intro z113 ez113 f114
                          refine n_iadd c_163_112 rfl (n_istore (L2 := [some (2, 112), some (0, a), some (0, 4), some (0, x), some (0, y), some (0, w), some (0, s), some (0, z1), some (0, ((((((((0 * 2) + z68) * 2) + z83) * 2) + z98) * 2) + z113)), some (0, ((((4 - 1) + (-1)) + (-1)) + (-1))), some (0, ((z102 * 2) + z108))]) c_163_113 rfl rfl (n_iinc (L2 := [some (2, 112), some (0, a), some (0, 4), some (0, x), some (0, y), some (0, w), some (0, s), some (0, z1), some (0, ((((((((0 * 2) + z68) * 2) + z83) * 2) + z98) * 2) + z113)), some (0, (((((4 - 1) + (-1)) + (-1)) + (-1)) + (-1))), some (0, ((z102 * 2) + z108))]) c_163_115 rfl rfl rfl (n_goto c_163_118 (n_iload c_163_16 rfl ?_))))
                          refine n_if0_lt c_163_18 (by omega) ?_ ?_
                          · intro h115
                            refine n_aload_n c_163_121 rfl (n_getR c_163_122 sc_112.n rfl rfl rfl r_112_17 (n_iload c_163_125 rfl (n_ialoadV c_163_127 sc_125.n rfl rfl rfl (by omega) (t_125 hS (by omega)) ?_)))
                            intro z116 ez116 f117
                            refine n_if0_eq c_163_128 (by omega) ?_ ?_
                            · intro h118
                              refine n_fg (le_s (le_n (le_n (le_n (le_n (le_n (le_s (le_n (le_s (le_n (le_n le_0))))))))))) ?_
                              exact (mjoined4_2_c hS hdm ha hx hy hw hs 14).1 _ M hS (by omega) (by omega)
                            · intro h119
                              refine n_aload_n c_163_131 rfl (n_getR c_163_132 sc_112.n rfl rfl rfl r_112_17 (n_iload c_163_135 rfl (n_ialoadV c_163_137 sc_125.n rfl rfl rfl (by omega) (t_125 hS (by omega)) ?_)))
                              intro z120 ez120 f121
                              refine n_iload c_163_138 rfl (n_iconst c_163_140 (n_iadd c_163_141 rfl ?_))
                              refine n_if2_le c_163_142 (by omega) (by omega) ?_ ?_
                              · intro h122
                                refine n_fg (le_n (le_n (le_n (le_n (le_n (le_n (le_n (le_n (le_n (le_n (le_n le_0))))))))))) ?_
                                exact (mjoined4_2_c hS hdm ha hx hy hw hs 14).2  M hS  (by omega)
                              · intro h123
                                refine n_fg (le_s (le_n (le_n (le_n (le_n (le_n (le_s (le_n (le_s (le_n (le_n le_0))))))))))) ?_
                                exact (mjoined4_2_c hS hdm ha hx hy hw hs 14).1 _ M hS (by omega) (by omega)
                          · intro h124
                            exfalso; omega
                        · intro h125
                          exfalso; omega
                  · intro h126
                    exfalso; omega
            · intro h127
              exfalso; omega
      · intro h128
        refine n_iload c_163_70 rfl (n_aload_n c_163_72 rfl (n_getV (bi := 0) c_163_73 sc_112.n rfl rfl rfl (t_dm hS hdm) ?_))
        intro z129 ez129 f130
        obtain rfl : z129 = 2 := by omega
        refine n_imul c_163_76 rfl (n_aload_n c_163_77 rfl (n_getR c_163_78 sc_112.n rfl rfl rfl r_112_18 (n_bipush c_163_81 rfl (n_iload c_163_83 rfl (n_imul c_163_85 rfl (n_iload c_163_86 rfl (n_iadd c_163_88 rfl (n_ialoadV c_163_89 sc_126.n rfl rfl rfl (by omega) (t_126 hS (by omega)) ?_))))))))
        intro z131 ez131 f132
        refine n_iadd c_163_90 rfl (n_istore (L2 := [some (2, 112), some (0, a), some (0, 4), some (0, x), some (0, y), some (0, w), some (0, s), some (0, z1), some (0, 0), some (0, (4 - 1)), some (0, ((((z5 * 2) + z63) * 2) + z131))]) c_163_91 rfl rfl (n_iload c_163_93 rfl (n_aload_n c_163_95 rfl (n_getV (bi := 0) c_163_96 sc_112.n rfl rfl rfl (t_dm hS hdm) ?_))))
        intro z133 ez133 f134
        obtain rfl : z133 = 2 := by omega
        refine n_imul c_163_99 rfl (n_aload_n c_163_100 rfl (n_getR c_163_101 sc_112.n rfl rfl rfl r_112_6 (n_bipush c_163_104 rfl (n_iload_n c_163_106 rfl (n_imul c_163_107 rfl (n_iload c_163_108 rfl (n_iadd c_163_110 rfl (n_ialoadV c_163_111 sc_117.n rfl rfl rfl (by omega) (t_117 hS (by omega)) ?_))))))))
        intro z135 ez135 f136
        refine n_iadd c_163_112 rfl (n_istore (L2 := [some (2, 112), some (0, a), some (0, 4), some (0, x), some (0, y), some (0, w), some (0, s), some (0, z1), some (0, ((0 * 2) + z135)), some (0, (4 - 1)), some (0, ((((z5 * 2) + z63) * 2) + z131))]) c_163_113 rfl rfl (n_iinc (L2 := [some (2, 112), some (0, a), some (0, 4), some (0, x), some (0, y), some (0, w), some (0, s), some (0, z1), some (0, ((0 * 2) + z135)), some (0, ((4 - 1) + (-1))), some (0, ((((z5 * 2) + z63) * 2) + z131))]) c_163_115 rfl rfl rfl (n_goto c_163_118 (n_iload c_163_16 rfl ?_))))
        refine n_if0_lt c_163_18 (by omega) ?_ ?_
        · intro h137
          exfalso; omega
        · intro h138
          refine n_aload_n c_163_21 rfl (n_getR c_163_22 sc_112.n rfl rfl rfl r_112_18 (n_bipush c_163_25 rfl (n_iload_n c_163_27 rfl (n_imul c_163_28 rfl (n_iload c_163_29 rfl (n_iadd c_163_31 rfl (n_ialoadV c_163_32 sc_126.n rfl rfl rfl (by omega) (t_126 hS (by omega)) ?_)))))))
          intro z139 ez139 f140
          refine n_istore (L2 := [some (2, 112), some (0, a), some (0, 4), some (0, x), some (0, y), some (0, w), some (0, s), some (0, z1), some (0, ((0 * 2) + z135)), some (0, ((4 - 1) + (-1))), some (0, z139)]) c_163_33 rfl rfl (n_iload c_163_35 rfl (n_iconst c_163_37 ?_))
          refine n_if2_le c_163_38 (by omega) (by omega) ?_ ?_
          · intro h141
            exfalso; omega
          · intro h142
            refine n_iload c_163_41 rfl (n_aload_n c_163_43 rfl (n_getV (bi := 0) c_163_44 sc_112.n rfl rfl rfl (t_dm hS hdm) ?_))
            intro z143 ez143 f144
            obtain rfl : z143 = 2 := by omega
            refine n_imul c_163_47 rfl (n_aload_n c_163_48 rfl (n_getR c_163_49 sc_112.n rfl rfl rfl r_112_18 (n_bipush c_163_52 rfl (n_iload c_163_54 rfl (n_imul c_163_56 rfl (n_iload c_163_57 rfl (n_iadd c_163_59 rfl (n_ialoadV c_163_60 sc_126.n rfl rfl rfl (by omega) (t_126 hS (by omega)) ?_))))))))
            intro z145 ez145 f146
            refine n_iadd c_163_61 rfl (n_istore (L2 := [some (2, 112), some (0, a), some (0, 4), some (0, x), some (0, y), some (0, w), some (0, s), some (0, z1), some (0, ((0 * 2) + z135)), some (0, ((4 - 1) + (-1))), some (0, ((z139 * 2) + z145))]) c_163_62 rfl rfl (n_iload c_163_64 rfl (n_iconst c_163_66 ?_)))
            refine n_if2_le c_163_67 (by omega) (by omega) ?_ ?_
            · intro h147
              exfalso; omega
            · intro h148
              refine n_iload c_163_70 rfl (n_aload_n c_163_72 rfl (n_getV (bi := 0) c_163_73 sc_112.n rfl rfl rfl (t_dm hS hdm) ?_))
              intro z149 ez149 f150
              obtain rfl : z149 = 2 := by omega
              refine n_imul c_163_76 rfl (n_aload_n c_163_77 rfl (n_getR c_163_78 sc_112.n rfl rfl rfl r_112_18 (n_bipush c_163_81 rfl (n_iload c_163_83 rfl (n_imul c_163_85 rfl (n_iload c_163_86 rfl (n_iadd c_163_88 rfl (n_ialoadV c_163_89 sc_126.n rfl rfl rfl (by omega) (t_126 hS (by omega)) ?_))))))))
              intro z151 ez151 f152
              refine n_iadd c_163_90 rfl (n_istore (L2 := [some (2, 112), some (0, a), some (0, 4), some (0, x), some (0, y), some (0, w), some (0, s), some (0, z1), some (0, ((0 * 2) + z135)), some (0, ((4 - 1) + (-1))), some (0, ((((z139 * 2) + z145) * 2) + z151))]) c_163_91 rfl rfl (n_iload c_163_93 rfl (n_aload_n c_163_95 rfl (n_getV (bi := 0) c_163_96 sc_112.n rfl rfl rfl (t_dm hS hdm) ?_))))
              intro z153 ez153 f154
              obtain rfl : z153 = 2 := by omega
              refine n_imul c_163_99 rfl (n_aload_n c_163_100 rfl (n_getR c_163_101 sc_112.n rfl rfl rfl r_112_6 (n_bipush c_163_104 rfl (n_iload_n c_163_106 rfl (n_imul c_163_107 rfl (n_iload c_163_108 rfl (n_iadd c_163_110 rfl (n_ialoadV c_163_111 sc_117.n rfl rfl rfl (by omega) (t_117 hS (by omega)) ?_))))))))
              intro z155 ez155 f156
              refine n_iadd c_163_112 rfl (n_istore (L2 := [some (2, 112), some (0, a), some (0, 4), some (0, x), some (0, y), some (0, w), some (0, s), some (0, z1), some (0, ((((0 * 2) + z135) * 2) + z155)), some (0, ((4 - 1) + (-1))), some (0, ((((z139 * 2) + z145) * 2) + z151))]) c_163_113 rfl rfl (n_iinc (L2 := [some (2, 112), some (0, a), some (0, 4), some (0, x), some (0, y), some (0, w), some (0, s), some (0, z1), some (0, ((((0 * 2) + z135) * 2) + z155)), some (0, (((4 - 1) + (-1)) + (-1))), some (0, ((((z139 * 2) + z145) * 2) + z151))]) c_163_115 rfl rfl rfl (n_goto c_163_118 (n_iload c_163_16 rfl ?_))))
              refine n_if0_lt c_163_18 (by omega) ?_ ?_
              · intro h157
                exfalso; omega
              · intro h158
                refine n_aload_n c_163_21 rfl (n_getR c_163_22 sc_112.n rfl rfl rfl r_112_18 (n_bipush c_163_25 rfl (n_iload_n c_163_27 rfl (n_imul c_163_28 rfl (n_iload c_163_29 rfl (n_iadd c_163_31 rfl (n_ialoadV c_163_32 sc_126.n rfl rfl rfl (by omega) (t_126 hS (by omega)) ?_)))))))
                intro z159 ez159 f160
                refine n_istore (L2 := [some (2, 112), some (0, a), some (0, 4), some (0, x), some (0, y), some (0, w), some (0, s), some (0, z1), some (0, ((((0 * 2) + z135) * 2) + z155)), some (0, (((4 - 1) + (-1)) + (-1))), some (0, z159)]) c_163_33 rfl rfl (n_iload c_163_35 rfl (n_iconst c_163_37 ?_))
                refine n_if2_le c_163_38 (by omega) (by omega) ?_ ?_
                · intro h161
                  exfalso; omega
                · intro h162
                  refine n_iload c_163_41 rfl (n_aload_n c_163_43 rfl (n_getV (bi := 0) c_163_44 sc_112.n rfl rfl rfl (t_dm hS hdm) ?_))
                  intro z163 ez163 f164
                  obtain rfl : z163 = 2 := by omega
                  refine n_imul c_163_47 rfl (n_aload_n c_163_48 rfl (n_getR c_163_49 sc_112.n rfl rfl rfl r_112_18 (n_bipush c_163_52 rfl (n_iload c_163_54 rfl (n_imul c_163_56 rfl (n_iload c_163_57 rfl (n_iadd c_163_59 rfl (n_ialoadV c_163_60 sc_126.n rfl rfl rfl (by omega) (t_126 hS (by omega)) ?_))))))))
                  intro z165 ez165 f166
                  refine n_iadd c_163_61 rfl (n_istore (L2 := [some (2, 112), some (0, a), some (0, 4), some (0, x), some (0, y), some (0, w), some (0, s), some (0, z1), some (0, ((((0 * 2) + z135) * 2) + z155)), some (0, (((4 - 1) + (-1)) + (-1))), some (0, ((z159 * 2) + z165))]) c_163_62 rfl rfl (n_iload c_163_64 rfl (n_iconst c_163_66 ?_)))
                  refine n_if2_le c_163_67 (by omega) (by omega) ?_ ?_
                  · intro h167
                    exfalso; omega
                  · intro h168
                    refine n_iload c_163_70 rfl (n_aload_n c_163_72 rfl (n_getV (bi := 0) c_163_73 sc_112.n rfl rfl rfl (t_dm hS hdm) ?_))
                    intro z169 ez169 f170
                    obtain rfl : z169 = 2 := by omega
                    refine n_imul c_163_76 rfl (n_aload_n c_163_77 rfl (n_getR c_163_78 sc_112.n rfl rfl rfl r_112_18 (n_bipush c_163_81 rfl (n_iload c_163_83 rfl (n_imul c_163_85 rfl (n_iload c_163_86 rfl (n_iadd c_163_88 rfl (n_ialoadV c_163_89 sc_126.n rfl rfl rfl (by omega) (t_126 hS (by omega)) ?_))))))))
                    intro z171 ez171 f172
                    refine n_iadd c_163_90 rfl (n_istore (L2 := [some (2, 112), some (0, a), some (0, 4), some (0, x), some (0, y), some (0, w), some (0, s), some (0, z1), some (0, ((((0 * 2) + z135) * 2) + z155)), some (0, (((4 - 1) + (-1)) + (-1))), some (0, ((((z159 * 2) + z165) * 2) + z171))]) c_163_91 rfl rfl (n_iload c_163_93 rfl (n_aload_n c_163_95 rfl (n_getV (bi := 0) c_163_96 sc_112.n rfl rfl rfl (t_dm hS hdm) ?_))))
                    intro z173 ez173 f174
                    obtain rfl : z173 = 2 := by omega
                    refine n_imul c_163_99 rfl (n_aload_n c_163_100 rfl (n_getR c_163_101 sc_112.n rfl rfl rfl r_112_6 (n_bipush c_163_104 rfl (n_iload_n c_163_106 rfl (n_imul c_163_107 rfl (n_iload c_163_108 rfl (n_iadd c_163_110 rfl (n_ialoadV c_163_111 sc_117.n rfl rfl rfl (by omega) (t_117 hS (by omega)) ?_))))))))
                    intro z175 ez175 f176
                    refine n_iadd c_163_112 rfl (n_istore (L2 := [some (2, 112), some (0, a), some (0, 4), some (0, x), some (0, y), some (0, w), some (0, s), some (0, z1), some (0, ((((((0 * 2) + z135) * 2) + z155) * 2) + z175)), some (0, (((4 - 1) + (-1)) + (-1))), some (0, ((((z159 * 2) + z165) * 2) + z171))]) c_163_113 rfl rfl (n_iinc (L2 := [some (2, 112), some (0, a), some (0, 4), some (0, x), some (0, y), some (0, w), some (0, s), some (0, z1), some (0, ((((((0 * 2) + z135) * 2) + z155) * 2) + z175)), some (0, ((((4 - 1) + (-1)) + (-1)) + (-1))), some (0, ((((z159 * 2) + z165) * 2) + z171))]) c_163_115 rfl rfl rfl (n_goto c_163_118 (n_iload c_163_16 rfl ?_))))
                    refine n_if0_lt c_163_18 (by omega) ?_ ?_
                    · intro h177
                      exfalso; omega
                    · intro h178
                      refine n_aload_n c_163_21 rfl (n_getR c_163_22 sc_112.n rfl rfl rfl r_112_18 (n_bipush c_163_25 rfl (n_iload_n c_163_27 rfl (n_imul c_163_28 rfl (n_iload c_163_29 rfl (n_iadd c_163_31 rfl (n_ialoadV c_163_32 sc_126.n rfl rfl rfl (by omega) (t_126 hS (by omega)) ?_)))))))
                      intro z179 ez179 f180
                      refine n_istore (L2 := [some (2, 112), some (0, a), some (0, 4), some (0, x), some (0, y), some (0, w), some (0, s), some (0, z1), some (0, ((((((0 * 2) + z135) * 2) + z155) * 2) + z175)), some (0, ((((4 - 1) + (-1)) + (-1)) + (-1))), some (0, z179)]) c_163_33 rfl rfl (n_iload c_163_35 rfl (n_iconst c_163_37 ?_))
                      refine n_if2_le c_163_38 (by omega) (by omega) ?_ ?_
                      · intro h181
                        exfalso; omega
                      · intro h182
                        refine n_iload c_163_41 rfl (n_aload_n c_163_43 rfl (n_getV (bi := 0) c_163_44 sc_112.n rfl rfl rfl (t_dm hS hdm) ?_))
                        intro z183 ez183 f184
                        obtain rfl : z183 = 2 := by omega
                        refine n_imul c_163_47 rfl (n_aload_n c_163_48 rfl (n_getR c_163_49 sc_112.n rfl rfl rfl r_112_18 (n_bipush c_163_52 rfl (n_iload c_163_54 rfl (n_imul c_163_56 rfl (n_iload c_163_57 rfl (n_iadd c_163_59 rfl (n_ialoadV c_163_60 sc_126.n rfl rfl rfl (by omega) (t_126 hS (by omega)) ?_))))))))
                        intro z185 ez185 f186
                        refine n_iadd c_163_61 rfl (n_istore (L2 := [some (2, 112), some (0, a), some (0, 4), some (0, x), some (0, y), some (0, w), some (0, s), some (0, z1), some (0, ((((((0 * 2) + z135) * 2) + z155) * 2) + z175)), some (0, ((((4 - 1) + (-1)) + (-1)) + (-1))), some (0, ((z179 * 2) + z185))]) c_163_62 rfl rfl (n_iload c_163_64 rfl (n_iconst c_163_66 ?_)))
                        refine n_if2_le c_163_67 (by omega) (by omega) ?_ ?_
                        · intro h187
                          exfalso; omega
                        · intro h188
                          refine n_iload c_163_70 rfl (n_aload_n c_163_72 rfl (n_getV (bi := 0) c_163_73 sc_112.n rfl rfl rfl (t_dm hS hdm) ?_))
                          intro z189 ez189 f190
                          obtain rfl : z189 = 2 := by omega
                          refine n_imul c_163_76 rfl (n_aload_n c_163_77 rfl (n_getR c_163_78 sc_112.n rfl rfl rfl r_112_18 (n_bipush c_163_81 rfl (n_iload c_163_83 rfl (n_imul c_163_85 rfl (n_iload c_163_86 rfl (n_iadd c_163_88 rfl (n_ialoadV c_163_89 sc_126.n rfl rfl rfl (by omega) (t_126 hS (by omega)) ?_))))))))
                          intro z191 ez191 f192
                          refine n_iadd c_163_90 rfl (n_istore (L2 := [some (2, 112), some (0, a), some (0, 4), some (0, x), some (0, y), some (0, w), some (0, s), some (0, z1), some (0, ((((((0 * 2) + z135) * 2) + z155) * 2) + z175)), some (0, ((((4 - 1) + (-1)) + (-1)) + (-1))), some (0, ((((z179 * 2) + z185) * 2) + z191))]) c_163_91 rfl rfl (n_iload c_163_93 rfl (n_aload_n c_163_95 rfl (n_getV (bi := 0) c_163_96 sc_112.n rfl rfl rfl (t_dm hS hdm) ?_))))
                          intro z193 ez193 f194
                          obtain rfl : z193 = 2 := by omega
                          refine n_imul c_163_99 rfl (n_aload_n c_163_100 rfl (n_getR c_163_101 sc_112.n rfl rfl rfl r_112_6 (n_bipush c_163_104 rfl (n_iload_n c_163_106 rfl (n_imul c_163_107 rfl (n_iload c_163_108 rfl (n_iadd c_163_110 rfl (n_ialoadV c_163_111 sc_117.n rfl rfl rfl (by omega) (t_117 hS (by omega)) ?_))))))))
                          intro z195 ez195 f196
                          refine n_iadd c_163_112 rfl (n_istore (L2 := [some (2, 112), some (0, a), some (0, 4), some (0, x), some (0, y), some (0, w), some (0, s), some (0, z1), some (0, ((((((((0 * 2) + z135) * 2) + z155) * 2) + z175) * 2) + z195)), some (0, ((((4 - 1) + (-1)) + (-1)) + (-1))), some (0, ((((z179 * 2) + z185) * 2) + z191))]) c_163_113 rfl rfl (n_iinc (L2 := [some (2, 112), some (0, a), some (0, 4), some (0, x), some (0, y), some (0, w), some (0, s), some (0, z1), some (0, ((((((((0 * 2) + z135) * 2) + z155) * 2) + z175) * 2) + z195)), some (0, (((((4 - 1) + (-1)) + (-1)) + (-1)) + (-1))), some (0, ((((z179 * 2) + z185) * 2) + z191))]) c_163_115 rfl rfl rfl (n_goto c_163_118 (n_iload c_163_16 rfl ?_))))
                          refine n_if0_lt c_163_18 (by omega) ?_ ?_
                          · intro h197
                            refine n_aload_n c_163_121 rfl (n_getR c_163_122 sc_112.n rfl rfl rfl r_112_17 (n_iload c_163_125 rfl (n_ialoadV c_163_127 sc_125.n rfl rfl rfl (by omega) (t_125 hS (by omega)) ?_)))
                            intro z198 ez198 f199
                            refine n_if0_eq c_163_128 (by omega) ?_ ?_
                            · intro h200
                              refine n_fg (le_s (le_n (le_n (le_n (le_n (le_n (le_s (le_n (le_s (le_n (le_n le_0))))))))))) ?_
                              exact (mjoined4_2_c hS hdm ha hx hy hw hs 14).1 _ M hS (by omega) (by omega)
                            · intro h201
                              refine n_aload_n c_163_131 rfl (n_getR c_163_132 sc_112.n rfl rfl rfl r_112_17 (n_iload c_163_135 rfl (n_ialoadV c_163_137 sc_125.n rfl rfl rfl (by omega) (t_125 hS (by omega)) ?_)))
                              intro z202 ez202 f203
                              refine n_iload c_163_138 rfl (n_iconst c_163_140 (n_iadd c_163_141 rfl ?_))
                              refine n_if2_le c_163_142 (by omega) (by omega) ?_ ?_
                              · intro h204
                                refine n_fg (le_n (le_n (le_n (le_n (le_n (le_n (le_n (le_n (le_n (le_n (le_n le_0))))))))))) ?_
                                exact (mjoined4_2_c hS hdm ha hx hy hw hs 14).2  M hS  (by omega)
                              · intro h205
                                refine n_fg (le_s (le_n (le_n (le_n (le_n (le_n (le_s (le_n (le_s (le_n (le_n le_0))))))))))) ?_
                                exact (mjoined4_2_c hS hdm ha hx hy hw hs 14).1 _ M hS (by omega) (by omega)
                          · intro h206
                            exfalso; omega

set_option maxHeartbeats 4000000 in
theorem mjoined8_2_c {xs : List Int32} {e : Nat} {ac : Int} {M0 M : nM} {a x y w s : Int} (hS : Sf 2 ac M0 M) (hdm : M0 112 0 = 2) (ha : 0 ≤ a ∧ a ≤ 7) (hx : 0 ≤ x ∧ x ≤ 256) (hy : 0 ≤ y ∧ y ≤ 256) (hw : 0 ≤ w ∧ w ≤ 256) (hs : 0 ≤ s ∧ s ≤ 1000000) : ∀ nn : Nat, (∀ (x8 : Int) (M : nM), Sf 2 ac M0 M → (0 ≤ x8 ∧ x8 ≤ 510) → 2 < (nn : Int) → nW xs e 163 145 [some (2, 112), none, none, none, none, none, some (0, s), none, some (0, x8), none, none] [] M (nPV fun M1 => Sf 2 ac M0 M1)) ∧ (∀ (M : nM), Sf 2 ac M0 M → 1 < (nn : Int) → nW xs e 163 156 [none, none, none, none, none, none, none, none, none, none, none] [] M (nPV fun M1 => Sf 2 ac M0 M1)) := by
  have hd : (2 : Int) = 2 ∨ (2 : Int) = 3 := by decide
  have hac := hS.2.2.2.2
  intro nn
  induction nn with
  | zero => refine ⟨?_, ?_⟩ <;> (intros; omega)
  | succ nn ih =>
    refine ⟨?_, ?_⟩
    · intro x8 M hS k8 hnn
      refine n_aload_n c_163_145 rfl (n_getR c_163_146 sc_112.n rfl rfl rfl r_112_17 (n_iload c_163_149 rfl (n_iload c_163_151 rfl (n_iconst c_163_153 (n_iadd c_163_154 rfl (n_iastoreV hS c_163_155 sc_125.n rfl (by omega) (w_125 (by omega) (by omega)) ?_))))))
      intro M1 eM1 hS1
      refine n_fg (le_n (le_n (le_n (le_n (le_n (le_n (le_n (le_n (le_n (le_n (le_n le_0))))))))))) ?_
      exact ih.2  M1 hS1  (by omega)
    · intro M hS hnn
      exact n_rV c_163_156 rfl hS
set_option maxHeartbeats 4000000 in
theorem mjoined8_2 {xs : List Int32} {e : Nat} {ac : Int} {M0 M : nM} {a x y w s : Int} (hS : Sf 2 ac M0 M) (hdm : M0 112 0 = 2) (ha : 0 ≤ a ∧ a ≤ 7) (hx : 0 ≤ x ∧ x ≤ 256) (hy : 0 ≤ y ∧ y ≤ 256) (hw : 0 ≤ w ∧ w ≤ 256) (hs : 0 ≤ s ∧ s ≤ 1000000) : nW xs e 163 0 [some (2, 112), some (0, a), some (0, 8), some (0, x), some (0, y), some (0, w), some (0, s), none, none, none, none] [] M (nPV fun M1 => Sf 2 ac M0 M1) := by
  have hd : (2 : Int) = 2 ∨ (2 : Int) = 3 := by decide
  have hac := hS.2.2.2.2
  refine n_aload_n c_163_0 rfl (n_getR c_163_1 sc_112.n rfl rfl rfl r_112_5 (n_iload_n c_163_4 rfl (n_ialoadV c_163_5 sc_116.n rfl rfl rfl (by omega) (t_116 hS (by omega)) ?_)))
  intro z1 ez1 f2
  refine n_istore (L2 := [some (2, 112), some (0, a), some (0, 8), some (0, x), some (0, y), some (0, w), some (0, s), some (0, z1), none, none, none]) c_163_6 rfl rfl (n_iconst c_163_8 (n_istore (L2 := [some (2, 112), some (0, a), some (0, 8), some (0, x), some (0, y), some (0, w), some (0, s), some (0, z1), some (0, 0), none, none]) c_163_9 rfl rfl (n_iload_n c_163_11 rfl (n_iconst c_163_12 (n_isub c_163_13 rfl (n_istore (L2 := [some (2, 112), some (0, a), some (0, 8), some (0, x), some (0, y), some (0, w), some (0, s), some (0, z1), some (0, 0), some (0, (8 - 1)), none]) c_163_14 rfl rfl (n_iload c_163_16 rfl ?_)))))))
  refine n_if0_lt c_163_18 (by omega) ?_ ?_
  · intro h3
    exfalso; omega
  · intro h4
    refine n_aload_n c_163_21 rfl (n_getR c_163_22 sc_112.n rfl rfl rfl r_112_18 (n_bipush c_163_25 rfl (n_iload_n c_163_27 rfl (n_imul c_163_28 rfl (n_iload c_163_29 rfl (n_iadd c_163_31 rfl (n_ialoadV c_163_32 sc_126.n rfl rfl rfl (by omega) (t_126 hS (by omega)) ?_)))))))
    intro z5 ez5 f6
    refine n_istore (L2 := [some (2, 112), some (0, a), some (0, 8), some (0, x), some (0, y), some (0, w), some (0, s), some (0, z1), some (0, 0), some (0, (8 - 1)), some (0, z5)]) c_163_33 rfl rfl (n_iload c_163_35 rfl (n_iconst c_163_37 ?_))
    refine n_if2_le c_163_38 (by omega) (by omega) ?_ ?_
    · intro h7
      refine n_iload c_163_64 rfl (n_iconst c_163_66 ?_)
      refine n_if2_le c_163_67 (by omega) (by omega) ?_ ?_
      · intro h8
        refine n_iload c_163_93 rfl (n_aload_n c_163_95 rfl (n_getV (bi := 0) c_163_96 sc_112.n rfl rfl rfl (t_dm hS hdm) ?_))
        intro z9 ez9 f10
        obtain rfl : z9 = 2 := by omega
        refine n_imul c_163_99 rfl (n_aload_n c_163_100 rfl (n_getR c_163_101 sc_112.n rfl rfl rfl r_112_6 (n_bipush c_163_104 rfl (n_iload_n c_163_106 rfl (n_imul c_163_107 rfl (n_iload c_163_108 rfl (n_iadd c_163_110 rfl (n_ialoadV c_163_111 sc_117.n rfl rfl rfl (by omega) (t_117 hS (by omega)) ?_))))))))
        intro z11 ez11 f12
        refine n_iadd c_163_112 rfl (n_istore (L2 := [some (2, 112), some (0, a), some (0, 8), some (0, x), some (0, y), some (0, w), some (0, s), some (0, z1), some (0, ((0 * 2) + z11)), some (0, (8 - 1)), some (0, z5)]) c_163_113 rfl rfl (n_iinc (L2 := [some (2, 112), some (0, a), some (0, 8), some (0, x), some (0, y), some (0, w), some (0, s), some (0, z1), some (0, ((0 * 2) + z11)), some (0, ((8 - 1) + (-1))), some (0, z5)]) c_163_115 rfl rfl rfl (n_goto c_163_118 (n_iload c_163_16 rfl ?_))))
        refine n_if0_lt c_163_18 (by omega) ?_ ?_
        · intro h13
          exfalso; omega
        · intro h14
          refine n_aload_n c_163_21 rfl (n_getR c_163_22 sc_112.n rfl rfl rfl r_112_18 (n_bipush c_163_25 rfl (n_iload_n c_163_27 rfl (n_imul c_163_28 rfl (n_iload c_163_29 rfl (n_iadd c_163_31 rfl (n_ialoadV c_163_32 sc_126.n rfl rfl rfl (by omega) (t_126 hS (by omega)) ?_)))))))
          intro z15 ez15 f16
          refine n_istore (L2 := [some (2, 112), some (0, a), some (0, 8), some (0, x), some (0, y), some (0, w), some (0, s), some (0, z1), some (0, ((0 * 2) + z11)), some (0, ((8 - 1) + (-1))), some (0, z15)]) c_163_33 rfl rfl (n_iload c_163_35 rfl (n_iconst c_163_37 ?_))
          refine n_if2_le c_163_38 (by omega) (by omega) ?_ ?_
          · intro h17
            refine n_iload c_163_64 rfl (n_iconst c_163_66 ?_)
            refine n_if2_le c_163_67 (by omega) (by omega) ?_ ?_
            · intro h18
              refine n_iload c_163_93 rfl (n_aload_n c_163_95 rfl (n_getV (bi := 0) c_163_96 sc_112.n rfl rfl rfl (t_dm hS hdm) ?_))
              intro z19 ez19 f20
              obtain rfl : z19 = 2 := by omega
              refine n_imul c_163_99 rfl (n_aload_n c_163_100 rfl (n_getR c_163_101 sc_112.n rfl rfl rfl r_112_6 (n_bipush c_163_104 rfl (n_iload_n c_163_106 rfl (n_imul c_163_107 rfl (n_iload c_163_108 rfl (n_iadd c_163_110 rfl (n_ialoadV c_163_111 sc_117.n rfl rfl rfl (by omega) (t_117 hS (by omega)) ?_))))))))
              intro z21 ez21 f22
              refine n_iadd c_163_112 rfl (n_istore (L2 := [some (2, 112), some (0, a), some (0, 8), some (0, x), some (0, y), some (0, w), some (0, s), some (0, z1), some (0, ((((0 * 2) + z11) * 2) + z21)), some (0, ((8 - 1) + (-1))), some (0, z15)]) c_163_113 rfl rfl (n_iinc (L2 := [some (2, 112), some (0, a), some (0, 8), some (0, x), some (0, y), some (0, w), some (0, s), some (0, z1), some (0, ((((0 * 2) + z11) * 2) + z21)), some (0, (((8 - 1) + (-1)) + (-1))), some (0, z15)]) c_163_115 rfl rfl rfl (n_goto c_163_118 (n_iload c_163_16 rfl ?_))))
              refine n_if0_lt c_163_18 (by omega) ?_ ?_
              · intro h23
                exfalso; omega
              · intro h24
                refine n_aload_n c_163_21 rfl (n_getR c_163_22 sc_112.n rfl rfl rfl r_112_18 (n_bipush c_163_25 rfl (n_iload_n c_163_27 rfl (n_imul c_163_28 rfl (n_iload c_163_29 rfl (n_iadd c_163_31 rfl (n_ialoadV c_163_32 sc_126.n rfl rfl rfl (by omega) (t_126 hS (by omega)) ?_)))))))
                intro z25 ez25 f26
                refine n_istore (L2 := [some (2, 112), some (0, a), some (0, 8), some (0, x), some (0, y), some (0, w), some (0, s), some (0, z1), some (0, ((((0 * 2) + z11) * 2) + z21)), some (0, (((8 - 1) + (-1)) + (-1))), some (0, z25)]) c_163_33 rfl rfl (n_iload c_163_35 rfl (n_iconst c_163_37 ?_))
                refine n_if2_le c_163_38 (by omega) (by omega) ?_ ?_
                · intro h27
                  refine n_iload c_163_64 rfl (n_iconst c_163_66 ?_)
                  refine n_if2_le c_163_67 (by omega) (by omega) ?_ ?_
                  · intro h28
                    refine n_iload c_163_93 rfl (n_aload_n c_163_95 rfl (n_getV (bi := 0) c_163_96 sc_112.n rfl rfl rfl (t_dm hS hdm) ?_))
                    intro z29 ez29 f30
                    obtain rfl : z29 = 2 := by omega
                    refine n_imul c_163_99 rfl (n_aload_n c_163_100 rfl (n_getR c_163_101 sc_112.n rfl rfl rfl r_112_6 (n_bipush c_163_104 rfl (n_iload_n c_163_106 rfl (n_imul c_163_107 rfl (n_iload c_163_108 rfl (n_iadd c_163_110 rfl (n_ialoadV c_163_111 sc_117.n rfl rfl rfl (by omega) (t_117 hS (by omega)) ?_))))))))
                    intro z31 ez31 f32
                    refine n_iadd c_163_112 rfl (n_istore (L2 := [some (2, 112), some (0, a), some (0, 8), some (0, x), some (0, y), some (0, w), some (0, s), some (0, z1), some (0, ((((((0 * 2) + z11) * 2) + z21) * 2) + z31)), some (0, (((8 - 1) + (-1)) + (-1))), some (0, z25)]) c_163_113 rfl rfl (n_iinc (L2 := [some (2, 112), some (0, a), some (0, 8), some (0, x), some (0, y), some (0, w), some (0, s), some (0, z1), some (0, ((((((0 * 2) + z11) * 2) + z21) * 2) + z31)), some (0, ((((8 - 1) + (-1)) + (-1)) + (-1))), some (0, z25)]) c_163_115 rfl rfl rfl (n_goto c_163_118 (n_iload c_163_16 rfl ?_))))
                    refine n_if0_lt c_163_18 (by omega) ?_ ?_
                    · intro h33
                      exfalso; omega
                    · intro h34
                      refine n_aload_n c_163_21 rfl (n_getR c_163_22 sc_112.n rfl rfl rfl r_112_18 (n_bipush c_163_25 rfl (n_iload_n c_163_27 rfl (n_imul c_163_28 rfl (n_iload c_163_29 rfl (n_iadd c_163_31 rfl (n_ialoadV c_163_32 sc_126.n rfl rfl rfl (by omega) (t_126 hS (by omega)) ?_)))))))
                      intro z35 ez35 f36
                      refine n_istore (L2 := [some (2, 112), some (0, a), some (0, 8), some (0, x), some (0, y), some (0, w), some (0, s), some (0, z1), some (0, ((((((0 * 2) + z11) * 2) + z21) * 2) + z31)), some (0, ((((8 - 1) + (-1)) + (-1)) + (-1))), some (0, z35)]) c_163_33 rfl rfl (n_iload c_163_35 rfl (n_iconst c_163_37 ?_))
                      refine n_if2_le c_163_38 (by omega) (by omega) ?_ ?_
                      · intro h37
                        refine n_iload c_163_64 rfl (n_iconst c_163_66 ?_)
                        refine n_if2_le c_163_67 (by omega) (by omega) ?_ ?_
                        · intro h38
                          refine n_iload c_163_93 rfl (n_aload_n c_163_95 rfl (n_getV (bi := 0) c_163_96 sc_112.n rfl rfl rfl (t_dm hS hdm) ?_))
                          intro z39 ez39 f40
                          obtain rfl : z39 = 2 := by omega
                          refine n_imul c_163_99 rfl (n_aload_n c_163_100 rfl (n_getR c_163_101 sc_112.n rfl rfl rfl r_112_6 (n_bipush c_163_104 rfl (n_iload_n c_163_106 rfl (n_imul c_163_107 rfl (n_iload c_163_108 rfl (n_iadd c_163_110 rfl (n_ialoadV c_163_111 sc_117.n rfl rfl rfl (by omega) (t_117 hS (by omega)) ?_))))))))
                          intro z41 ez41 f42
                          refine n_iadd c_163_112 rfl (n_istore (L2 := [some (2, 112), some (0, a), some (0, 8), some (0, x), some (0, y), some (0, w), some (0, s), some (0, z1), some (0, ((((((((0 * 2) + z11) * 2) + z21) * 2) + z31) * 2) + z41)), some (0, ((((8 - 1) + (-1)) + (-1)) + (-1))), some (0, z35)]) c_163_113 rfl rfl (n_iinc (L2 := [some (2, 112), some (0, a), some (0, 8), some (0, x), some (0, y), some (0, w), some (0, s), some (0, z1), some (0, ((((((((0 * 2) + z11) * 2) + z21) * 2) + z31) * 2) + z41)), some (0, (((((8 - 1) + (-1)) + (-1)) + (-1)) + (-1))), some (0, z35)]) c_163_115 rfl rfl rfl (n_goto c_163_118 (n_iload c_163_16 rfl ?_))))
                          refine n_if0_lt c_163_18 (by omega) ?_ ?_
                          · intro h43
                            exfalso; omega
                          · intro h44
                            refine n_aload_n c_163_21 rfl (n_getR c_163_22 sc_112.n rfl rfl rfl r_112_18 (n_bipush c_163_25 rfl (n_iload_n c_163_27 rfl (n_imul c_163_28 rfl (n_iload c_163_29 rfl (n_iadd c_163_31 rfl (n_ialoadV c_163_32 sc_126.n rfl rfl rfl (by omega) (t_126 hS (by omega)) ?_)))))))
                            intro z45 ez45 f46
                            refine n_istore (L2 := [some (2, 112), some (0, a), some (0, 8), some (0, x), some (0, y), some (0, w), some (0, s), some (0, z1), some (0, ((((((((0 * 2) + z11) * 2) + z21) * 2) + z31) * 2) + z41)), some (0, (((((8 - 1) + (-1)) + (-1)) + (-1)) + (-1))), some (0, z45)]) c_163_33 rfl rfl (n_iload c_163_35 rfl (n_iconst c_163_37 ?_))
                            refine n_if2_le c_163_38 (by omega) (by omega) ?_ ?_
                            · intro h47
                              refine n_iload c_163_64 rfl (n_iconst c_163_66 ?_)
                              refine n_if2_le c_163_67 (by omega) (by omega) ?_ ?_
                              · intro h48
                                refine n_iload c_163_93 rfl (n_aload_n c_163_95 rfl (n_getV (bi := 0) c_163_96 sc_112.n rfl rfl rfl (t_dm hS hdm) ?_))
                                intro z49 ez49 f50
                                obtain rfl : z49 = 2 := by omega
                                refine n_imul c_163_99 rfl (n_aload_n c_163_100 rfl (n_getR c_163_101 sc_112.n rfl rfl rfl r_112_6 (n_bipush c_163_104 rfl (n_iload_n c_163_106 rfl (n_imul c_163_107 rfl (n_iload c_163_108 rfl (n_iadd c_163_110 rfl (n_ialoadV c_163_111 sc_117.n rfl rfl rfl (by omega) (t_117 hS (by omega)) ?_))))))))
                                intro z51 ez51 f52
                                refine n_iadd c_163_112 rfl (n_istore (L2 := [some (2, 112), some (0, a), some (0, 8), some (0, x), some (0, y), some (0, w), some (0, s), some (0, z1), some (0, ((((((((((0 * 2) + z11) * 2) + z21) * 2) + z31) * 2) + z41) * 2) + z51)), some (0, (((((8 - 1) + (-1)) + (-1)) + (-1)) + (-1))), some (0, z45)]) c_163_113 rfl rfl (n_iinc (L2 := [some (2, 112), some (0, a), some (0, 8), some (0, x), some (0, y), some (0, w), some (0, s), some (0, z1), some (0, ((((((((((0 * 2) + z11) * 2) + z21) * 2) + z31) * 2) + z41) * 2) + z51)), some (0, ((((((8 - 1) + (-1)) + (-1)) + (-1)) + (-1)) + (-1))), some (0, z45)]) c_163_115 rfl rfl rfl (n_goto c_163_118 (n_iload c_163_16 rfl ?_))))
                                refine n_if0_lt c_163_18 (by omega) ?_ ?_
                                · intro h53
                                  exfalso; omega
                                · intro h54
                                  refine n_aload_n c_163_21 rfl (n_getR c_163_22 sc_112.n rfl rfl rfl r_112_18 (n_bipush c_163_25 rfl (n_iload_n c_163_27 rfl (n_imul c_163_28 rfl (n_iload c_163_29 rfl (n_iadd c_163_31 rfl (n_ialoadV c_163_32 sc_126.n rfl rfl rfl (by omega) (t_126 hS (by omega)) ?_)))))))
                                  intro z55 ez55 f56
                                  refine n_istore (L2 := [some (2, 112), some (0, a), some (0, 8), some (0, x), some (0, y), some (0, w), some (0, s), some (0, z1), some (0, ((((((((((0 * 2) + z11) * 2) + z21) * 2) + z31) * 2) + z41) * 2) + z51)), some (0, ((((((8 - 1) + (-1)) + (-1)) + (-1)) + (-1)) + (-1))), some (0, z55)]) c_163_33 rfl rfl (n_iload c_163_35 rfl (n_iconst c_163_37 ?_))
                                  refine n_if2_le c_163_38 (by omega) (by omega) ?_ ?_
                                  · intro h57
                                    refine n_iload c_163_64 rfl (n_iconst c_163_66 ?_)
                                    refine n_if2_le c_163_67 (by omega) (by omega) ?_ ?_
                                    · intro h58
                                      refine n_iload c_163_93 rfl (n_aload_n c_163_95 rfl (n_getV (bi := 0) c_163_96 sc_112.n rfl rfl rfl (t_dm hS hdm) ?_))
                                      intro z59 ez59 f60
                                      obtain rfl : z59 = 2 := by omega
                                      refine n_imul c_163_99 rfl (n_aload_n c_163_100 rfl (n_getR c_163_101 sc_112.n rfl rfl rfl r_112_6 (n_bipush c_163_104 rfl (n_iload_n c_163_106 rfl (n_imul c_163_107 rfl (n_iload c_163_108 rfl (n_iadd c_163_110 rfl (n_ialoadV c_163_111 sc_117.n rfl rfl rfl (by omega) (t_117 hS (by omega)) ?_))))))))
                                      intro z61 ez61 f62
                                      refine n_iadd c_163_112 rfl (n_istore (L2 := [some (2, 112), some (0, a), some (0, 8), some (0, x), some (0, y), some (0, w), some (0, s), some (0, z1), some (0, ((((((((((((0 * 2) + z11) * 2) + z21) * 2) + z31) * 2) + z41) * 2) + z51) * 2) + z61)), some (0, ((((((8 - 1) + (-1)) + (-1)) + (-1)) + (-1)) + (-1))), some (0, z55)]) c_163_113 rfl rfl (n_iinc (L2 := [some (2, 112), some (0, a), some (0, 8), some (0, x), some (0, y), some (0, w), some (0, s), some (0, z1), some (0, ((((((((((((0 * 2) + z11) * 2) + z21) * 2) + z31) * 2) + z41) * 2) + z51) * 2) + z61)), some (0, (((((((8 - 1) + (-1)) + (-1)) + (-1)) + (-1)) + (-1)) + (-1))), some (0, z55)]) c_163_115 rfl rfl rfl (n_goto c_163_118 (n_iload c_163_16 rfl ?_))))
                                      refine n_if0_lt c_163_18 (by omega) ?_ ?_
                                      · intro h63
                                        exfalso; omega
                                      · intro h64
                                        refine n_aload_n c_163_21 rfl (n_getR c_163_22 sc_112.n rfl rfl rfl r_112_18 (n_bipush c_163_25 rfl (n_iload_n c_163_27 rfl (n_imul c_163_28 rfl (n_iload c_163_29 rfl (n_iadd c_163_31 rfl (n_ialoadV c_163_32 sc_126.n rfl rfl rfl (by omega) (t_126 hS (by omega)) ?_)))))))
                                        intro z65 ez65 f66
                                        refine n_istore (L2 := [some (2, 112), some (0, a), some (0, 8), some (0, x), some (0, y), some (0, w), some (0, s), some (0, z1), some (0, ((((((((((((0 * 2) + z11) * 2) + z21) * 2) + z31) * 2) + z41) * 2) + z51) * 2) + z61)), some (0, (((((((8 - 1) + (-1)) + (-1)) + (-1)) + (-1)) + (-1)) + (-1))), some (0, z65)]) c_163_33 rfl rfl (n_iload c_163_35 rfl (n_iconst c_163_37 ?_))
                                        refine n_if2_le c_163_38 (by omega) (by omega) ?_ ?_
                                        · intro h67
                                          refine n_iload c_163_64 rfl (n_iconst c_163_66 ?_)
                                          refine n_if2_le c_163_67 (by omega) (by omega) ?_ ?_
                                          · intro h68
                                            refine n_iload c_163_93 rfl (n_aload_n c_163_95 rfl (n_getV (bi := 0) c_163_96 sc_112.n rfl rfl rfl (t_dm hS hdm) ?_))
                                            intro z69 ez69 f70
                                            obtain rfl : z69 = 2 := by omega
                                            refine n_imul c_163_99 rfl (n_aload_n c_163_100 rfl (n_getR c_163_101 sc_112.n rfl rfl rfl r_112_6 (n_bipush c_163_104 rfl (n_iload_n c_163_106 rfl (n_imul c_163_107 rfl (n_iload c_163_108 rfl (n_iadd c_163_110 rfl (n_ialoadV c_163_111 sc_117.n rfl rfl rfl (by omega) (t_117 hS (by omega)) ?_))))))))
                                            intro z71 ez71 f72
                                            refine n_iadd c_163_112 rfl (n_istore (L2 := [some (2, 112), some (0, a), some (0, 8), some (0, x), some (0, y), some (0, w), some (0, s), some (0, z1), some (0, ((((((((((((((0 * 2) + z11) * 2) + z21) * 2) + z31) * 2) + z41) * 2) + z51) * 2) + z61) * 2) + z71)), some (0, (((((((8 - 1) + (-1)) + (-1)) + (-1)) + (-1)) + (-1)) + (-1))), some (0, z65)]) c_163_113 rfl rfl (n_iinc (L2 := [some (2, 112), some (0, a), some (0, 8), some (0, x), some (0, y), some (0, w), some (0, s), some (0, z1), some (0, ((((((((((((((0 * 2) + z11) * 2) + z21) * 2) + z31) * 2) + z41) * 2) + z51) * 2) + z61) * 2) + z71)), some (0, ((((((((8 - 1) + (-1)) + (-1)) + (-1)) + (-1)) + (-1)) + (-1)) + (-1))), some (0, z65)]) c_163_115 rfl rfl rfl (n_goto c_163_118 (n_iload c_163_16 rfl ?_))))
                                            refine n_if0_lt c_163_18 (by omega) ?_ ?_
                                            · intro h73
                                              exfalso; omega
                                            · intro h74
                                              refine n_aload_n c_163_21 rfl (n_getR c_163_22 sc_112.n rfl rfl rfl r_112_18 (n_bipush c_163_25 rfl (n_iload_n c_163_27 rfl (n_imul c_163_28 rfl (n_iload c_163_29 rfl (n_iadd c_163_31 rfl (n_ialoadV c_163_32 sc_126.n rfl rfl rfl (by omega) (t_126 hS (by omega)) ?_)))))))
                                              intro z75 ez75 f76
                                              refine n_istore (L2 := [some (2, 112), some (0, a), some (0, 8), some (0, x), some (0, y), some (0, w), some (0, s), some (0, z1), some (0, ((((((((((((((0 * 2) + z11) * 2) + z21) * 2) + z31) * 2) + z41) * 2) + z51) * 2) + z61) * 2) + z71)), some (0, ((((((((8 - 1) + (-1)) + (-1)) + (-1)) + (-1)) + (-1)) + (-1)) + (-1))), some (0, z75)]) c_163_33 rfl rfl (n_iload c_163_35 rfl (n_iconst c_163_37 ?_))
                                              refine n_if2_le c_163_38 (by omega) (by omega) ?_ ?_
                                              · intro h77
                                                refine n_iload c_163_64 rfl (n_iconst c_163_66 ?_)
                                                refine n_if2_le c_163_67 (by omega) (by omega) ?_ ?_
                                                · intro h78
                                                  refine n_iload c_163_93 rfl (n_aload_n c_163_95 rfl (n_getV (bi := 0) c_163_96 sc_112.n rfl rfl rfl (t_dm hS hdm) ?_))
                                                  intro z79 ez79 f80
                                                  obtain rfl : z79 = 2 := by omega
                                                  refine n_imul c_163_99 rfl (n_aload_n c_163_100 rfl (n_getR c_163_101 sc_112.n rfl rfl rfl r_112_6 (n_bipush c_163_104 rfl (n_iload_n c_163_106 rfl (n_imul c_163_107 rfl (n_iload c_163_108 rfl (n_iadd c_163_110 rfl (n_ialoadV c_163_111 sc_117.n rfl rfl rfl (by omega) (t_117 hS (by omega)) ?_))))))))
                                                  intro z81 ez81 f82
                                                  refine n_iadd c_163_112 rfl (n_istore (L2 := [some (2, 112), some (0, a), some (0, 8), some (0, x), some (0, y), some (0, w), some (0, s), some (0, z1), some (0, ((((((((((((((((0 * 2) + z11) * 2) + z21) * 2) + z31) * 2) + z41) * 2) + z51) * 2) + z61) * 2) + z71) * 2) + z81)), some (0, ((((((((8 - 1) + (-1)) + (-1)) + (-1)) + (-1)) + (-1)) + (-1)) + (-1))), some (0, z75)]) c_163_113 rfl rfl (n_iinc (L2 := [some (2, 112), some (0, a), some (0, 8), some (0, x), some (0, y), some (0, w), some (0, s), some (0, z1), some (0, ((((((((((((((((0 * 2) + z11) * 2) + z21) * 2) + z31) * 2) + z41) * 2) + z51) * 2) + z61) * 2) + z71) * 2) + z81)), some (0, (((((((((8 - 1) + (-1)) + (-1)) + (-1)) + (-1)) + (-1)) + (-1)) + (-1)) + (-1))), some (0, z75)]) c_163_115 rfl rfl rfl (n_goto c_163_118 (n_iload c_163_16 rfl ?_))))
                                                  refine n_if0_lt c_163_18 (by omega) ?_ ?_
                                                  · intro h83
                                                    refine n_aload_n c_163_121 rfl (n_getR c_163_122 sc_112.n rfl rfl rfl r_112_17 (n_iload c_163_125 rfl (n_ialoadV c_163_127 sc_125.n rfl rfl rfl (by omega) (t_125 hS (by omega)) ?_)))
                                                    intro z84 ez84 f85
                                                    refine n_if0_eq c_163_128 (by omega) ?_ ?_
                                                    · intro h86
                                                      refine n_fg (le_s (le_n (le_n (le_n (le_n (le_n (le_s (le_n (le_s (le_n (le_n le_0))))))))))) ?_
                                                      exact (mjoined8_2_c hS hdm ha hx hy hw hs 14).1 _ M hS (by omega) (by omega)
                                                    · intro h87
                                                      refine n_aload_n c_163_131 rfl (n_getR c_163_132 sc_112.n rfl rfl rfl r_112_17 (n_iload c_163_135 rfl (n_ialoadV c_163_137 sc_125.n rfl rfl rfl (by omega) (t_125 hS (by omega)) ?_)))
                                                      intro z88 ez88 f89
                                                      refine n_iload c_163_138 rfl (n_iconst c_163_140 (n_iadd c_163_141 rfl ?_))
                                                      refine n_if2_le c_163_142 (by omega) (by omega) ?_ ?_
                                                      · intro h90
                                                        refine n_fg (le_n (le_n (le_n (le_n (le_n (le_n (le_n (le_n (le_n (le_n (le_n le_0))))))))))) ?_
                                                        exact (mjoined8_2_c hS hdm ha hx hy hw hs 14).2  M hS  (by omega)
                                                      · intro h91
                                                        refine n_fg (le_s (le_n (le_n (le_n (le_n (le_n (le_s (le_n (le_s (le_n (le_n le_0))))))))))) ?_
                                                        exact (mjoined8_2_c hS hdm ha hx hy hw hs 14).1 _ M hS (by omega) (by omega)
                                                  · intro h92
                                                    exfalso; omega
                                                · intro h93
                                                  exfalso; omega
                                              · intro h94
                                                exfalso; omega
                                          · intro h95
                                            exfalso; omega
                                        · intro h96
                                          exfalso; omega
                                    · intro h97
                                      exfalso; omega
                                  · intro h98
                                    exfalso; omega
                              · intro h99
                                exfalso; omega
                            · intro h100
                              exfalso; omega
                        · intro h101
                          exfalso; omega
                      · intro h102
                        exfalso; omega
                  · intro h103
                    exfalso; omega
                · intro h104
                  exfalso; omega
            · intro h105
              exfalso; omega
          · intro h106
            exfalso; omega
      · intro h107
        exfalso; omega
    · intro h108
      refine n_iload c_163_41 rfl (n_aload_n c_163_43 rfl (n_getV (bi := 0) c_163_44 sc_112.n rfl rfl rfl (t_dm hS hdm) ?_))
      intro z109 ez109 f110
      obtain rfl : z109 = 2 := by omega
      refine n_imul c_163_47 rfl (n_aload_n c_163_48 rfl (n_getR c_163_49 sc_112.n rfl rfl rfl r_112_18 (n_bipush c_163_52 rfl (n_iload c_163_54 rfl (n_imul c_163_56 rfl (n_iload c_163_57 rfl (n_iadd c_163_59 rfl (n_ialoadV c_163_60 sc_126.n rfl rfl rfl (by omega) (t_126 hS (by omega)) ?_))))))))
      intro z111 ez111 f112
      refine n_iadd c_163_61 rfl (n_istore (L2 := [some (2, 112), some (0, a), some (0, 8), some (0, x), some (0, y), some (0, w), some (0, s), some (0, z1), some (0, 0), some (0, (8 - 1)), some (0, ((z5 * 2) + z111))]) c_163_62 rfl rfl (n_iload c_163_64 rfl (n_iconst c_163_66 ?_)))
      refine n_if2_le c_163_67 (by omega) (by omega) ?_ ?_
      · intro h113
        refine n_iload c_163_93 rfl (n_aload_n c_163_95 rfl (n_getV (bi := 0) c_163_96 sc_112.n rfl rfl rfl (t_dm hS hdm) ?_))
        intro z114 ez114 f115
        obtain rfl : z114 = 2 := by omega
        refine n_imul c_163_99 rfl (n_aload_n c_163_100 rfl (n_getR c_163_101 sc_112.n rfl rfl rfl r_112_6 (n_bipush c_163_104 rfl (n_iload_n c_163_106 rfl (n_imul c_163_107 rfl (n_iload c_163_108 rfl (n_iadd c_163_110 rfl (n_ialoadV c_163_111 sc_117.n rfl rfl rfl (by omega) (t_117 hS (by omega)) ?_))))))))
        intro z116 ez116 f117
        refine n_iadd c_163_112 rfl (n_istore (L2 := [some (2, 112), some (0, a), some (0, 8), some (0, x), some (0, y), some (0, w), some (0, s), some (0, z1), some (0, ((0 * 2) + z116)), some (0, (8 - 1)), some (0, ((z5 * 2) + z111))]) c_163_113 rfl rfl (n_iinc (L2 := [some (2, 112), some (0, a), some (0, 8), some (0, x), some (0, y), some (0, w), some (0, s), some (0, z1), some (0, ((0 * 2) + z116)), some (0, ((8 - 1) + (-1))), some (0, ((z5 * 2) + z111))]) c_163_115 rfl rfl rfl (n_goto c_163_118 (n_iload c_163_16 rfl ?_))))
        refine n_if0_lt c_163_18 (by omega) ?_ ?_
        · intro h118
          exfalso; omega
        · intro h119
          refine n_aload_n c_163_21 rfl (n_getR c_163_22 sc_112.n rfl rfl rfl r_112_18 (n_bipush c_163_25 rfl (n_iload_n c_163_27 rfl (n_imul c_163_28 rfl (n_iload c_163_29 rfl (n_iadd c_163_31 rfl (n_ialoadV c_163_32 sc_126.n rfl rfl rfl (by omega) (t_126 hS (by omega)) ?_)))))))
          intro z120 ez120 f121
          refine n_istore (L2 := [some (2, 112), some (0, a), some (0, 8), some (0, x), some (0, y), some (0, w), some (0, s), some (0, z1), some (0, ((0 * 2) + z116)), some (0, ((8 - 1) + (-1))), some (0, z120)]) c_163_33 rfl rfl (n_iload c_163_35 rfl (n_iconst c_163_37 ?_))
          refine n_if2_le c_163_38 (by omega) (by omega) ?_ ?_
          · intro h122
            exfalso; omega
          · intro h123
            refine n_iload c_163_41 rfl (n_aload_n c_163_43 rfl (n_getV (bi := 0) c_163_44 sc_112.n rfl rfl rfl (t_dm hS hdm) ?_))
            intro z124 ez124 f125
            obtain rfl : z124 = 2 := by omega
            refine n_imul c_163_47 rfl (n_aload_n c_163_48 rfl (n_getR c_163_49 sc_112.n rfl rfl rfl r_112_18 (n_bipush c_163_52 rfl (n_iload c_163_54 rfl (n_imul c_163_56 rfl (n_iload c_163_57 rfl (n_iadd c_163_59 rfl (n_ialoadV c_163_60 sc_126.n rfl rfl rfl (by omega) (t_126 hS (by omega)) ?_))))))))
            intro z126 ez126 f127
            refine n_iadd c_163_61 rfl (n_istore (L2 := [some (2, 112), some (0, a), some (0, 8), some (0, x), some (0, y), some (0, w), some (0, s), some (0, z1), some (0, ((0 * 2) + z116)), some (0, ((8 - 1) + (-1))), some (0, ((z120 * 2) + z126))]) c_163_62 rfl rfl (n_iload c_163_64 rfl (n_iconst c_163_66 ?_)))
            refine n_if2_le c_163_67 (by omega) (by omega) ?_ ?_
            · intro h128
              refine n_iload c_163_93 rfl (n_aload_n c_163_95 rfl (n_getV (bi := 0) c_163_96 sc_112.n rfl rfl rfl (t_dm hS hdm) ?_))
              intro z129 ez129 f130
              obtain rfl : z129 = 2 := by omega
              refine n_imul c_163_99 rfl (n_aload_n c_163_100 rfl (n_getR c_163_101 sc_112.n rfl rfl rfl r_112_6 (n_bipush c_163_104 rfl (n_iload_n c_163_106 rfl (n_imul c_163_107 rfl (n_iload c_163_108 rfl (n_iadd c_163_110 rfl (n_ialoadV c_163_111 sc_117.n rfl rfl rfl (by omega) (t_117 hS (by omega)) ?_))))))))
              intro z131 ez131 f132
              refine n_iadd c_163_112 rfl (n_istore (L2 := [some (2, 112), some (0, a), some (0, 8), some (0, x), some (0, y), some (0, w), some (0, s), some (0, z1), some (0, ((((0 * 2) + z116) * 2) + z131)), some (0, ((8 - 1) + (-1))), some (0, ((z120 * 2) + z126))]) c_163_113 rfl rfl (n_iinc (L2 := [some (2, 112), some (0, a), some (0, 8), some (0, x), some (0, y), some (0, w), some (0, s), some (0, z1), some (0, ((((0 * 2) + z116) * 2) + z131)), some (0, (((8 - 1) + (-1)) + (-1))), some (0, ((z120 * 2) + z126))]) c_163_115 rfl rfl rfl (n_goto c_163_118 (n_iload c_163_16 rfl ?_))))
              refine n_if0_lt c_163_18 (by omega) ?_ ?_
              · intro h133
                exfalso; omega
              · intro h134
                refine n_aload_n c_163_21 rfl (n_getR c_163_22 sc_112.n rfl rfl rfl r_112_18 (n_bipush c_163_25 rfl (n_iload_n c_163_27 rfl (n_imul c_163_28 rfl (n_iload c_163_29 rfl (n_iadd c_163_31 rfl (n_ialoadV c_163_32 sc_126.n rfl rfl rfl (by omega) (t_126 hS (by omega)) ?_)))))))
                intro z135 ez135 f136
                refine n_istore (L2 := [some (2, 112), some (0, a), some (0, 8), some (0, x), some (0, y), some (0, w), some (0, s), some (0, z1), some (0, ((((0 * 2) + z116) * 2) + z131)), some (0, (((8 - 1) + (-1)) + (-1))), some (0, z135)]) c_163_33 rfl rfl (n_iload c_163_35 rfl (n_iconst c_163_37 ?_))
                refine n_if2_le c_163_38 (by omega) (by omega) ?_ ?_
                · intro h137
                  exfalso; omega
                · intro h138
                  refine n_iload c_163_41 rfl (n_aload_n c_163_43 rfl (n_getV (bi := 0) c_163_44 sc_112.n rfl rfl rfl (t_dm hS hdm) ?_))
                  intro z139 ez139 f140
                  obtain rfl : z139 = 2 := by omega
                  refine n_imul c_163_47 rfl (n_aload_n c_163_48 rfl (n_getR c_163_49 sc_112.n rfl rfl rfl r_112_18 (n_bipush c_163_52 rfl (n_iload c_163_54 rfl (n_imul c_163_56 rfl (n_iload c_163_57 rfl (n_iadd c_163_59 rfl (n_ialoadV c_163_60 sc_126.n rfl rfl rfl (by omega) (t_126 hS (by omega)) ?_))))))))
                  intro z141 ez141 f142
                  refine n_iadd c_163_61 rfl (n_istore (L2 := [some (2, 112), some (0, a), some (0, 8), some (0, x), some (0, y), some (0, w), some (0, s), some (0, z1), some (0, ((((0 * 2) + z116) * 2) + z131)), some (0, (((8 - 1) + (-1)) + (-1))), some (0, ((z135 * 2) + z141))]) c_163_62 rfl rfl (n_iload c_163_64 rfl (n_iconst c_163_66 ?_)))
                  refine n_if2_le c_163_67 (by omega) (by omega) ?_ ?_
                  · intro h143
                    refine n_iload c_163_93 rfl (n_aload_n c_163_95 rfl (n_getV (bi := 0) c_163_96 sc_112.n rfl rfl rfl (t_dm hS hdm) ?_))
                    intro z144 ez144 f145
                    obtain rfl : z144 = 2 := by omega
                    refine n_imul c_163_99 rfl (n_aload_n c_163_100 rfl (n_getR c_163_101 sc_112.n rfl rfl rfl r_112_6 (n_bipush c_163_104 rfl (n_iload_n c_163_106 rfl (n_imul c_163_107 rfl (n_iload c_163_108 rfl (n_iadd c_163_110 rfl (n_ialoadV c_163_111 sc_117.n rfl rfl rfl (by omega) (t_117 hS (by omega)) ?_))))))))
                    intro z146 ez146 f147
                    refine n_iadd c_163_112 rfl (n_istore (L2 := [some (2, 112), some (0, a), some (0, 8), some (0, x), some (0, y), some (0, w), some (0, s), some (0, z1), some (0, ((((((0 * 2) + z116) * 2) + z131) * 2) + z146)), some (0, (((8 - 1) + (-1)) + (-1))), some (0, ((z135 * 2) + z141))]) c_163_113 rfl rfl (n_iinc (L2 := [some (2, 112), some (0, a), some (0, 8), some (0, x), some (0, y), some (0, w), some (0, s), some (0, z1), some (0, ((((((0 * 2) + z116) * 2) + z131) * 2) + z146)), some (0, ((((8 - 1) + (-1)) + (-1)) + (-1))), some (0, ((z135 * 2) + z141))]) c_163_115 rfl rfl rfl (n_goto c_163_118 (n_iload c_163_16 rfl ?_))))
                    refine n_if0_lt c_163_18 (by omega) ?_ ?_
                    · intro h148
                      exfalso; omega
                    · intro h149
                      refine n_aload_n c_163_21 rfl (n_getR c_163_22 sc_112.n rfl rfl rfl r_112_18 (n_bipush c_163_25 rfl (n_iload_n c_163_27 rfl (n_imul c_163_28 rfl (n_iload c_163_29 rfl (n_iadd c_163_31 rfl (n_ialoadV c_163_32 sc_126.n rfl rfl rfl (by omega) (t_126 hS (by omega)) ?_)))))))
                      intro z150 ez150 f151
                      refine n_istore (L2 := [some (2, 112), some (0, a), some (0, 8), some (0, x), some (0, y), some (0, w), some (0, s), some (0, z1), some (0, ((((((0 * 2) + z116) * 2) + z131) * 2) + z146)), some (0, ((((8 - 1) + (-1)) + (-1)) + (-1))), some (0, z150)]) c_163_33 rfl rfl (n_iload c_163_35 rfl (n_iconst c_163_37 ?_))
                      refine n_if2_le c_163_38 (by omega) (by omega) ?_ ?_
                      · intro h152
                        exfalso; omega
                      · intro h153
                        refine n_iload c_163_41 rfl (n_aload_n c_163_43 rfl (n_getV (bi := 0) c_163_44 sc_112.n rfl rfl rfl (t_dm hS hdm) ?_))
                        intro z154 ez154 f155
                        obtain rfl : z154 = 2 := by omega
                        refine n_imul c_163_47 rfl (n_aload_n c_163_48 rfl (n_getR c_163_49 sc_112.n rfl rfl rfl r_112_18 (n_bipush c_163_52 rfl (n_iload c_163_54 rfl (n_imul c_163_56 rfl (n_iload c_163_57 rfl (n_iadd c_163_59 rfl (n_ialoadV c_163_60 sc_126.n rfl rfl rfl (by omega) (t_126 hS (by omega)) ?_))))))))
                        intro z156 ez156 f157
                        refine n_iadd c_163_61 rfl (n_istore (L2 := [some (2, 112), some (0, a), some (0, 8), some (0, x), some (0, y), some (0, w), some (0, s), some (0, z1), some (0, ((((((0 * 2) + z116) * 2) + z131) * 2) + z146)), some (0, ((((8 - 1) + (-1)) + (-1)) + (-1))), some (0, ((z150 * 2) + z156))]) c_163_62 rfl rfl (n_iload c_163_64 rfl (n_iconst c_163_66 ?_)))
                        refine n_if2_le c_163_67 (by omega) (by omega) ?_ ?_
                        · intro h158
                          refine n_iload c_163_93 rfl (n_aload_n c_163_95 rfl (n_getV (bi := 0) c_163_96 sc_112.n rfl rfl rfl (t_dm hS hdm) ?_))
                          intro z159 ez159 f160
                          obtain rfl : z159 = 2 := by omega
                          refine n_imul c_163_99 rfl (n_aload_n c_163_100 rfl (n_getR c_163_101 sc_112.n rfl rfl rfl r_112_6 (n_bipush c_163_104 rfl (n_iload_n c_163_106 rfl (n_imul c_163_107 rfl (n_iload c_163_108 rfl (n_iadd c_163_110 rfl (n_ialoadV c_163_111 sc_117.n rfl rfl rfl (by omega) (t_117 hS (by omega)) ?_))))))))
                          intro z161 ez161 f162
                          refine n_iadd c_163_112 rfl (n_istore (L2 := [some (2, 112), some (0, a), some (0, 8), some (0, x), some (0, y), some (0, w), some (0, s), some (0, z1), some (0, ((((((((0 * 2) + z116) * 2) + z131) * 2) + z146) * 2) + z161)), some (0, ((((8 - 1) + (-1)) + (-1)) + (-1))), some (0, ((z150 * 2) + z156))]) c_163_113 rfl rfl (n_iinc (L2 := [some (2, 112), some (0, a), some (0, 8), some (0, x), some (0, y), some (0, w), some (0, s), some (0, z1), some (0, ((((((((0 * 2) + z116) * 2) + z131) * 2) + z146) * 2) + z161)), some (0, (((((8 - 1) + (-1)) + (-1)) + (-1)) + (-1))), some (0, ((z150 * 2) + z156))]) c_163_115 rfl rfl rfl (n_goto c_163_118 (n_iload c_163_16 rfl ?_))))
                          refine n_if0_lt c_163_18 (by omega) ?_ ?_
                          · intro h163
                            exfalso; omega
                          · intro h164
                            refine n_aload_n c_163_21 rfl (n_getR c_163_22 sc_112.n rfl rfl rfl r_112_18 (n_bipush c_163_25 rfl (n_iload_n c_163_27 rfl (n_imul c_163_28 rfl (n_iload c_163_29 rfl (n_iadd c_163_31 rfl (n_ialoadV c_163_32 sc_126.n rfl rfl rfl (by omega) (t_126 hS (by omega)) ?_)))))))
                            intro z165 ez165 f166
                            refine n_istore (L2 := [some (2, 112), some (0, a), some (0, 8), some (0, x), some (0, y), some (0, w), some (0, s), some (0, z1), some (0, ((((((((0 * 2) + z116) * 2) + z131) * 2) + z146) * 2) + z161)), some (0, (((((8 - 1) + (-1)) + (-1)) + (-1)) + (-1))), some (0, z165)]) c_163_33 rfl rfl (n_iload c_163_35 rfl (n_iconst c_163_37 ?_))
                            refine n_if2_le c_163_38 (by omega) (by omega) ?_ ?_
                            · intro h167
                              exfalso; omega
                            · intro h168
                              refine n_iload c_163_41 rfl (n_aload_n c_163_43 rfl (n_getV (bi := 0) c_163_44 sc_112.n rfl rfl rfl (t_dm hS hdm) ?_))
                              intro z169 ez169 f170
                              obtain rfl : z169 = 2 := by omega
                              refine n_imul c_163_47 rfl (n_aload_n c_163_48 rfl (n_getR c_163_49 sc_112.n rfl rfl rfl r_112_18 (n_bipush c_163_52 rfl (n_iload c_163_54 rfl (n_imul c_163_56 rfl (n_iload c_163_57 rfl (n_iadd c_163_59 rfl (n_ialoadV c_163_60 sc_126.n rfl rfl rfl (by omega) (t_126 hS (by omega)) ?_))))))))
                              intro z171 ez171 f172
                              refine n_iadd c_163_61 rfl (n_istore (L2 := [some (2, 112), some (0, a), some (0, 8), some (0, x), some (0, y), some (0, w), some (0, s), some (0, z1), some (0, ((((((((0 * 2) + z116) * 2) + z131) * 2) + z146) * 2) + z161)), some (0, (((((8 - 1) + (-1)) + (-1)) + (-1)) + (-1))), some (0, ((z165 * 2) + z171))]) c_163_62 rfl rfl (n_iload c_163_64 rfl (n_iconst c_163_66 ?_)))
                              refine n_if2_le c_163_67 (by omega) (by omega) ?_ ?_
                              · intro h173
                                refine n_iload c_163_93 rfl (n_aload_n c_163_95 rfl (n_getV (bi := 0) c_163_96 sc_112.n rfl rfl rfl (t_dm hS hdm) ?_))
                                intro z174 ez174 f175
                                obtain rfl : z174 = 2 := by omega
                                refine n_imul c_163_99 rfl (n_aload_n c_163_100 rfl (n_getR c_163_101 sc_112.n rfl rfl rfl r_112_6 (n_bipush c_163_104 rfl (n_iload_n c_163_106 rfl (n_imul c_163_107 rfl (n_iload c_163_108 rfl (n_iadd c_163_110 rfl (n_ialoadV c_163_111 sc_117.n rfl rfl rfl (by omega) (t_117 hS (by omega)) ?_))))))))
                                intro z176 ez176 f177
                                refine n_iadd c_163_112 rfl (n_istore (L2 := [some (2, 112), some (0, a), some (0, 8), some (0, x), some (0, y), some (0, w), some (0, s), some (0, z1), some (0, ((((((((((0 * 2) + z116) * 2) + z131) * 2) + z146) * 2) + z161) * 2) + z176)), some (0, (((((8 - 1) + (-1)) + (-1)) + (-1)) + (-1))), some (0, ((z165 * 2) + z171))]) c_163_113 rfl rfl (n_iinc (L2 := [some (2, 112), some (0, a), some (0, 8), some (0, x), some (0, y), some (0, w), some (0, s), some (0, z1), some (0, ((((((((((0 * 2) + z116) * 2) + z131) * 2) + z146) * 2) + z161) * 2) + z176)), some (0, ((((((8 - 1) + (-1)) + (-1)) + (-1)) + (-1)) + (-1))), some (0, ((z165 * 2) + z171))]) c_163_115 rfl rfl rfl (n_goto c_163_118 (n_iload c_163_16 rfl ?_))))
                                refine n_if0_lt c_163_18 (by omega) ?_ ?_
                                · intro h178
                                  exfalso; omega
                                · intro h179
                                  refine n_aload_n c_163_21 rfl (n_getR c_163_22 sc_112.n rfl rfl rfl r_112_18 (n_bipush c_163_25 rfl (n_iload_n c_163_27 rfl (n_imul c_163_28 rfl (n_iload c_163_29 rfl (n_iadd c_163_31 rfl (n_ialoadV c_163_32 sc_126.n rfl rfl rfl (by omega) (t_126 hS (by omega)) ?_)))))))
                                  intro z180 ez180 f181
                                  refine n_istore (L2 := [some (2, 112), some (0, a), some (0, 8), some (0, x), some (0, y), some (0, w), some (0, s), some (0, z1), some (0, ((((((((((0 * 2) + z116) * 2) + z131) * 2) + z146) * 2) + z161) * 2) + z176)), some (0, ((((((8 - 1) + (-1)) + (-1)) + (-1)) + (-1)) + (-1))), some (0, z180)]) c_163_33 rfl rfl (n_iload c_163_35 rfl (n_iconst c_163_37 ?_))
                                  refine n_if2_le c_163_38 (by omega) (by omega) ?_ ?_
                                  · intro h182
                                    exfalso; omega
                                  · intro h183
                                    refine n_iload c_163_41 rfl (n_aload_n c_163_43 rfl (n_getV (bi := 0) c_163_44 sc_112.n rfl rfl rfl (t_dm hS hdm) ?_))
                                    intro z184 ez184 f185
                                    obtain rfl : z184 = 2 := by omega
                                    refine n_imul c_163_47 rfl (n_aload_n c_163_48 rfl (n_getR c_163_49 sc_112.n rfl rfl rfl r_112_18 (n_bipush c_163_52 rfl (n_iload c_163_54 rfl (n_imul c_163_56 rfl (n_iload c_163_57 rfl (n_iadd c_163_59 rfl (n_ialoadV c_163_60 sc_126.n rfl rfl rfl (by omega) (t_126 hS (by omega)) ?_))))))))
                                    intro z186 ez186 f187
                                    refine n_iadd c_163_61 rfl (n_istore (L2 := [some (2, 112), some (0, a), some (0, 8), some (0, x), some (0, y), some (0, w), some (0, s), some (0, z1), some (0, ((((((((((0 * 2) + z116) * 2) + z131) * 2) + z146) * 2) + z161) * 2) + z176)), some (0, ((((((8 - 1) + (-1)) + (-1)) + (-1)) + (-1)) + (-1))), some (0, ((z180 * 2) + z186))]) c_163_62 rfl rfl (n_iload c_163_64 rfl (n_iconst c_163_66 ?_)))
                                    refine n_if2_le c_163_67 (by omega) (by omega) ?_ ?_
                                    · intro h188
                                      refine n_iload c_163_93 rfl (n_aload_n c_163_95 rfl (n_getV (bi := 0) c_163_96 sc_112.n rfl rfl rfl (t_dm hS hdm) ?_))
                                      intro z189 ez189 f190
                                      obtain rfl : z189 = 2 := by omega
                                      refine n_imul c_163_99 rfl (n_aload_n c_163_100 rfl (n_getR c_163_101 sc_112.n rfl rfl rfl r_112_6 (n_bipush c_163_104 rfl (n_iload_n c_163_106 rfl (n_imul c_163_107 rfl (n_iload c_163_108 rfl (n_iadd c_163_110 rfl (n_ialoadV c_163_111 sc_117.n rfl rfl rfl (by omega) (t_117 hS (by omega)) ?_))))))))
                                      intro z191 ez191 f192
                                      refine n_iadd c_163_112 rfl (n_istore (L2 := [some (2, 112), some (0, a), some (0, 8), some (0, x), some (0, y), some (0, w), some (0, s), some (0, z1), some (0, ((((((((((((0 * 2) + z116) * 2) + z131) * 2) + z146) * 2) + z161) * 2) + z176) * 2) + z191)), some (0, ((((((8 - 1) + (-1)) + (-1)) + (-1)) + (-1)) + (-1))), some (0, ((z180 * 2) + z186))]) c_163_113 rfl rfl (n_iinc (L2 := [some (2, 112), some (0, a), some (0, 8), some (0, x), some (0, y), some (0, w), some (0, s), some (0, z1), some (0, ((((((((((((0 * 2) + z116) * 2) + z131) * 2) + z146) * 2) + z161) * 2) + z176) * 2) + z191)), some (0, (((((((8 - 1) + (-1)) + (-1)) + (-1)) + (-1)) + (-1)) + (-1))), some (0, ((z180 * 2) + z186))]) c_163_115 rfl rfl rfl (n_goto c_163_118 (n_iload c_163_16 rfl ?_))))
                                      refine n_if0_lt c_163_18 (by omega) ?_ ?_
                                      · intro h193
                                        exfalso; omega
                                      · intro h194
                                        refine n_aload_n c_163_21 rfl (n_getR c_163_22 sc_112.n rfl rfl rfl r_112_18 (n_bipush c_163_25 rfl (n_iload_n c_163_27 rfl (n_imul c_163_28 rfl (n_iload c_163_29 rfl (n_iadd c_163_31 rfl (n_ialoadV c_163_32 sc_126.n rfl rfl rfl (by omega) (t_126 hS (by omega)) ?_)))))))
                                        intro z195 ez195 f196
                                        refine n_istore (L2 := [some (2, 112), some (0, a), some (0, 8), some (0, x), some (0, y), some (0, w), some (0, s), some (0, z1), some (0, ((((((((((((0 * 2) + z116) * 2) + z131) * 2) + z146) * 2) + z161) * 2) + z176) * 2) + z191)), some (0, (((((((8 - 1) + (-1)) + (-1)) + (-1)) + (-1)) + (-1)) + (-1))), some (0, z195)]) c_163_33 rfl rfl (n_iload c_163_35 rfl (n_iconst c_163_37 ?_))
                                        refine n_if2_le c_163_38 (by omega) (by omega) ?_ ?_
                                        · intro h197
                                          exfalso; omega
                                        · intro h198
                                          refine n_iload c_163_41 rfl (n_aload_n c_163_43 rfl (n_getV (bi := 0) c_163_44 sc_112.n rfl rfl rfl (t_dm hS hdm) ?_))
                                          intro z199 ez199 f200
                                          obtain rfl : z199 = 2 := by omega
                                          refine n_imul c_163_47 rfl (n_aload_n c_163_48 rfl (n_getR c_163_49 sc_112.n rfl rfl rfl r_112_18 (n_bipush c_163_52 rfl (n_iload c_163_54 rfl (n_imul c_163_56 rfl (n_iload c_163_57 rfl (n_iadd c_163_59 rfl (n_ialoadV c_163_60 sc_126.n rfl rfl rfl (by omega) (t_126 hS (by omega)) ?_))))))))
                                          intro z201 ez201 f202
                                          refine n_iadd c_163_61 rfl (n_istore (L2 := [some (2, 112), some (0, a), some (0, 8), some (0, x), some (0, y), some (0, w), some (0, s), some (0, z1), some (0, ((((((((((((0 * 2) + z116) * 2) + z131) * 2) + z146) * 2) + z161) * 2) + z176) * 2) + z191)), some (0, (((((((8 - 1) + (-1)) + (-1)) + (-1)) + (-1)) + (-1)) + (-1))), some (0, ((z195 * 2) + z201))]) c_163_62 rfl rfl (n_iload c_163_64 rfl (n_iconst c_163_66 ?_)))
                                          refine n_if2_le c_163_67 (by omega) (by omega) ?_ ?_
                                          · intro h203
                                            refine n_iload c_163_93 rfl (n_aload_n c_163_95 rfl (n_getV (bi := 0) c_163_96 sc_112.n rfl rfl rfl (t_dm hS hdm) ?_))
                                            intro z204 ez204 f205
                                            obtain rfl : z204 = 2 := by omega
                                            refine n_imul c_163_99 rfl (n_aload_n c_163_100 rfl (n_getR c_163_101 sc_112.n rfl rfl rfl r_112_6 (n_bipush c_163_104 rfl (n_iload_n c_163_106 rfl (n_imul c_163_107 rfl (n_iload c_163_108 rfl (n_iadd c_163_110 rfl (n_ialoadV c_163_111 sc_117.n rfl rfl rfl (by omega) (t_117 hS (by omega)) ?_))))))))
                                            intro z206 ez206 f207
                                            refine n_iadd c_163_112 rfl (n_istore (L2 := [some (2, 112), some (0, a), some (0, 8), some (0, x), some (0, y), some (0, w), some (0, s), some (0, z1), some (0, ((((((((((((((0 * 2) + z116) * 2) + z131) * 2) + z146) * 2) + z161) * 2) + z176) * 2) + z191) * 2) + z206)), some (0, (((((((8 - 1) + (-1)) + (-1)) + (-1)) + (-1)) + (-1)) + (-1))), some (0, ((z195 * 2) + z201))]) c_163_113 rfl rfl (n_iinc (L2 := [some (2, 112), some (0, a), some (0, 8), some (0, x), some (0, y), some (0, w), some (0, s), some (0, z1), some (0, ((((((((((((((0 * 2) + z116) * 2) + z131) * 2) + z146) * 2) + z161) * 2) + z176) * 2) + z191) * 2) + z206)), some (0, ((((((((8 - 1) + (-1)) + (-1)) + (-1)) + (-1)) + (-1)) + (-1)) + (-1))), some (0, ((z195 * 2) + z201))]) c_163_115 rfl rfl rfl (n_goto c_163_118 (n_iload c_163_16 rfl ?_))))
                                            refine n_if0_lt c_163_18 (by omega) ?_ ?_
                                            · intro h208
                                              exfalso; omega
                                            · intro h209
                                              refine n_aload_n c_163_21 rfl (n_getR c_163_22 sc_112.n rfl rfl rfl r_112_18 (n_bipush c_163_25 rfl (n_iload_n c_163_27 rfl (n_imul c_163_28 rfl (n_iload c_163_29 rfl (n_iadd c_163_31 rfl (n_ialoadV c_163_32 sc_126.n rfl rfl rfl (by omega) (t_126 hS (by omega)) ?_)))))))
                                              intro z210 ez210 f211
                                              refine n_istore (L2 := [some (2, 112), some (0, a), some (0, 8), some (0, x), some (0, y), some (0, w), some (0, s), some (0, z1), some (0, ((((((((((((((0 * 2) + z116) * 2) + z131) * 2) + z146) * 2) + z161) * 2) + z176) * 2) + z191) * 2) + z206)), some (0, ((((((((8 - 1) + (-1)) + (-1)) + (-1)) + (-1)) + (-1)) + (-1)) + (-1))), some (0, z210)]) c_163_33 rfl rfl (n_iload c_163_35 rfl (n_iconst c_163_37 ?_))
                                              refine n_if2_le c_163_38 (by omega) (by omega) ?_ ?_
                                              · intro h212
                                                exfalso; omega
                                              · intro h213
                                                refine n_iload c_163_41 rfl (n_aload_n c_163_43 rfl (n_getV (bi := 0) c_163_44 sc_112.n rfl rfl rfl (t_dm hS hdm) ?_))
                                                intro z214 ez214 f215
                                                obtain rfl : z214 = 2 := by omega
                                                refine n_imul c_163_47 rfl (n_aload_n c_163_48 rfl (n_getR c_163_49 sc_112.n rfl rfl rfl r_112_18 (n_bipush c_163_52 rfl (n_iload c_163_54 rfl (n_imul c_163_56 rfl (n_iload c_163_57 rfl (n_iadd c_163_59 rfl (n_ialoadV c_163_60 sc_126.n rfl rfl rfl (by omega) (t_126 hS (by omega)) ?_))))))))
                                                intro z216 ez216 f217
                                                refine n_iadd c_163_61 rfl (n_istore (L2 := [some (2, 112), some (0, a), some (0, 8), some (0, x), some (0, y), some (0, w), some (0, s), some (0, z1), some (0, ((((((((((((((0 * 2) + z116) * 2) + z131) * 2) + z146) * 2) + z161) * 2) + z176) * 2) + z191) * 2) + z206)), some (0, ((((((((8 - 1) + (-1)) + (-1)) + (-1)) + (-1)) + (-1)) + (-1)) + (-1))), some (0, ((z210 * 2) + z216))]) c_163_62 rfl rfl (n_iload c_163_64 rfl (n_iconst c_163_66 ?_)))
                                                refine n_if2_le c_163_67 (by omega) (by omega) ?_ ?_
                                                · intro h218
                                                  refine n_iload c_163_93 rfl (n_aload_n c_163_95 rfl (n_getV (bi := 0) c_163_96 sc_112.n rfl rfl rfl (t_dm hS hdm) ?_))
                                                  intro z219 ez219 f220
                                                  obtain rfl : z219 = 2 := by omega
                                                  refine n_imul c_163_99 rfl (n_aload_n c_163_100 rfl (n_getR c_163_101 sc_112.n rfl rfl rfl r_112_6 (n_bipush c_163_104 rfl (n_iload_n c_163_106 rfl (n_imul c_163_107 rfl (n_iload c_163_108 rfl (n_iadd c_163_110 rfl (n_ialoadV c_163_111 sc_117.n rfl rfl rfl (by omega) (t_117 hS (by omega)) ?_))))))))
                                                  intro z221 ez221 f222
                                                  refine n_iadd c_163_112 rfl (n_istore (L2 := [some (2, 112), some (0, a), some (0, 8), some (0, x), some (0, y), some (0, w), some (0, s), some (0, z1), some (0, ((((((((((((((((0 * 2) + z116) * 2) + z131) * 2) + z146) * 2) + z161) * 2) + z176) * 2) + z191) * 2) + z206) * 2) + z221)), some (0, ((((((((8 - 1) + (-1)) + (-1)) + (-1)) + (-1)) + (-1)) + (-1)) + (-1))), some (0, ((z210 * 2) + z216))]) c_163_113 rfl rfl (n_iinc (L2 := [some (2, 112), some (0, a), some (0, 8), some (0, x), some (0, y), some (0, w), some (0, s), some (0, z1), some (0, ((((((((((((((((0 * 2) + z116) * 2) + z131) * 2) + z146) * 2) + z161) * 2) + z176) * 2) + z191) * 2) + z206) * 2) + z221)), some (0, (((((((((8 - 1) + (-1)) + (-1)) + (-1)) + (-1)) + (-1)) + (-1)) + (-1)) + (-1))), some (0, ((z210 * 2) + z216))]) c_163_115 rfl rfl rfl (n_goto c_163_118 (n_iload c_163_16 rfl ?_))))
                                                  refine n_if0_lt c_163_18 (by omega) ?_ ?_
                                                  · intro h223
                                                    refine n_aload_n c_163_121 rfl (n_getR c_163_122 sc_112.n rfl rfl rfl r_112_17 (n_iload c_163_125 rfl (n_ialoadV c_163_127 sc_125.n rfl rfl rfl (by omega) (t_125 hS (by omega)) ?_)))
                                                    intro z224 ez224 f225
                                                    refine n_if0_eq c_163_128 (by omega) ?_ ?_
                                                    · intro h226
                                                      refine n_fg (le_s (le_n (le_n (le_n (le_n (le_n (le_s (le_n (le_s (le_n (le_n le_0))))))))))) ?_
                                                      exact (mjoined8_2_c hS hdm ha hx hy hw hs 14).1 _ M hS (by omega) (by omega)
                                                    · intro h227
                                                      refine n_aload_n c_163_131 rfl (n_getR c_163_132 sc_112.n rfl rfl rfl r_112_17 (n_iload c_163_135 rfl (n_ialoadV c_163_137 sc_125.n rfl rfl rfl (by omega) (t_125 hS (by omega)) ?_)))
                                                      intro z228 ez228 f229
                                                      refine n_iload c_163_138 rfl (n_iconst c_163_140 (n_iadd c_163_141 rfl ?_))
                                                      refine n_if2_le c_163_142 (by omega) (by omega) ?_ ?_
                                                      · intro h230
                                                        refine n_fg (le_n (le_n (le_n (le_n (le_n (le_n (le_n (le_n (le_n (le_n (le_n le_0))))))))))) ?_
                                                        exact (mjoined8_2_c hS hdm ha hx hy hw hs 14).2  M hS  (by omega)
                                                      · intro h231
                                                        refine n_fg (le_s (le_n (le_n (le_n (le_n (le_n (le_s (le_n (le_s (le_n (le_n le_0))))))))))) ?_
                                                        exact (mjoined8_2_c hS hdm ha hx hy hw hs 14).1 _ M hS (by omega) (by omega)
                                                  · intro h232
                                                    exfalso; omega
                                                · intro h233
                                                  exfalso; omega
                                          · intro h234
                                            exfalso; omega
                                    · intro h235
                                      exfalso; omega
                              · intro h236
                                exfalso; omega
                        · intro h237
                          exfalso; omega
                  · intro h238
                    exfalso; omega
            · intro h239
              exfalso; omega
      · intro h240
        refine n_iload c_163_70 rfl (n_aload_n c_163_72 rfl (n_getV (bi := 0) c_163_73 sc_112.n rfl rfl rfl (t_dm hS hdm) ?_))
        intro z241 ez241 f242
        obtain rfl : z241 = 2 := by omega
        refine n_imul c_163_76 rfl (n_aload_n c_163_77 rfl (n_getR c_163_78 sc_112.n rfl rfl rfl r_112_18 (n_bipush c_163_81 rfl (n_iload c_163_83 rfl (n_imul c_163_85 rfl (n_iload c_163_86 rfl (n_iadd c_163_88 rfl (n_ialoadV c_163_89 sc_126.n rfl rfl rfl (by omega) (t_126 hS (by omega)) ?_))))))))
        intro z243 ez243 f244
        refine n_iadd c_163_90 rfl (n_istore (L2 := [some (2, 112), some (0, a), some (0, 8), some (0, x), some (0, y), some (0, w), some (0, s), some (0, z1), some (0, 0), some (0, (8 - 1)), some (0, ((((z5 * 2) + z111) * 2) + z243))]) c_163_91 rfl rfl (n_iload c_163_93 rfl (n_aload_n c_163_95 rfl (n_getV (bi := 0) c_163_96 sc_112.n rfl rfl rfl (t_dm hS hdm) ?_))))
        intro z245 ez245 f246
        obtain rfl : z245 = 2 := by omega
        refine n_imul c_163_99 rfl (n_aload_n c_163_100 rfl (n_getR c_163_101 sc_112.n rfl rfl rfl r_112_6 (n_bipush c_163_104 rfl (n_iload_n c_163_106 rfl (n_imul c_163_107 rfl (n_iload c_163_108 rfl (n_iadd c_163_110 rfl (n_ialoadV c_163_111 sc_117.n rfl rfl rfl (by omega) (t_117 hS (by omega)) ?_))))))))
        intro z247 ez247 f248
        refine n_iadd c_163_112 rfl (n_istore (L2 := [some (2, 112), some (0, a), some (0, 8), some (0, x), some (0, y), some (0, w), some (0, s), some (0, z1), some (0, ((0 * 2) + z247)), some (0, (8 - 1)), some (0, ((((z5 * 2) + z111) * 2) + z243))]) c_163_113 rfl rfl (n_iinc (L2 := [some (2, 112), some (0, a), some (0, 8), some (0, x), some (0, y), some (0, w), some (0, s), some (0, z1), some (0, ((0 * 2) + z247)), some (0, ((8 - 1) + (-1))), some (0, ((((z5 * 2) + z111) * 2) + z243))]) c_163_115 rfl rfl rfl (n_goto c_163_118 (n_iload c_163_16 rfl ?_))))
        refine n_if0_lt c_163_18 (by omega) ?_ ?_
        · intro h249
          exfalso; omega
        · intro h250
          refine n_aload_n c_163_21 rfl (n_getR c_163_22 sc_112.n rfl rfl rfl r_112_18 (n_bipush c_163_25 rfl (n_iload_n c_163_27 rfl (n_imul c_163_28 rfl (n_iload c_163_29 rfl (n_iadd c_163_31 rfl (n_ialoadV c_163_32 sc_126.n rfl rfl rfl (by omega) (t_126 hS (by omega)) ?_)))))))
          intro z251 ez251 f252
          refine n_istore (L2 := [some (2, 112), some (0, a), some (0, 8), some (0, x), some (0, y), some (0, w), some (0, s), some (0, z1), some (0, ((0 * 2) + z247)), some (0, ((8 - 1) + (-1))), some (0, z251)]) c_163_33 rfl rfl (n_iload c_163_35 rfl (n_iconst c_163_37 ?_))
          refine n_if2_le c_163_38 (by omega) (by omega) ?_ ?_
          · intro h253
            exfalso; omega
          · intro h254
            refine n_iload c_163_41 rfl (n_aload_n c_163_43 rfl (n_getV (bi := 0) c_163_44 sc_112.n rfl rfl rfl (t_dm hS hdm) ?_))
            intro z255 ez255 f256
            obtain rfl : z255 = 2 := by omega
            refine n_imul c_163_47 rfl (n_aload_n c_163_48 rfl (n_getR c_163_49 sc_112.n rfl rfl rfl r_112_18 (n_bipush c_163_52 rfl (n_iload c_163_54 rfl (n_imul c_163_56 rfl (n_iload c_163_57 rfl (n_iadd c_163_59 rfl (n_ialoadV c_163_60 sc_126.n rfl rfl rfl (by omega) (t_126 hS (by omega)) ?_))))))))
            intro z257 ez257 f258
            refine n_iadd c_163_61 rfl (n_istore (L2 := [some (2, 112), some (0, a), some (0, 8), some (0, x), some (0, y), some (0, w), some (0, s), some (0, z1), some (0, ((0 * 2) + z247)), some (0, ((8 - 1) + (-1))), some (0, ((z251 * 2) + z257))]) c_163_62 rfl rfl (n_iload c_163_64 rfl (n_iconst c_163_66 ?_)))
            refine n_if2_le c_163_67 (by omega) (by omega) ?_ ?_
            · intro h259
              exfalso; omega
            · intro h260
              refine n_iload c_163_70 rfl (n_aload_n c_163_72 rfl (n_getV (bi := 0) c_163_73 sc_112.n rfl rfl rfl (t_dm hS hdm) ?_))
              intro z261 ez261 f262
              obtain rfl : z261 = 2 := by omega
              refine n_imul c_163_76 rfl (n_aload_n c_163_77 rfl (n_getR c_163_78 sc_112.n rfl rfl rfl r_112_18 (n_bipush c_163_81 rfl (n_iload c_163_83 rfl (n_imul c_163_85 rfl (n_iload c_163_86 rfl (n_iadd c_163_88 rfl (n_ialoadV c_163_89 sc_126.n rfl rfl rfl (by omega) (t_126 hS (by omega)) ?_))))))))
              intro z263 ez263 f264
              refine n_iadd c_163_90 rfl (n_istore (L2 := [some (2, 112), some (0, a), some (0, 8), some (0, x), some (0, y), some (0, w), some (0, s), some (0, z1), some (0, ((0 * 2) + z247)), some (0, ((8 - 1) + (-1))), some (0, ((((z251 * 2) + z257) * 2) + z263))]) c_163_91 rfl rfl (n_iload c_163_93 rfl (n_aload_n c_163_95 rfl (n_getV (bi := 0) c_163_96 sc_112.n rfl rfl rfl (t_dm hS hdm) ?_))))
              intro z265 ez265 f266
              obtain rfl : z265 = 2 := by omega
              refine n_imul c_163_99 rfl (n_aload_n c_163_100 rfl (n_getR c_163_101 sc_112.n rfl rfl rfl r_112_6 (n_bipush c_163_104 rfl (n_iload_n c_163_106 rfl (n_imul c_163_107 rfl (n_iload c_163_108 rfl (n_iadd c_163_110 rfl (n_ialoadV c_163_111 sc_117.n rfl rfl rfl (by omega) (t_117 hS (by omega)) ?_))))))))
              intro z267 ez267 f268
              refine n_iadd c_163_112 rfl (n_istore (L2 := [some (2, 112), some (0, a), some (0, 8), some (0, x), some (0, y), some (0, w), some (0, s), some (0, z1), some (0, ((((0 * 2) + z247) * 2) + z267)), some (0, ((8 - 1) + (-1))), some (0, ((((z251 * 2) + z257) * 2) + z263))]) c_163_113 rfl rfl (n_iinc (L2 := [some (2, 112), some (0, a), some (0, 8), some (0, x), some (0, y), some (0, w), some (0, s), some (0, z1), some (0, ((((0 * 2) + z247) * 2) + z267)), some (0, (((8 - 1) + (-1)) + (-1))), some (0, ((((z251 * 2) + z257) * 2) + z263))]) c_163_115 rfl rfl rfl (n_goto c_163_118 (n_iload c_163_16 rfl ?_))))
              refine n_if0_lt c_163_18 (by omega) ?_ ?_
              · intro h269
                exfalso; omega
              · intro h270
                refine n_aload_n c_163_21 rfl (n_getR c_163_22 sc_112.n rfl rfl rfl r_112_18 (n_bipush c_163_25 rfl (n_iload_n c_163_27 rfl (n_imul c_163_28 rfl (n_iload c_163_29 rfl (n_iadd c_163_31 rfl (n_ialoadV c_163_32 sc_126.n rfl rfl rfl (by omega) (t_126 hS (by omega)) ?_)))))))
                intro z271 ez271 f272
                refine n_istore (L2 := [some (2, 112), some (0, a), some (0, 8), some (0, x), some (0, y), some (0, w), some (0, s), some (0, z1), some (0, ((((0 * 2) + z247) * 2) + z267)), some (0, (((8 - 1) + (-1)) + (-1))), some (0, z271)]) c_163_33 rfl rfl (n_iload c_163_35 rfl (n_iconst c_163_37 ?_))
                refine n_if2_le c_163_38 (by omega) (by omega) ?_ ?_
                · intro h273
                  exfalso; omega
                · intro h274
                  refine n_iload c_163_41 rfl (n_aload_n c_163_43 rfl (n_getV (bi := 0) c_163_44 sc_112.n rfl rfl rfl (t_dm hS hdm) ?_))
                  intro z275 ez275 f276
                  obtain rfl : z275 = 2 := by omega
                  refine n_imul c_163_47 rfl (n_aload_n c_163_48 rfl (n_getR c_163_49 sc_112.n rfl rfl rfl r_112_18 (n_bipush c_163_52 rfl (n_iload c_163_54 rfl (n_imul c_163_56 rfl (n_iload c_163_57 rfl (n_iadd c_163_59 rfl (n_ialoadV c_163_60 sc_126.n rfl rfl rfl (by omega) (t_126 hS (by omega)) ?_))))))))
                  intro z277 ez277 f278
                  refine n_iadd c_163_61 rfl (n_istore (L2 := [some (2, 112), some (0, a), some (0, 8), some (0, x), some (0, y), some (0, w), some (0, s), some (0, z1), some (0, ((((0 * 2) + z247) * 2) + z267)), some (0, (((8 - 1) + (-1)) + (-1))), some (0, ((z271 * 2) + z277))]) c_163_62 rfl rfl (n_iload c_163_64 rfl (n_iconst c_163_66 ?_)))
                  refine n_if2_le c_163_67 (by omega) (by omega) ?_ ?_
                  · intro h279
                    exfalso; omega
                  · intro h280
                    refine n_iload c_163_70 rfl (n_aload_n c_163_72 rfl (n_getV (bi := 0) c_163_73 sc_112.n rfl rfl rfl (t_dm hS hdm) ?_))
                    intro z281 ez281 f282
                    obtain rfl : z281 = 2 := by omega
                    refine n_imul c_163_76 rfl (n_aload_n c_163_77 rfl (n_getR c_163_78 sc_112.n rfl rfl rfl r_112_18 (n_bipush c_163_81 rfl (n_iload c_163_83 rfl (n_imul c_163_85 rfl (n_iload c_163_86 rfl (n_iadd c_163_88 rfl (n_ialoadV c_163_89 sc_126.n rfl rfl rfl (by omega) (t_126 hS (by omega)) ?_))))))))
                    intro z283 ez283 f284
                    refine n_iadd c_163_90 rfl (n_istore (L2 := [some (2, 112), some (0, a), some (0, 8), some (0, x), some (0, y), some (0, w), some (0, s), some (0, z1), some (0, ((((0 * 2) + z247) * 2) + z267)), some (0, (((8 - 1) + (-1)) + (-1))), some (0, ((((z271 * 2) + z277) * 2) + z283))]) c_163_91 rfl rfl (n_iload c_163_93 rfl (n_aload_n c_163_95 rfl (n_getV (bi := 0) c_163_96 sc_112.n rfl rfl rfl (t_dm hS hdm) ?_))))
                    intro z285 ez285 f286
                    obtain rfl : z285 = 2 := by omega
                    refine n_imul c_163_99 rfl (n_aload_n c_163_100 rfl (n_getR c_163_101 sc_112.n rfl rfl rfl r_112_6 (n_bipush c_163_104 rfl (n_iload_n c_163_106 rfl (n_imul c_163_107 rfl (n_iload c_163_108 rfl (n_iadd c_163_110 rfl (n_ialoadV c_163_111 sc_117.n rfl rfl rfl (by omega) (t_117 hS (by omega)) ?_))))))))
                    intro z287 ez287 f288
                    refine n_iadd c_163_112 rfl (n_istore (L2 := [some (2, 112), some (0, a), some (0, 8), some (0, x), some (0, y), some (0, w), some (0, s), some (0, z1), some (0, ((((((0 * 2) + z247) * 2) + z267) * 2) + z287)), some (0, (((8 - 1) + (-1)) + (-1))), some (0, ((((z271 * 2) + z277) * 2) + z283))]) c_163_113 rfl rfl (n_iinc (L2 := [some (2, 112), some (0, a), some (0, 8), some (0, x), some (0, y), some (0, w), some (0, s), some (0, z1), some (0, ((((((0 * 2) + z247) * 2) + z267) * 2) + z287)), some (0, ((((8 - 1) + (-1)) + (-1)) + (-1))), some (0, ((((z271 * 2) + z277) * 2) + z283))]) c_163_115 rfl rfl rfl (n_goto c_163_118 (n_iload c_163_16 rfl ?_))))
                    refine n_if0_lt c_163_18 (by omega) ?_ ?_
                    · intro h289
                      exfalso; omega
                    · intro h290
                      refine n_aload_n c_163_21 rfl (n_getR c_163_22 sc_112.n rfl rfl rfl r_112_18 (n_bipush c_163_25 rfl (n_iload_n c_163_27 rfl (n_imul c_163_28 rfl (n_iload c_163_29 rfl (n_iadd c_163_31 rfl (n_ialoadV c_163_32 sc_126.n rfl rfl rfl (by omega) (t_126 hS (by omega)) ?_)))))))
                      intro z291 ez291 f292
                      refine n_istore (L2 := [some (2, 112), some (0, a), some (0, 8), some (0, x), some (0, y), some (0, w), some (0, s), some (0, z1), some (0, ((((((0 * 2) + z247) * 2) + z267) * 2) + z287)), some (0, ((((8 - 1) + (-1)) + (-1)) + (-1))), some (0, z291)]) c_163_33 rfl rfl (n_iload c_163_35 rfl (n_iconst c_163_37 ?_))
                      refine n_if2_le c_163_38 (by omega) (by omega) ?_ ?_
                      · intro h293
                        exfalso; omega
                      · intro h294
                        refine n_iload c_163_41 rfl (n_aload_n c_163_43 rfl (n_getV (bi := 0) c_163_44 sc_112.n rfl rfl rfl (t_dm hS hdm) ?_))
                        intro z295 ez295 f296
                        obtain rfl : z295 = 2 := by omega
                        refine n_imul c_163_47 rfl (n_aload_n c_163_48 rfl (n_getR c_163_49 sc_112.n rfl rfl rfl r_112_18 (n_bipush c_163_52 rfl (n_iload c_163_54 rfl (n_imul c_163_56 rfl (n_iload c_163_57 rfl (n_iadd c_163_59 rfl (n_ialoadV c_163_60 sc_126.n rfl rfl rfl (by omega) (t_126 hS (by omega)) ?_))))))))
                        intro z297 ez297 f298
                        refine n_iadd c_163_61 rfl (n_istore (L2 := [some (2, 112), some (0, a), some (0, 8), some (0, x), some (0, y), some (0, w), some (0, s), some (0, z1), some (0, ((((((0 * 2) + z247) * 2) + z267) * 2) + z287)), some (0, ((((8 - 1) + (-1)) + (-1)) + (-1))), some (0, ((z291 * 2) + z297))]) c_163_62 rfl rfl (n_iload c_163_64 rfl (n_iconst c_163_66 ?_)))
                        refine n_if2_le c_163_67 (by omega) (by omega) ?_ ?_
                        · intro h299
                          exfalso; omega
                        · intro h300
                          refine n_iload c_163_70 rfl (n_aload_n c_163_72 rfl (n_getV (bi := 0) c_163_73 sc_112.n rfl rfl rfl (t_dm hS hdm) ?_))
                          intro z301 ez301 f302
                          obtain rfl : z301 = 2 := by omega
                          refine n_imul c_163_76 rfl (n_aload_n c_163_77 rfl (n_getR c_163_78 sc_112.n rfl rfl rfl r_112_18 (n_bipush c_163_81 rfl (n_iload c_163_83 rfl (n_imul c_163_85 rfl (n_iload c_163_86 rfl (n_iadd c_163_88 rfl (n_ialoadV c_163_89 sc_126.n rfl rfl rfl (by omega) (t_126 hS (by omega)) ?_))))))))
                          intro z303 ez303 f304
                          refine n_iadd c_163_90 rfl (n_istore (L2 := [some (2, 112), some (0, a), some (0, 8), some (0, x), some (0, y), some (0, w), some (0, s), some (0, z1), some (0, ((((((0 * 2) + z247) * 2) + z267) * 2) + z287)), some (0, ((((8 - 1) + (-1)) + (-1)) + (-1))), some (0, ((((z291 * 2) + z297) * 2) + z303))]) c_163_91 rfl rfl (n_iload c_163_93 rfl (n_aload_n c_163_95 rfl (n_getV (bi := 0) c_163_96 sc_112.n rfl rfl rfl (t_dm hS hdm) ?_))))
                          intro z305 ez305 f306
                          obtain rfl : z305 = 2 := by omega
                          refine n_imul c_163_99 rfl (n_aload_n c_163_100 rfl (n_getR c_163_101 sc_112.n rfl rfl rfl r_112_6 (n_bipush c_163_104 rfl (n_iload_n c_163_106 rfl (n_imul c_163_107 rfl (n_iload c_163_108 rfl (n_iadd c_163_110 rfl (n_ialoadV c_163_111 sc_117.n rfl rfl rfl (by omega) (t_117 hS (by omega)) ?_))))))))
                          intro z307 ez307 f308
                          refine n_iadd c_163_112 rfl (n_istore (L2 := [some (2, 112), some (0, a), some (0, 8), some (0, x), some (0, y), some (0, w), some (0, s), some (0, z1), some (0, ((((((((0 * 2) + z247) * 2) + z267) * 2) + z287) * 2) + z307)), some (0, ((((8 - 1) + (-1)) + (-1)) + (-1))), some (0, ((((z291 * 2) + z297) * 2) + z303))]) c_163_113 rfl rfl (n_iinc (L2 := [some (2, 112), some (0, a), some (0, 8), some (0, x), some (0, y), some (0, w), some (0, s), some (0, z1), some (0, ((((((((0 * 2) + z247) * 2) + z267) * 2) + z287) * 2) + z307)), some (0, (((((8 - 1) + (-1)) + (-1)) + (-1)) + (-1))), some (0, ((((z291 * 2) + z297) * 2) + z303))]) c_163_115 rfl rfl rfl (n_goto c_163_118 (n_iload c_163_16 rfl ?_))))
                          refine n_if0_lt c_163_18 (by omega) ?_ ?_
                          · intro h309
                            exfalso; omega
                          · intro h310
                            refine n_aload_n c_163_21 rfl (n_getR c_163_22 sc_112.n rfl rfl rfl r_112_18 (n_bipush c_163_25 rfl (n_iload_n c_163_27 rfl (n_imul c_163_28 rfl (n_iload c_163_29 rfl (n_iadd c_163_31 rfl (n_ialoadV c_163_32 sc_126.n rfl rfl rfl (by omega) (t_126 hS (by omega)) ?_)))))))
                            intro z311 ez311 f312
                            refine n_istore (L2 := [some (2, 112), some (0, a), some (0, 8), some (0, x), some (0, y), some (0, w), some (0, s), some (0, z1), some (0, ((((((((0 * 2) + z247) * 2) + z267) * 2) + z287) * 2) + z307)), some (0, (((((8 - 1) + (-1)) + (-1)) + (-1)) + (-1))), some (0, z311)]) c_163_33 rfl rfl (n_iload c_163_35 rfl (n_iconst c_163_37 ?_))
                            refine n_if2_le c_163_38 (by omega) (by omega) ?_ ?_
                            · intro h313
                              exfalso; omega
                            · intro h314
                              refine n_iload c_163_41 rfl (n_aload_n c_163_43 rfl (n_getV (bi := 0) c_163_44 sc_112.n rfl rfl rfl (t_dm hS hdm) ?_))
                              intro z315 ez315 f316
                              obtain rfl : z315 = 2 := by omega
                              refine n_imul c_163_47 rfl (n_aload_n c_163_48 rfl (n_getR c_163_49 sc_112.n rfl rfl rfl r_112_18 (n_bipush c_163_52 rfl (n_iload c_163_54 rfl (n_imul c_163_56 rfl (n_iload c_163_57 rfl (n_iadd c_163_59 rfl (n_ialoadV c_163_60 sc_126.n rfl rfl rfl (by omega) (t_126 hS (by omega)) ?_))))))))
                              intro z317 ez317 f318
                              refine n_iadd c_163_61 rfl (n_istore (L2 := [some (2, 112), some (0, a), some (0, 8), some (0, x), some (0, y), some (0, w), some (0, s), some (0, z1), some (0, ((((((((0 * 2) + z247) * 2) + z267) * 2) + z287) * 2) + z307)), some (0, (((((8 - 1) + (-1)) + (-1)) + (-1)) + (-1))), some (0, ((z311 * 2) + z317))]) c_163_62 rfl rfl (n_iload c_163_64 rfl (n_iconst c_163_66 ?_)))
                              refine n_if2_le c_163_67 (by omega) (by omega) ?_ ?_
                              · intro h319
                                exfalso; omega
                              · intro h320
                                refine n_iload c_163_70 rfl (n_aload_n c_163_72 rfl (n_getV (bi := 0) c_163_73 sc_112.n rfl rfl rfl (t_dm hS hdm) ?_))
                                intro z321 ez321 f322
                                obtain rfl : z321 = 2 := by omega
                                refine n_imul c_163_76 rfl (n_aload_n c_163_77 rfl (n_getR c_163_78 sc_112.n rfl rfl rfl r_112_18 (n_bipush c_163_81 rfl (n_iload c_163_83 rfl (n_imul c_163_85 rfl (n_iload c_163_86 rfl (n_iadd c_163_88 rfl (n_ialoadV c_163_89 sc_126.n rfl rfl rfl (by omega) (t_126 hS (by omega)) ?_))))))))
                                intro z323 ez323 f324
                                refine n_iadd c_163_90 rfl (n_istore (L2 := [some (2, 112), some (0, a), some (0, 8), some (0, x), some (0, y), some (0, w), some (0, s), some (0, z1), some (0, ((((((((0 * 2) + z247) * 2) + z267) * 2) + z287) * 2) + z307)), some (0, (((((8 - 1) + (-1)) + (-1)) + (-1)) + (-1))), some (0, ((((z311 * 2) + z317) * 2) + z323))]) c_163_91 rfl rfl (n_iload c_163_93 rfl (n_aload_n c_163_95 rfl (n_getV (bi := 0) c_163_96 sc_112.n rfl rfl rfl (t_dm hS hdm) ?_))))
                                intro z325 ez325 f326
                                obtain rfl : z325 = 2 := by omega
                                refine n_imul c_163_99 rfl (n_aload_n c_163_100 rfl (n_getR c_163_101 sc_112.n rfl rfl rfl r_112_6 (n_bipush c_163_104 rfl (n_iload_n c_163_106 rfl (n_imul c_163_107 rfl (n_iload c_163_108 rfl (n_iadd c_163_110 rfl (n_ialoadV c_163_111 sc_117.n rfl rfl rfl (by omega) (t_117 hS (by omega)) ?_))))))))
                                intro z327 ez327 f328
                                refine n_iadd c_163_112 rfl (n_istore (L2 := [some (2, 112), some (0, a), some (0, 8), some (0, x), some (0, y), some (0, w), some (0, s), some (0, z1), some (0, ((((((((((0 * 2) + z247) * 2) + z267) * 2) + z287) * 2) + z307) * 2) + z327)), some (0, (((((8 - 1) + (-1)) + (-1)) + (-1)) + (-1))), some (0, ((((z311 * 2) + z317) * 2) + z323))]) c_163_113 rfl rfl (n_iinc (L2 := [some (2, 112), some (0, a), some (0, 8), some (0, x), some (0, y), some (0, w), some (0, s), some (0, z1), some (0, ((((((((((0 * 2) + z247) * 2) + z267) * 2) + z287) * 2) + z307) * 2) + z327)), some (0, ((((((8 - 1) + (-1)) + (-1)) + (-1)) + (-1)) + (-1))), some (0, ((((z311 * 2) + z317) * 2) + z323))]) c_163_115 rfl rfl rfl (n_goto c_163_118 (n_iload c_163_16 rfl ?_))))
                                refine n_if0_lt c_163_18 (by omega) ?_ ?_
                                · intro h329
                                  exfalso; omega
                                · intro h330
                                  refine n_aload_n c_163_21 rfl (n_getR c_163_22 sc_112.n rfl rfl rfl r_112_18 (n_bipush c_163_25 rfl (n_iload_n c_163_27 rfl (n_imul c_163_28 rfl (n_iload c_163_29 rfl (n_iadd c_163_31 rfl (n_ialoadV c_163_32 sc_126.n rfl rfl rfl (by omega) (t_126 hS (by omega)) ?_)))))))
                                  intro z331 ez331 f332
                                  refine n_istore (L2 := [some (2, 112), some (0, a), some (0, 8), some (0, x), some (0, y), some (0, w), some (0, s), some (0, z1), some (0, ((((((((((0 * 2) + z247) * 2) + z267) * 2) + z287) * 2) + z307) * 2) + z327)), some (0, ((((((8 - 1) + (-1)) + (-1)) + (-1)) + (-1)) + (-1))), some (0, z331)]) c_163_33 rfl rfl (n_iload c_163_35 rfl (n_iconst c_163_37 ?_))
                                  refine n_if2_le c_163_38 (by omega) (by omega) ?_ ?_
                                  · intro h333
                                    exfalso; omega
                                  · intro h334
                                    refine n_iload c_163_41 rfl (n_aload_n c_163_43 rfl (n_getV (bi := 0) c_163_44 sc_112.n rfl rfl rfl (t_dm hS hdm) ?_))
                                    intro z335 ez335 f336
                                    obtain rfl : z335 = 2 := by omega
                                    refine n_imul c_163_47 rfl (n_aload_n c_163_48 rfl (n_getR c_163_49 sc_112.n rfl rfl rfl r_112_18 (n_bipush c_163_52 rfl (n_iload c_163_54 rfl (n_imul c_163_56 rfl (n_iload c_163_57 rfl (n_iadd c_163_59 rfl (n_ialoadV c_163_60 sc_126.n rfl rfl rfl (by omega) (t_126 hS (by omega)) ?_))))))))
                                    intro z337 ez337 f338
                                    refine n_iadd c_163_61 rfl (n_istore (L2 := [some (2, 112), some (0, a), some (0, 8), some (0, x), some (0, y), some (0, w), some (0, s), some (0, z1), some (0, ((((((((((0 * 2) + z247) * 2) + z267) * 2) + z287) * 2) + z307) * 2) + z327)), some (0, ((((((8 - 1) + (-1)) + (-1)) + (-1)) + (-1)) + (-1))), some (0, ((z331 * 2) + z337))]) c_163_62 rfl rfl (n_iload c_163_64 rfl (n_iconst c_163_66 ?_)))
                                    refine n_if2_le c_163_67 (by omega) (by omega) ?_ ?_
                                    · intro h339
                                      exfalso; omega
                                    · intro h340
                                      refine n_iload c_163_70 rfl (n_aload_n c_163_72 rfl (n_getV (bi := 0) c_163_73 sc_112.n rfl rfl rfl (t_dm hS hdm) ?_))
                                      intro z341 ez341 f342
                                      obtain rfl : z341 = 2 := by omega
                                      refine n_imul c_163_76 rfl (n_aload_n c_163_77 rfl (n_getR c_163_78 sc_112.n rfl rfl rfl r_112_18 (n_bipush c_163_81 rfl (n_iload c_163_83 rfl (n_imul c_163_85 rfl (n_iload c_163_86 rfl (n_iadd c_163_88 rfl (n_ialoadV c_163_89 sc_126.n rfl rfl rfl (by omega) (t_126 hS (by omega)) ?_))))))))
                                      intro z343 ez343 f344
                                      refine n_iadd c_163_90 rfl (n_istore (L2 := [some (2, 112), some (0, a), some (0, 8), some (0, x), some (0, y), some (0, w), some (0, s), some (0, z1), some (0, ((((((((((0 * 2) + z247) * 2) + z267) * 2) + z287) * 2) + z307) * 2) + z327)), some (0, ((((((8 - 1) + (-1)) + (-1)) + (-1)) + (-1)) + (-1))), some (0, ((((z331 * 2) + z337) * 2) + z343))]) c_163_91 rfl rfl (n_iload c_163_93 rfl (n_aload_n c_163_95 rfl (n_getV (bi := 0) c_163_96 sc_112.n rfl rfl rfl (t_dm hS hdm) ?_))))
                                      intro z345 ez345 f346
                                      obtain rfl : z345 = 2 := by omega
                                      refine n_imul c_163_99 rfl (n_aload_n c_163_100 rfl (n_getR c_163_101 sc_112.n rfl rfl rfl r_112_6 (n_bipush c_163_104 rfl (n_iload_n c_163_106 rfl (n_imul c_163_107 rfl (n_iload c_163_108 rfl (n_iadd c_163_110 rfl (n_ialoadV c_163_111 sc_117.n rfl rfl rfl (by omega) (t_117 hS (by omega)) ?_))))))))
                                      intro z347 ez347 f348
                                      refine n_iadd c_163_112 rfl (n_istore (L2 := [some (2, 112), some (0, a), some (0, 8), some (0, x), some (0, y), some (0, w), some (0, s), some (0, z1), some (0, ((((((((((((0 * 2) + z247) * 2) + z267) * 2) + z287) * 2) + z307) * 2) + z327) * 2) + z347)), some (0, ((((((8 - 1) + (-1)) + (-1)) + (-1)) + (-1)) + (-1))), some (0, ((((z331 * 2) + z337) * 2) + z343))]) c_163_113 rfl rfl (n_iinc (L2 := [some (2, 112), some (0, a), some (0, 8), some (0, x), some (0, y), some (0, w), some (0, s), some (0, z1), some (0, ((((((((((((0 * 2) + z247) * 2) + z267) * 2) + z287) * 2) + z307) * 2) + z327) * 2) + z347)), some (0, (((((((8 - 1) + (-1)) + (-1)) + (-1)) + (-1)) + (-1)) + (-1))), some (0, ((((z331 * 2) + z337) * 2) + z343))]) c_163_115 rfl rfl rfl (n_goto c_163_118 (n_iload c_163_16 rfl ?_))))
                                      refine n_if0_lt c_163_18 (by omega) ?_ ?_
                                      · intro h349
                                        exfalso; omega
                                      · intro h350
                                        refine n_aload_n c_163_21 rfl (n_getR c_163_22 sc_112.n rfl rfl rfl r_112_18 (n_bipush c_163_25 rfl (n_iload_n c_163_27 rfl (n_imul c_163_28 rfl (n_iload c_163_29 rfl (n_iadd c_163_31 rfl (n_ialoadV c_163_32 sc_126.n rfl rfl rfl (by omega) (t_126 hS (by omega)) ?_)))))))
                                        intro z351 ez351 f352
                                        refine n_istore (L2 := [some (2, 112), some (0, a), some (0, 8), some (0, x), some (0, y), some (0, w), some (0, s), some (0, z1), some (0, ((((((((((((0 * 2) + z247) * 2) + z267) * 2) + z287) * 2) + z307) * 2) + z327) * 2) + z347)), some (0, (((((((8 - 1) + (-1)) + (-1)) + (-1)) + (-1)) + (-1)) + (-1))), some (0, z351)]) c_163_33 rfl rfl (n_iload c_163_35 rfl (n_iconst c_163_37 ?_))
                                        refine n_if2_le c_163_38 (by omega) (by omega) ?_ ?_
                                        · intro h353
                                          exfalso; omega
                                        · intro h354
                                          refine n_iload c_163_41 rfl (n_aload_n c_163_43 rfl (n_getV (bi := 0) c_163_44 sc_112.n rfl rfl rfl (t_dm hS hdm) ?_))
                                          intro z355 ez355 f356
                                          obtain rfl : z355 = 2 := by omega
                                          refine n_imul c_163_47 rfl (n_aload_n c_163_48 rfl (n_getR c_163_49 sc_112.n rfl rfl rfl r_112_18 (n_bipush c_163_52 rfl (n_iload c_163_54 rfl (n_imul c_163_56 rfl (n_iload c_163_57 rfl (n_iadd c_163_59 rfl (n_ialoadV c_163_60 sc_126.n rfl rfl rfl (by omega) (t_126 hS (by omega)) ?_))))))))
                                          intro z357 ez357 f358
                                          refine n_iadd c_163_61 rfl (n_istore (L2 := [some (2, 112), some (0, a), some (0, 8), some (0, x), some (0, y), some (0, w), some (0, s), some (0, z1), some (0, ((((((((((((0 * 2) + z247) * 2) + z267) * 2) + z287) * 2) + z307) * 2) + z327) * 2) + z347)), some (0, (((((((8 - 1) + (-1)) + (-1)) + (-1)) + (-1)) + (-1)) + (-1))), some (0, ((z351 * 2) + z357))]) c_163_62 rfl rfl (n_iload c_163_64 rfl (n_iconst c_163_66 ?_)))
                                          refine n_if2_le c_163_67 (by omega) (by omega) ?_ ?_
                                          · intro h359
                                            exfalso; omega
                                          · intro h360
                                            refine n_iload c_163_70 rfl (n_aload_n c_163_72 rfl (n_getV (bi := 0) c_163_73 sc_112.n rfl rfl rfl (t_dm hS hdm) ?_))
                                            intro z361 ez361 f362
                                            obtain rfl : z361 = 2 := by omega
                                            refine n_imul c_163_76 rfl (n_aload_n c_163_77 rfl (n_getR c_163_78 sc_112.n rfl rfl rfl r_112_18 (n_bipush c_163_81 rfl (n_iload c_163_83 rfl (n_imul c_163_85 rfl (n_iload c_163_86 rfl (n_iadd c_163_88 rfl (n_ialoadV c_163_89 sc_126.n rfl rfl rfl (by omega) (t_126 hS (by omega)) ?_))))))))
                                            intro z363 ez363 f364
                                            refine n_iadd c_163_90 rfl (n_istore (L2 := [some (2, 112), some (0, a), some (0, 8), some (0, x), some (0, y), some (0, w), some (0, s), some (0, z1), some (0, ((((((((((((0 * 2) + z247) * 2) + z267) * 2) + z287) * 2) + z307) * 2) + z327) * 2) + z347)), some (0, (((((((8 - 1) + (-1)) + (-1)) + (-1)) + (-1)) + (-1)) + (-1))), some (0, ((((z351 * 2) + z357) * 2) + z363))]) c_163_91 rfl rfl (n_iload c_163_93 rfl (n_aload_n c_163_95 rfl (n_getV (bi := 0) c_163_96 sc_112.n rfl rfl rfl (t_dm hS hdm) ?_))))
                                            intro z365 ez365 f366
                                            obtain rfl : z365 = 2 := by omega
                                            refine n_imul c_163_99 rfl (n_aload_n c_163_100 rfl (n_getR c_163_101 sc_112.n rfl rfl rfl r_112_6 (n_bipush c_163_104 rfl (n_iload_n c_163_106 rfl (n_imul c_163_107 rfl (n_iload c_163_108 rfl (n_iadd c_163_110 rfl (n_ialoadV c_163_111 sc_117.n rfl rfl rfl (by omega) (t_117 hS (by omega)) ?_))))))))
                                            intro z367 ez367 f368
                                            refine n_iadd c_163_112 rfl (n_istore (L2 := [some (2, 112), some (0, a), some (0, 8), some (0, x), some (0, y), some (0, w), some (0, s), some (0, z1), some (0, ((((((((((((((0 * 2) + z247) * 2) + z267) * 2) + z287) * 2) + z307) * 2) + z327) * 2) + z347) * 2) + z367)), some (0, (((((((8 - 1) + (-1)) + (-1)) + (-1)) + (-1)) + (-1)) + (-1))), some (0, ((((z351 * 2) + z357) * 2) + z363))]) c_163_113 rfl rfl (n_iinc (L2 := [some (2, 112), some (0, a), some (0, 8), some (0, x), some (0, y), some (0, w), some (0, s), some (0, z1), some (0, ((((((((((((((0 * 2) + z247) * 2) + z267) * 2) + z287) * 2) + z307) * 2) + z327) * 2) + z347) * 2) + z367)), some (0, ((((((((8 - 1) + (-1)) + (-1)) + (-1)) + (-1)) + (-1)) + (-1)) + (-1))), some (0, ((((z351 * 2) + z357) * 2) + z363))]) c_163_115 rfl rfl rfl (n_goto c_163_118 (n_iload c_163_16 rfl ?_))))
                                            refine n_if0_lt c_163_18 (by omega) ?_ ?_
                                            · intro h369
                                              exfalso; omega
                                            · intro h370
                                              refine n_aload_n c_163_21 rfl (n_getR c_163_22 sc_112.n rfl rfl rfl r_112_18 (n_bipush c_163_25 rfl (n_iload_n c_163_27 rfl (n_imul c_163_28 rfl (n_iload c_163_29 rfl (n_iadd c_163_31 rfl (n_ialoadV c_163_32 sc_126.n rfl rfl rfl (by omega) (t_126 hS (by omega)) ?_)))))))
                                              intro z371 ez371 f372
                                              refine n_istore (L2 := [some (2, 112), some (0, a), some (0, 8), some (0, x), some (0, y), some (0, w), some (0, s), some (0, z1), some (0, ((((((((((((((0 * 2) + z247) * 2) + z267) * 2) + z287) * 2) + z307) * 2) + z327) * 2) + z347) * 2) + z367)), some (0, ((((((((8 - 1) + (-1)) + (-1)) + (-1)) + (-1)) + (-1)) + (-1)) + (-1))), some (0, z371)]) c_163_33 rfl rfl (n_iload c_163_35 rfl (n_iconst c_163_37 ?_))
                                              refine n_if2_le c_163_38 (by omega) (by omega) ?_ ?_
                                              · intro h373
                                                exfalso; omega
                                              · intro h374
                                                refine n_iload c_163_41 rfl (n_aload_n c_163_43 rfl (n_getV (bi := 0) c_163_44 sc_112.n rfl rfl rfl (t_dm hS hdm) ?_))
                                                intro z375 ez375 f376
                                                obtain rfl : z375 = 2 := by omega
                                                refine n_imul c_163_47 rfl (n_aload_n c_163_48 rfl (n_getR c_163_49 sc_112.n rfl rfl rfl r_112_18 (n_bipush c_163_52 rfl (n_iload c_163_54 rfl (n_imul c_163_56 rfl (n_iload c_163_57 rfl (n_iadd c_163_59 rfl (n_ialoadV c_163_60 sc_126.n rfl rfl rfl (by omega) (t_126 hS (by omega)) ?_))))))))
                                                intro z377 ez377 f378
                                                refine n_iadd c_163_61 rfl (n_istore (L2 := [some (2, 112), some (0, a), some (0, 8), some (0, x), some (0, y), some (0, w), some (0, s), some (0, z1), some (0, ((((((((((((((0 * 2) + z247) * 2) + z267) * 2) + z287) * 2) + z307) * 2) + z327) * 2) + z347) * 2) + z367)), some (0, ((((((((8 - 1) + (-1)) + (-1)) + (-1)) + (-1)) + (-1)) + (-1)) + (-1))), some (0, ((z371 * 2) + z377))]) c_163_62 rfl rfl (n_iload c_163_64 rfl (n_iconst c_163_66 ?_)))
                                                refine n_if2_le c_163_67 (by omega) (by omega) ?_ ?_
                                                · intro h379
                                                  exfalso; omega
                                                · intro h380
                                                  refine n_iload c_163_70 rfl (n_aload_n c_163_72 rfl (n_getV (bi := 0) c_163_73 sc_112.n rfl rfl rfl (t_dm hS hdm) ?_))
                                                  intro z381 ez381 f382
                                                  obtain rfl : z381 = 2 := by omega
                                                  refine n_imul c_163_76 rfl (n_aload_n c_163_77 rfl (n_getR c_163_78 sc_112.n rfl rfl rfl r_112_18 (n_bipush c_163_81 rfl (n_iload c_163_83 rfl (n_imul c_163_85 rfl (n_iload c_163_86 rfl (n_iadd c_163_88 rfl (n_ialoadV c_163_89 sc_126.n rfl rfl rfl (by omega) (t_126 hS (by omega)) ?_))))))))
                                                  intro z383 ez383 f384
                                                  refine n_iadd c_163_90 rfl (n_istore (L2 := [some (2, 112), some (0, a), some (0, 8), some (0, x), some (0, y), some (0, w), some (0, s), some (0, z1), some (0, ((((((((((((((0 * 2) + z247) * 2) + z267) * 2) + z287) * 2) + z307) * 2) + z327) * 2) + z347) * 2) + z367)), some (0, ((((((((8 - 1) + (-1)) + (-1)) + (-1)) + (-1)) + (-1)) + (-1)) + (-1))), some (0, ((((z371 * 2) + z377) * 2) + z383))]) c_163_91 rfl rfl (n_iload c_163_93 rfl (n_aload_n c_163_95 rfl (n_getV (bi := 0) c_163_96 sc_112.n rfl rfl rfl (t_dm hS hdm) ?_))))
                                                  intro z385 ez385 f386
                                                  obtain rfl : z385 = 2 := by omega
                                                  refine n_imul c_163_99 rfl (n_aload_n c_163_100 rfl (n_getR c_163_101 sc_112.n rfl rfl rfl r_112_6 (n_bipush c_163_104 rfl (n_iload_n c_163_106 rfl (n_imul c_163_107 rfl (n_iload c_163_108 rfl (n_iadd c_163_110 rfl (n_ialoadV c_163_111 sc_117.n rfl rfl rfl (by omega) (t_117 hS (by omega)) ?_))))))))
                                                  intro z387 ez387 f388
                                                  refine n_iadd c_163_112 rfl (n_istore (L2 := [some (2, 112), some (0, a), some (0, 8), some (0, x), some (0, y), some (0, w), some (0, s), some (0, z1), some (0, ((((((((((((((((0 * 2) + z247) * 2) + z267) * 2) + z287) * 2) + z307) * 2) + z327) * 2) + z347) * 2) + z367) * 2) + z387)), some (0, ((((((((8 - 1) + (-1)) + (-1)) + (-1)) + (-1)) + (-1)) + (-1)) + (-1))), some (0, ((((z371 * 2) + z377) * 2) + z383))]) c_163_113 rfl rfl (n_iinc (L2 := [some (2, 112), some (0, a), some (0, 8), some (0, x), some (0, y), some (0, w), some (0, s), some (0, z1), some (0, ((((((((((((((((0 * 2) + z247) * 2) + z267) * 2) + z287) * 2) + z307) * 2) + z327) * 2) + z347) * 2) + z367) * 2) + z387)), some (0, (((((((((8 - 1) + (-1)) + (-1)) + (-1)) + (-1)) + (-1)) + (-1)) + (-1)) + (-1))), some (0, ((((z371 * 2) + z377) * 2) + z383))]) c_163_115 rfl rfl rfl (n_goto c_163_118 (n_iload c_163_16 rfl ?_))))
                                                  refine n_if0_lt c_163_18 (by omega) ?_ ?_
                                                  · intro h389
                                                    refine n_aload_n c_163_121 rfl (n_getR c_163_122 sc_112.n rfl rfl rfl r_112_17 (n_iload c_163_125 rfl (n_ialoadV c_163_127 sc_125.n rfl rfl rfl (by omega) (t_125 hS (by omega)) ?_)))
                                                    intro z390 ez390 f391
                                                    refine n_if0_eq c_163_128 (by omega) ?_ ?_
                                                    · intro h392
                                                      refine n_fg (le_s (le_n (le_n (le_n (le_n (le_n (le_s (le_n (le_s (le_n (le_n le_0))))))))))) ?_
                                                      exact (mjoined8_2_c hS hdm ha hx hy hw hs 14).1 _ M hS (by omega) (by omega)
                                                    · intro h393
                                                      refine n_aload_n c_163_131 rfl (n_getR c_163_132 sc_112.n rfl rfl rfl r_112_17 (n_iload c_163_135 rfl (n_ialoadV c_163_137 sc_125.n rfl rfl rfl (by omega) (t_125 hS (by omega)) ?_)))
                                                      intro z394 ez394 f395
                                                      refine n_iload c_163_138 rfl (n_iconst c_163_140 (n_iadd c_163_141 rfl ?_))
                                                      refine n_if2_le c_163_142 (by omega) (by omega) ?_ ?_
                                                      · intro h396
                                                        refine n_fg (le_n (le_n (le_n (le_n (le_n (le_n (le_n (le_n (le_n (le_n (le_n le_0))))))))))) ?_
                                                        exact (mjoined8_2_c hS hdm ha hx hy hw hs 14).2  M hS  (by omega)
                                                      · intro h397
                                                        refine n_fg (le_s (le_n (le_n (le_n (le_n (le_n (le_s (le_n (le_s (le_n (le_n le_0))))))))))) ?_
                                                        exact (mjoined8_2_c hS hdm ha hx hy hw hs 14).1 _ M hS (by omega) (by omega)
                                                  · intro h398
                                                    exfalso; omega
