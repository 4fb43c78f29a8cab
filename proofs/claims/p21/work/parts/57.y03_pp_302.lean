/-! What the methods tell. -/
set_option maxHeartbeats 4000000 in
theorem misPairX0_3 {xs : List Int32} {e : Nat} {ac : Int} {M0 M : nM} (hS : Sf 3 ac M0 M) (hdm : M0 112 0 = 3) (hp : ∀ a : Int, 0 ≤ a → a < M 112 4 → 1 ≤ M 116 a) : nW xs (e + 5) 179 0 [some (2, 112), some (0, 0), none, none, none, none] [] M (nPI fun z M1 => M = M1 ∧ (0 ≤ z ∧ z ≤ 1) ∧ (z = pg3 M 0)) := by
  have hd : (3 : Int) = 2 ∨ (3 : Int) = 3 := by decide
  have hac := hS.2.2.2.2
  refine n_aload_n c_179_0 rfl (n_iload_n c_179_1 rfl (n_v1I c_179_2 rfl sc_112.n rfl rfl rfl rfl (misPartX0_3  hS hdm) ?_))
  intro z1 M2 hP3
  obtain ⟨eM, f3⟩ := hP3
  subst eM
  obtain rfl : z1 = 1 := by omega
  refine n_if0_ne c_179_5 (by omega) ?_ ?_
  · intro h4
    refine n_lconst (n := 0) c_179_10 rfl (n_lstore_n (L2 := [some (2, 112), some (0, 0), some (1, 0), none, none, none]) c_179_11 rfl rfl (n_iconst c_179_12 (n_istore (L2 := [some (2, 112), some (0, 0), some (1, 0), none, some (0, 0), none]) c_179_13 rfl rfl (n_iload c_179_15 rfl (n_aload_n c_179_17 rfl (n_getV (bi := 0) c_179_18 sc_112.n rfl rfl rfl (t_dm hS hdm) ?_))))))
    intro z5 ez5 f6
    obtain rfl : z5 = 3 := by omega
    refine n_if2_ge c_179_21 (by omega) (by omega) ?_ ?_
    · intro h7
      exfalso; omega
    · intro h8
      refine n_iconst c_179_24 (n_istore (L2 := [some (2, 112), some (0, 0), some (1, 0), none, some (0, 0), some (0, 0)]) c_179_25 rfl rfl (n_iload c_179_27 rfl (n_aload_n c_179_29 rfl (n_getV (bi := 0) c_179_30 sc_112.n rfl rfl rfl (t_dm hS hdm) ?_))))
      intro z9 ez9 f10
      obtain rfl : z9 = 3 := by omega
      refine n_if2_ge c_179_33 (by omega) (by omega) ?_ ?_
      · intro h11
        exfalso; omega
      · intro h12
        refine n_lload_n c_179_36 rfl (n_iload_n c_179_37 rfl (n_iconst c_179_38 (n_iload c_179_39 rfl (n_imul c_179_41 rfl (n_i_ishr (z := 0) c_179_42 (by decide) ?_)))))
        refine n_iconst c_179_43 (n_i_iand (z := 0) c_179_44 (by decide) ?_)
        refine n_iload_n c_179_45 rfl (n_iconst c_179_46 (n_iload c_179_47 rfl (n_imul c_179_49 rfl (n_i_ishr (z := 0) c_179_50 (by decide) ?_))))
        refine n_iconst c_179_51 (n_i_iand (z := 0) c_179_52 (by decide) ?_)
        refine n_if2_ne c_179_53 (by omega) (by omega) ?_ ?_
        · intro h13
          exfalso; omega
        · intro h14
          refine n_lconst (n := 1) c_179_56 rfl (n_iload c_179_57 rfl (n_aload_n c_179_59 rfl (n_getV (bi := 0) c_179_60 sc_112.n rfl rfl rfl (t_dm hS hdm) ?_)))
          intro z15 ez15 f16
          obtain rfl : z15 = 3 := by omega
          refine n_imul c_179_63 rfl (n_iload c_179_64 rfl (n_iadd c_179_66 rfl (n_i_lshl (z := 1) c_179_67 (by decide) ?_)))
          refine n_goto c_179_68 (n_i_lor (z := 1) c_179_72 (by decide) ?_)
          refine n_lstore_n (L2 := [some (2, 112), some (0, 0), some (1, 1), none, some (0, 0), some (0, 0)]) c_179_73 rfl rfl (n_iinc (L2 := [some (2, 112), some (0, 0), some (1, 1), none, some (0, 0), some (0, (0 + 1))]) c_179_74 rfl rfl rfl (n_goto c_179_77 (n_iload c_179_27 rfl (n_aload_n c_179_29 rfl (n_getV (bi := 0) c_179_30 sc_112.n rfl rfl rfl (t_dm hS hdm) ?_)))))
          intro z17 ez17 f18
          obtain rfl : z17 = 3 := by omega
          refine n_if2_ge c_179_33 (by omega) (by omega) ?_ ?_
          · intro h19
            exfalso; omega
          · intro h20
            refine n_lload_n c_179_36 rfl (n_iload_n c_179_37 rfl (n_iconst c_179_38 (n_iload c_179_39 rfl (n_imul c_179_41 rfl (n_i_ishr (z := 0) c_179_42 (by decide) ?_)))))
            refine n_iconst c_179_43 (n_i_iand (z := 0) c_179_44 (by decide) ?_)
            refine n_iload_n c_179_45 rfl (n_iconst c_179_46 (n_iload c_179_47 rfl (n_imul c_179_49 rfl (n_i_ishr (z := 0) c_179_50 (by decide) ?_))))
            refine n_iconst c_179_51 (n_i_iand (z := 0) c_179_52 (by decide) ?_)
            refine n_if2_ne c_179_53 (by omega) (by omega) ?_ ?_
            · intro h21
              exfalso; omega
            · intro h22
              refine n_lconst (n := 1) c_179_56 rfl (n_iload c_179_57 rfl (n_aload_n c_179_59 rfl (n_getV (bi := 0) c_179_60 sc_112.n rfl rfl rfl (t_dm hS hdm) ?_)))
              intro z23 ez23 f24
              obtain rfl : z23 = 3 := by omega
              refine n_imul c_179_63 rfl (n_iload c_179_64 rfl (n_iadd c_179_66 rfl (n_i_lshl (z := 2) c_179_67 (by decide) ?_)))
              refine n_goto c_179_68 (n_i_lor (z := 3) c_179_72 (by decide) ?_)
              refine n_lstore_n (L2 := [some (2, 112), some (0, 0), some (1, 3), none, some (0, 0), some (0, (0 + 1))]) c_179_73 rfl rfl (n_iinc (L2 := [some (2, 112), some (0, 0), some (1, 3), none, some (0, 0), some (0, ((0 + 1) + 1))]) c_179_74 rfl rfl rfl (n_goto c_179_77 (n_iload c_179_27 rfl (n_aload_n c_179_29 rfl (n_getV (bi := 0) c_179_30 sc_112.n rfl rfl rfl (t_dm hS hdm) ?_)))))
              intro z25 ez25 f26
              obtain rfl : z25 = 3 := by omega
              refine n_if2_ge c_179_33 (by omega) (by omega) ?_ ?_
              · intro h27
                exfalso; omega
              · intro h28
                refine n_lload_n c_179_36 rfl (n_iload_n c_179_37 rfl (n_iconst c_179_38 (n_iload c_179_39 rfl (n_imul c_179_41 rfl (n_i_ishr (z := 0) c_179_42 (by decide) ?_)))))
                refine n_iconst c_179_43 (n_i_iand (z := 0) c_179_44 (by decide) ?_)
                refine n_iload_n c_179_45 rfl (n_iconst c_179_46 (n_iload c_179_47 rfl (n_imul c_179_49 rfl (n_i_ishr (z := 0) c_179_50 (by decide) ?_))))
                refine n_iconst c_179_51 (n_i_iand (z := 0) c_179_52 (by decide) ?_)
                refine n_if2_ne c_179_53 (by omega) (by omega) ?_ ?_
                · intro h29
                  exfalso; omega
                · intro h30
                  refine n_lconst (n := 1) c_179_56 rfl (n_iload c_179_57 rfl (n_aload_n c_179_59 rfl (n_getV (bi := 0) c_179_60 sc_112.n rfl rfl rfl (t_dm hS hdm) ?_)))
                  intro z31 ez31 f32
                  obtain rfl : z31 = 3 := by omega
                  refine n_imul c_179_63 rfl (n_iload c_179_64 rfl (n_iadd c_179_66 rfl (n_i_lshl (z := 4) c_179_67 (by decide) ?_)))
                  refine n_goto c_179_68 (n_i_lor (z := 7) c_179_72 (by decide) ?_)
                  refine n_lstore_n (L2 := [some (2, 112), some (0, 0), some (1, 7), none, some (0, 0), some (0, ((0 + 1) + 1))]) c_179_73 rfl rfl (n_iinc (L2 := [some (2, 112), some (0, 0), some (1, 7), none, some (0, 0), some (0, (((0 + 1) + 1) + 1))]) c_179_74 rfl rfl rfl (n_goto c_179_77 (n_iload c_179_27 rfl (n_aload_n c_179_29 rfl (n_getV (bi := 0) c_179_30 sc_112.n rfl rfl rfl (t_dm hS hdm) ?_)))))
                  intro z33 ez33 f34
                  obtain rfl : z33 = 3 := by omega
                  refine n_if2_ge c_179_33 (by omega) (by omega) ?_ ?_
                  · intro h35
                    refine n_iinc (L2 := [some (2, 112), some (0, 0), some (1, 7), none, some (0, (0 + 1)), some (0, (((0 + 1) + 1) + 1))]) c_179_80 rfl rfl rfl (n_goto c_179_83 (n_iload c_179_15 rfl (n_aload_n c_179_17 rfl (n_getV (bi := 0) c_179_18 sc_112.n rfl rfl rfl (t_dm hS hdm) ?_))))
                    intro z36 ez36 f37
                    obtain rfl : z36 = 3 := by omega
                    refine n_if2_ge c_179_21 (by omega) (by omega) ?_ ?_
                    · intro h38
                      exfalso; omega
                    · intro h39
                      refine n_iconst c_179_24 (n_istore (L2 := [some (2, 112), some (0, 0), some (1, 7), none, some (0, (0 + 1)), some (0, 0)]) c_179_25 rfl rfl (n_iload c_179_27 rfl (n_aload_n c_179_29 rfl (n_getV (bi := 0) c_179_30 sc_112.n rfl rfl rfl (t_dm hS hdm) ?_))))
                      intro z40 ez40 f41
                      obtain rfl : z40 = 3 := by omega
                      refine n_if2_ge c_179_33 (by omega) (by omega) ?_ ?_
                      · intro h42
                        exfalso; omega
                      · intro h43
                        refine n_lload_n c_179_36 rfl (n_iload_n c_179_37 rfl (n_iconst c_179_38 (n_iload c_179_39 rfl (n_imul c_179_41 rfl (n_i_ishr (z := 0) c_179_42 (by decide) ?_)))))
                        refine n_iconst c_179_43 (n_i_iand (z := 0) c_179_44 (by decide) ?_)
                        refine n_iload_n c_179_45 rfl (n_iconst c_179_46 (n_iload c_179_47 rfl (n_imul c_179_49 rfl (n_i_ishr (z := 0) c_179_50 (by decide) ?_))))
                        refine n_iconst c_179_51 (n_i_iand (z := 0) c_179_52 (by decide) ?_)
                        refine n_if2_ne c_179_53 (by omega) (by omega) ?_ ?_
                        · intro h44
                          exfalso; omega
                        · intro h45
                          refine n_lconst (n := 1) c_179_56 rfl (n_iload c_179_57 rfl (n_aload_n c_179_59 rfl (n_getV (bi := 0) c_179_60 sc_112.n rfl rfl rfl (t_dm hS hdm) ?_)))
                          intro z46 ez46 f47
                          obtain rfl : z46 = 3 := by omega
                          refine n_imul c_179_63 rfl (n_iload c_179_64 rfl (n_iadd c_179_66 rfl (n_i_lshl (z := 8) c_179_67 (by decide) ?_)))
                          refine n_goto c_179_68 (n_i_lor (z := 15) c_179_72 (by decide) ?_)
                          refine n_lstore_n (L2 := [some (2, 112), some (0, 0), some (1, 15), none, some (0, (0 + 1)), some (0, 0)]) c_179_73 rfl rfl (n_iinc (L2 := [some (2, 112), some (0, 0), some (1, 15), none, some (0, (0 + 1)), some (0, (0 + 1))]) c_179_74 rfl rfl rfl (n_goto c_179_77 (n_iload c_179_27 rfl (n_aload_n c_179_29 rfl (n_getV (bi := 0) c_179_30 sc_112.n rfl rfl rfl (t_dm hS hdm) ?_)))))
                          intro z48 ez48 f49
                          obtain rfl : z48 = 3 := by omega
                          refine n_if2_ge c_179_33 (by omega) (by omega) ?_ ?_
                          · intro h50
                            exfalso; omega
                          · intro h51
                            refine n_lload_n c_179_36 rfl (n_iload_n c_179_37 rfl (n_iconst c_179_38 (n_iload c_179_39 rfl (n_imul c_179_41 rfl (n_i_ishr (z := 0) c_179_42 (by decide) ?_)))))
                            refine n_iconst c_179_43 (n_i_iand (z := 0) c_179_44 (by decide) ?_)
                            refine n_iload_n c_179_45 rfl (n_iconst c_179_46 (n_iload c_179_47 rfl (n_imul c_179_49 rfl (n_i_ishr (z := 0) c_179_50 (by decide) ?_))))
                            refine n_iconst c_179_51 (n_i_iand (z := 0) c_179_52 (by decide) ?_)
                            refine n_if2_ne c_179_53 (by omega) (by omega) ?_ ?_
                            · intro h52
                              exfalso; omega
                            · intro h53
                              refine n_lconst (n := 1) c_179_56 rfl (n_iload c_179_57 rfl (n_aload_n c_179_59 rfl (n_getV (bi := 0) c_179_60 sc_112.n rfl rfl rfl (t_dm hS hdm) ?_)))
                              intro z54 ez54 f55
                              obtain rfl : z54 = 3 := by omega
                              refine n_imul c_179_63 rfl (n_iload c_179_64 rfl (n_iadd c_179_66 rfl (n_i_lshl (z := 16) c_179_67 (by decide) ?_)))
                              refine n_goto c_179_68 (n_i_lor (z := 31) c_179_72 (by decide) ?_)
                              refine n_lstore_n (L2 := [some (2, 112), some (0, 0), some (1, 31), none, some (0, (0 + 1)), some (0, (0 + 1))]) c_179_73 rfl rfl (n_iinc (L2 := [some (2, 112), some (0, 0), some (1, 31), none, some (0, (0 + 1)), some (0, ((0 + 1) + 1))]) c_179_74 rfl rfl rfl (n_goto c_179_77 (n_iload c_179_27 rfl (n_aload_n c_179_29 rfl (n_getV (bi := 0) c_179_30 sc_112.n rfl rfl rfl (t_dm hS hdm) ?_)))))
                              intro z56 ez56 f57
                              obtain rfl : z56 = 3 := by omega
                              refine n_if2_ge c_179_33 (by omega) (by omega) ?_ ?_
                              · intro h58
                                exfalso; omega
                              · intro h59
                                refine n_lload_n c_179_36 rfl (n_iload_n c_179_37 rfl (n_iconst c_179_38 (n_iload c_179_39 rfl (n_imul c_179_41 rfl (n_i_ishr (z := 0) c_179_42 (by decide) ?_)))))
                                refine n_iconst c_179_43 (n_i_iand (z := 0) c_179_44 (by decide) ?_)
                                refine n_iload_n c_179_45 rfl (n_iconst c_179_46 (n_iload c_179_47 rfl (n_imul c_179_49 rfl (n_i_ishr (z := 0) c_179_50 (by decide) ?_))))
                                refine n_iconst c_179_51 (n_i_iand (z := 0) c_179_52 (by decide) ?_)
                                refine n_if2_ne c_179_53 (by omega) (by omega) ?_ ?_
                                · intro h60
                                  exfalso; omega
                                · intro h61
                                  refine n_lconst (n := 1) c_179_56 rfl (n_iload c_179_57 rfl (n_aload_n c_179_59 rfl (n_getV (bi := 0) c_179_60 sc_112.n rfl rfl rfl (t_dm hS hdm) ?_)))
                                  intro z62 ez62 f63
                                  obtain rfl : z62 = 3 := by omega
                                  refine n_imul c_179_63 rfl (n_iload c_179_64 rfl (n_iadd c_179_66 rfl (n_i_lshl (z := 32) c_179_67 (by decide) ?_)))
                                  refine n_goto c_179_68 (n_i_lor (z := 63) c_179_72 (by decide) ?_)
                                  refine n_lstore_n (L2 := [some (2, 112), some (0, 0), some (1, 63), none, some (0, (0 + 1)), some (0, ((0 + 1) + 1))]) c_179_73 rfl rfl (n_iinc (L2 := [some (2, 112), some (0, 0), some (1, 63), none, some (0, (0 + 1)), some (0, (((0 + 1) + 1) + 1))]) c_179_74 rfl rfl rfl (n_goto c_179_77 (n_iload c_179_27 rfl (n_aload_n c_179_29 rfl (n_getV (bi := 0) c_179_30 sc_112.n rfl rfl rfl (t_dm hS hdm) ?_)))))
                                  intro z64 ez64 f65
                                  obtain rfl : z64 = 3 := by omega
                                  refine n_if2_ge c_179_33 (by omega) (by omega) ?_ ?_
                                  · intro h66
                                    refine n_iinc (L2 := [some (2, 112), some (0, 0), some (1, 63), none, some (0, ((0 + 1) + 1)), some (0, (((0 + 1) + 1) + 1))]) c_179_80 rfl rfl rfl (n_goto c_179_83 (n_iload c_179_15 rfl (n_aload_n c_179_17 rfl (n_getV (bi := 0) c_179_18 sc_112.n rfl rfl rfl (t_dm hS hdm) ?_))))
                                    intro z67 ez67 f68
                                    obtain rfl : z67 = 3 := by omega
                                    refine n_if2_ge c_179_21 (by omega) (by omega) ?_ ?_
                                    · intro h69
                                      exfalso; omega
                                    · intro h70
                                      refine n_iconst c_179_24 (n_istore (L2 := [some (2, 112), some (0, 0), some (1, 63), none, some (0, ((0 + 1) + 1)), some (0, 0)]) c_179_25 rfl rfl (n_iload c_179_27 rfl (n_aload_n c_179_29 rfl (n_getV (bi := 0) c_179_30 sc_112.n rfl rfl rfl (t_dm hS hdm) ?_))))
                                      intro z71 ez71 f72
                                      obtain rfl : z71 = 3 := by omega
                                      refine n_if2_ge c_179_33 (by omega) (by omega) ?_ ?_
                                      · intro h73
                                        exfalso; omega
                                      · intro h74
                                        refine n_lload_n c_179_36 rfl (n_iload_n c_179_37 rfl (n_iconst c_179_38 (n_iload c_179_39 rfl (n_imul c_179_41 rfl (n_i_ishr (z := 0) c_179_42 (by decide) ?_)))))
                                        refine n_iconst c_179_43 (n_i_iand (z := 0) c_179_44 (by decide) ?_)
                                        refine n_iload_n c_179_45 rfl (n_iconst c_179_46 (n_iload c_179_47 rfl (n_imul c_179_49 rfl (n_i_ishr (z := 0) c_179_50 (by decide) ?_))))
                                        refine n_iconst c_179_51 (n_i_iand (z := 0) c_179_52 (by decide) ?_)
                                        refine n_if2_ne c_179_53 (by omega) (by omega) ?_ ?_
                                        · intro h75
                                          exfalso; omega
                                        · intro h76
                                          refine n_lconst (n := 1) c_179_56 rfl (n_iload c_179_57 rfl (n_aload_n c_179_59 rfl (n_getV (bi := 0) c_179_60 sc_112.n rfl rfl rfl (t_dm hS hdm) ?_)))
                                          intro z77 ez77 f78
                                          obtain rfl : z77 = 3 := by omega
                                          refine n_imul c_179_63 rfl (n_iload c_179_64 rfl (n_iadd c_179_66 rfl (n_i_lshl (z := 64) c_179_67 (by decide) ?_)))
                                          refine n_goto c_179_68 (n_i_lor (z := 127) c_179_72 (by decide) ?_)
                                          refine n_lstore_n (L2 := [some (2, 112), some (0, 0), some (1, 127), none, some (0, ((0 + 1) + 1)), some (0, 0)]) c_179_73 rfl rfl (n_iinc (L2 := [some (2, 112), some (0, 0), some (1, 127), none, some (0, ((0 + 1) + 1)), some (0, (0 + 1))]) c_179_74 rfl rfl rfl (n_goto c_179_77 (n_iload c_179_27 rfl (n_aload_n c_179_29 rfl (n_getV (bi := 0) c_179_30 sc_112.n rfl rfl rfl (t_dm hS hdm) ?_)))))
                                          intro z79 ez79 f80
                                          obtain rfl : z79 = 3 := by omega
                                          refine n_if2_ge c_179_33 (by omega) (by omega) ?_ ?_
                                          · intro h81
                                            exfalso; omega
                                          · intro h82
                                            refine n_lload_n c_179_36 rfl (n_iload_n c_179_37 rfl (n_iconst c_179_38 (n_iload c_179_39 rfl (n_imul c_179_41 rfl (n_i_ishr (z := 0) c_179_42 (by decide) ?_)))))
                                            refine n_iconst c_179_43 (n_i_iand (z := 0) c_179_44 (by decide) ?_)
                                            refine n_iload_n c_179_45 rfl (n_iconst c_179_46 (n_iload c_179_47 rfl (n_imul c_179_49 rfl (n_i_ishr (z := 0) c_179_50 (by decide) ?_))))
                                            refine n_iconst c_179_51 (n_i_iand (z := 0) c_179_52 (by decide) ?_)
                                            refine n_if2_ne c_179_53 (by omega) (by omega) ?_ ?_
                                            · intro h83
                                              exfalso; omega
                                            · intro h84
                                              refine n_lconst (n := 1) c_179_56 rfl (n_iload c_179_57 rfl (n_aload_n c_179_59 rfl (n_getV (bi := 0) c_179_60 sc_112.n rfl rfl rfl (t_dm hS hdm) ?_)))
                                              intro z85 ez85 f86
                                              obtain rfl : z85 = 3 := by omega
                                              refine n_imul c_179_63 rfl (n_iload c_179_64 rfl (n_iadd c_179_66 rfl (n_i_lshl (z := 128) c_179_67 (by decide) ?_)))
                                              refine n_goto c_179_68 (n_i_lor (z := 255) c_179_72 (by decide) ?_)
                                              refine n_lstore_n (L2 := [some (2, 112), some (0, 0), some (1, 255), none, some (0, ((0 + 1) + 1)), some (0, (0 + 1))]) c_179_73 rfl rfl (n_iinc (L2 := [some (2, 112), some (0, 0), some (1, 255), none, some (0, ((0 + 1) + 1)), some (0, ((0 + 1) + 1))]) c_179_74 rfl rfl rfl (n_goto c_179_77 (n_iload c_179_27 rfl (n_aload_n c_179_29 rfl (n_getV (bi := 0) c_179_30 sc_112.n rfl rfl rfl (t_dm hS hdm) ?_)))))
                                              intro z87 ez87 f88
                                              obtain rfl : z87 = 3 := by omega
                                              refine n_if2_ge c_179_33 (by omega) (by omega) ?_ ?_
                                              · intro h89
                                                exfalso; omega
                                              · intro h90
                                                refine n_lload_n c_179_36 rfl (n_iload_n c_179_37 rfl (n_iconst c_179_38 (n_iload c_179_39 rfl (n_imul c_179_41 rfl (n_i_ishr (z := 0) c_179_42 (by decide) ?_)))))
                                                refine n_iconst c_179_43 (n_i_iand (z := 0) c_179_44 (by decide) ?_)
                                                refine n_iload_n c_179_45 rfl (n_iconst c_179_46 (n_iload c_179_47 rfl (n_imul c_179_49 rfl (n_i_ishr (z := 0) c_179_50 (by decide) ?_))))
                                                refine n_iconst c_179_51 (n_i_iand (z := 0) c_179_52 (by decide) ?_)
                                                refine n_if2_ne c_179_53 (by omega) (by omega) ?_ ?_
                                                · intro h91
                                                  exfalso; omega
                                                · intro h92
                                                  refine n_lconst (n := 1) c_179_56 rfl (n_iload c_179_57 rfl (n_aload_n c_179_59 rfl (n_getV (bi := 0) c_179_60 sc_112.n rfl rfl rfl (t_dm hS hdm) ?_)))
                                                  intro z93 ez93 f94
                                                  obtain rfl : z93 = 3 := by omega
                                                  refine n_imul c_179_63 rfl (n_iload c_179_64 rfl (n_iadd c_179_66 rfl (n_i_lshl (z := 256) c_179_67 (by decide) ?_)))
                                                  refine n_goto c_179_68 (n_i_lor (z := 511) c_179_72 (by decide) ?_)
                                                  refine n_lstore_n (L2 := [some (2, 112), some (0, 0), some (1, 511), none, some (0, ((0 + 1) + 1)), some (0, ((0 + 1) + 1))]) c_179_73 rfl rfl (n_iinc (L2 := [some (2, 112), some (0, 0), some (1, 511), none, some (0, ((0 + 1) + 1)), some (0, (((0 + 1) + 1) + 1))]) c_179_74 rfl rfl rfl (n_goto c_179_77 (n_iload c_179_27 rfl (n_aload_n c_179_29 rfl (n_getV (bi := 0) c_179_30 sc_112.n rfl rfl rfl (t_dm hS hdm) ?_)))))
                                                  intro z95 ez95 f96
                                                  obtain rfl : z95 = 3 := by omega
                                                  refine n_if2_ge c_179_33 (by omega) (by omega) ?_ ?_
                                                  · intro h97
                                                    refine n_iinc (L2 := [some (2, 112), some (0, 0), some (1, 511), none, some (0, (((0 + 1) + 1) + 1)), some (0, (((0 + 1) + 1) + 1))]) c_179_80 rfl rfl rfl (n_goto c_179_83 (n_iload c_179_15 rfl (n_aload_n c_179_17 rfl (n_getV (bi := 0) c_179_18 sc_112.n rfl rfl rfl (t_dm hS hdm) ?_))))
                                                    intro z98 ez98 f99
                                                    obtain rfl : z98 = 3 := by omega
                                                    refine n_if2_ge c_179_21 (by omega) (by omega) ?_ ?_
                                                    · intro h100
                                                      refine n_aload_n c_179_86 rfl (n_iconst c_179_87 (n_lload_n c_179_88 rfl (n_v2I c_179_89 rfl sc_112.n rfl rfl rfl rfl (mallKeepX_3 (k := 2) (s := 511) hS hdm (by omega) (by omega) (by exact hp)) ?_)))
                                                      intro z101 M102 hP103
                                                      obtain ⟨eM, f103, f103p0⟩ := hP103
                                                      subst eM
                                                      exact n_rZ c_179_92 rfl (by omega) ⟨rfl, by omega, by exact f103p0⟩
                                                    · intro h104
                                                      exfalso; omega
                                                  · intro h105
                                                    exfalso; omega
                                  · intro h106
                                    exfalso; omega
                  · intro h107
                    exfalso; omega
  · intro h108
    exfalso; omega

set_option maxHeartbeats 4000000 in
theorem misPartX1_3 {xs : List Int32} {e : Nat} {ac : Int} {M0 M : nM} (hS : Sf 3 ac M0 M) (hdm : M0 112 0 = 3) : nW xs e 178 0 [some (2, 112), some (0, 1), none, none] [] M (nPI fun z M1 => M = M1 ∧ (0 ≤ z ∧ z ≤ 0)) := by
  have hd : (3 : Int) = 2 ∨ (3 : Int) = 3 := by decide
  have hac := hS.2.2.2.2
  refine n_iconst c_178_0 (n_istore_n (L2 := [some (2, 112), some (0, 1), some (0, 0), none]) c_178_1 rfl rfl (n_iload_n c_178_2 rfl (n_aload_n c_178_3 rfl (n_getV (bi := 0) c_178_4 sc_112.n rfl rfl rfl (t_dm hS hdm) ?_))))
  intro z1 ez1 f2
  obtain rfl : z1 = 3 := by omega
  refine n_if2_ge c_178_7 (by omega) (by omega) ?_ ?_
  · intro h3
    exfalso; omega
  · intro h4
    refine n_iload_n c_178_10 rfl (n_iconst c_178_11 (n_iload_n c_178_12 rfl (n_imul c_178_13 rfl (n_i_ishr (z := 1) c_178_14 (by decide) ?_))))
    refine n_iconst c_178_15 (n_i_iand (z := 1) c_178_16 (by decide) ?_)
    refine n_istore_n (L2 := [some (2, 112), some (0, 1), some (0, 0), some (0, 1)]) c_178_17 rfl rfl (n_iload_n c_178_18 rfl (n_iload_n c_178_19 rfl ?_))
    refine n_if2_gt c_178_20 (by omega) (by omega) ?_ ?_
    · intro h5
      refine n_iconst c_178_34 ?_
      exact n_rZ c_178_35 rfl (by omega) ⟨rfl, by omega⟩
    · intro h6
      exfalso; omega

set_option maxHeartbeats 4000000 in
theorem misPairX1_3 {xs : List Int32} {e : Nat} {ac : Int} {M0 M : nM} (hS : Sf 3 ac M0 M) (hdm : M0 112 0 = 3) (hp : ∀ a : Int, 0 ≤ a → a < M 112 4 → 1 ≤ M 116 a) : nW xs (e + 5) 179 0 [some (2, 112), some (0, 1), none, none, none, none] [] M (nPI fun z M1 => M = M1 ∧ (0 ≤ z ∧ z ≤ 1) ∧ (z = pg3 M 1)) := by
  have hd : (3 : Int) = 2 ∨ (3 : Int) = 3 := by decide
  have hac := hS.2.2.2.2
  refine n_aload_n c_179_0 rfl (n_iload_n c_179_1 rfl (n_v1I c_179_2 rfl sc_112.n rfl rfl rfl rfl (misPartX1_3  hS hdm) ?_))
  intro z1 M2 hP3
  obtain ⟨eM, f3⟩ := hP3
  subst eM
  obtain rfl : z1 = 0 := by omega
  refine n_if0_ne c_179_5 (by omega) ?_ ?_
  · intro h4
    exfalso; omega
  · intro h5
    refine n_iconst c_179_8 ?_
    exact n_rZ c_179_9 rfl (by omega) ⟨rfl, by omega, by rfl⟩

set_option maxHeartbeats 4000000 in
theorem misPartX2_3 {xs : List Int32} {e : Nat} {ac : Int} {M0 M : nM} (hS : Sf 3 ac M0 M) (hdm : M0 112 0 = 3) : nW xs e 178 0 [some (2, 112), some (0, 2), none, none] [] M (nPI fun z M1 => M = M1 ∧ (0 ≤ z ∧ z ≤ 0)) := by
  have hd : (3 : Int) = 2 ∨ (3 : Int) = 3 := by decide
  have hac := hS.2.2.2.2
  refine n_iconst c_178_0 (n_istore_n (L2 := [some (2, 112), some (0, 2), some (0, 0), none]) c_178_1 rfl rfl (n_iload_n c_178_2 rfl (n_aload_n c_178_3 rfl (n_getV (bi := 0) c_178_4 sc_112.n rfl rfl rfl (t_dm hS hdm) ?_))))
  intro z1 ez1 f2
  obtain rfl : z1 = 3 := by omega
  refine n_if2_ge c_178_7 (by omega) (by omega) ?_ ?_
  · intro h3
    exfalso; omega
  · intro h4
    refine n_iload_n c_178_10 rfl (n_iconst c_178_11 (n_iload_n c_178_12 rfl (n_imul c_178_13 rfl (n_i_ishr (z := 2) c_178_14 (by decide) ?_))))
    refine n_iconst c_178_15 (n_i_iand (z := 2) c_178_16 (by decide) ?_)
    refine n_istore_n (L2 := [some (2, 112), some (0, 2), some (0, 0), some (0, 2)]) c_178_17 rfl rfl (n_iload_n c_178_18 rfl (n_iload_n c_178_19 rfl ?_))
    refine n_if2_gt c_178_20 (by omega) (by omega) ?_ ?_
    · intro h5
      refine n_iconst c_178_34 ?_
      exact n_rZ c_178_35 rfl (by omega) ⟨rfl, by omega⟩
    · intro h6
      exfalso; omega

set_option maxHeartbeats 4000000 in
theorem misPairX2_3 {xs : List Int32} {e : Nat} {ac : Int} {M0 M : nM} (hS : Sf 3 ac M0 M) (hdm : M0 112 0 = 3) (hp : ∀ a : Int, 0 ≤ a → a < M 112 4 → 1 ≤ M 116 a) : nW xs (e + 5) 179 0 [some (2, 112), some (0, 2), none, none, none, none] [] M (nPI fun z M1 => M = M1 ∧ (0 ≤ z ∧ z ≤ 1) ∧ (z = pg3 M 2)) := by
  have hd : (3 : Int) = 2 ∨ (3 : Int) = 3 := by decide
  have hac := hS.2.2.2.2
  refine n_aload_n c_179_0 rfl (n_iload_n c_179_1 rfl (n_v1I c_179_2 rfl sc_112.n rfl rfl rfl rfl (misPartX2_3  hS hdm) ?_))
  intro z1 M2 hP3
  obtain ⟨eM, f3⟩ := hP3
  subst eM
  obtain rfl : z1 = 0 := by omega
  refine n_if0_ne c_179_5 (by omega) ?_ ?_
  · intro h4
    exfalso; omega
  · intro h5
    refine n_iconst c_179_8 ?_
    exact n_rZ c_179_9 rfl (by omega) ⟨rfl, by omega, by rfl⟩

set_option maxHeartbeats 4000000 in
theorem misPartX3_3 {xs : List Int32} {e : Nat} {ac : Int} {M0 M : nM} (hS : Sf 3 ac M0 M) (hdm : M0 112 0 = 3) : nW xs e 178 0 [some (2, 112), some (0, 3), none, none] [] M (nPI fun z M1 => M = M1 ∧ (0 ≤ z ∧ z ≤ 0)) := by
  have hd : (3 : Int) = 2 ∨ (3 : Int) = 3 := by decide
  have hac := hS.2.2.2.2
  refine n_iconst c_178_0 (n_istore_n (L2 := [some (2, 112), some (0, 3), some (0, 0), none]) c_178_1 rfl rfl (n_iload_n c_178_2 rfl (n_aload_n c_178_3 rfl (n_getV (bi := 0) c_178_4 sc_112.n rfl rfl rfl (t_dm hS hdm) ?_))))
  intro z1 ez1 f2
  obtain rfl : z1 = 3 := by omega
  refine n_if2_ge c_178_7 (by omega) (by omega) ?_ ?_
  · intro h3
    exfalso; omega
  · intro h4
    refine n_iload_n c_178_10 rfl (n_iconst c_178_11 (n_iload_n c_178_12 rfl (n_imul c_178_13 rfl (n_i_ishr (z := 3) c_178_14 (by decide) ?_))))
    refine n_iconst c_178_15 (n_i_iand (z := 3) c_178_16 (by decide) ?_)
    refine n_istore_n (L2 := [some (2, 112), some (0, 3), some (0, 0), some (0, 3)]) c_178_17 rfl rfl (n_iload_n c_178_18 rfl (n_iload_n c_178_19 rfl ?_))
    refine n_if2_gt c_178_20 (by omega) (by omega) ?_ ?_
    · intro h5
      refine n_iconst c_178_34 ?_
      exact n_rZ c_178_35 rfl (by omega) ⟨rfl, by omega⟩
    · intro h6
      exfalso; omega

set_option maxHeartbeats 4000000 in
theorem misPairX3_3 {xs : List Int32} {e : Nat} {ac : Int} {M0 M : nM} (hS : Sf 3 ac M0 M) (hdm : M0 112 0 = 3) (hp : ∀ a : Int, 0 ≤ a → a < M 112 4 → 1 ≤ M 116 a) : nW xs (e + 5) 179 0 [some (2, 112), some (0, 3), none, none, none, none] [] M (nPI fun z M1 => M = M1 ∧ (0 ≤ z ∧ z ≤ 1) ∧ (z = pg3 M 3)) := by
  have hd : (3 : Int) = 2 ∨ (3 : Int) = 3 := by decide
  have hac := hS.2.2.2.2
  refine n_aload_n c_179_0 rfl (n_iload_n c_179_1 rfl (n_v1I c_179_2 rfl sc_112.n rfl rfl rfl rfl (misPartX3_3  hS hdm) ?_))
  intro z1 M2 hP3
  obtain ⟨eM, f3⟩ := hP3
  subst eM
  obtain rfl : z1 = 0 := by omega
  refine n_if0_ne c_179_5 (by omega) ?_ ?_
  · intro h4
    exfalso; omega
  · intro h5
    refine n_iconst c_179_8 ?_
    exact n_rZ c_179_9 rfl (by omega) ⟨rfl, by omega, by rfl⟩

set_option maxHeartbeats 4000000 in
theorem misPartX4_3 {xs : List Int32} {e : Nat} {ac : Int} {M0 M : nM} (hS : Sf 3 ac M0 M) (hdm : M0 112 0 = 3) : nW xs e 178 0 [some (2, 112), some (0, 4), none, none] [] M (nPI fun z M1 => M = M1 ∧ (1 ≤ z ∧ z ≤ 1)) := by
  have hd : (3 : Int) = 2 ∨ (3 : Int) = 3 := by decide
  have hac := hS.2.2.2.2
  refine n_iconst c_178_0 (n_istore_n (L2 := [some (2, 112), some (0, 4), some (0, 0), none]) c_178_1 rfl rfl (n_iload_n c_178_2 rfl (n_aload_n c_178_3 rfl (n_getV (bi := 0) c_178_4 sc_112.n rfl rfl rfl (t_dm hS hdm) ?_))))
  intro z1 ez1 f2
  obtain rfl : z1 = 3 := by omega
  refine n_if2_ge c_178_7 (by omega) (by omega) ?_ ?_
  · intro h3
    exfalso; omega
  · intro h4
    refine n_iload_n c_178_10 rfl (n_iconst c_178_11 (n_iload_n c_178_12 rfl (n_imul c_178_13 rfl (n_i_ishr (z := 4) c_178_14 (by decide) ?_))))
    refine n_iconst c_178_15 (n_i_iand (z := 0) c_178_16 (by decide) ?_)
    refine n_istore_n (L2 := [some (2, 112), some (0, 4), some (0, 0), some (0, 0)]) c_178_17 rfl rfl (n_iload_n c_178_18 rfl (n_iload_n c_178_19 rfl ?_))
    refine n_if2_gt c_178_20 (by omega) (by omega) ?_ ?_
    · intro h5
      exfalso; omega
    · intro h6
      refine n_iload_n c_178_23 rfl (n_iconst c_178_24 (n_iload_n c_178_25 rfl (n_imul c_178_26 rfl (n_i_ishr (z := 4) c_178_27 (by decide) ?_))))
      refine n_iconst c_178_28 (n_i_iand (z := 0) c_178_29 (by decide) ?_)
      refine n_iload_n c_178_30 rfl ?_
      refine n_if2_eq c_178_31 (by omega) (by omega) ?_ ?_
      · intro h7
        refine n_iinc (L2 := [some (2, 112), some (0, 4), some (0, (0 + 1)), some (0, 0)]) c_178_36 rfl rfl rfl (n_goto c_178_39 (n_iload_n c_178_2 rfl (n_aload_n c_178_3 rfl (n_getV (bi := 0) c_178_4 sc_112.n rfl rfl rfl (t_dm hS hdm) ?_))))
        intro z8 ez8 f9
        obtain rfl : z8 = 3 := by omega
        refine n_if2_ge c_178_7 (by omega) (by omega) ?_ ?_
        · intro h10
          exfalso; omega
        · intro h11
          refine n_iload_n c_178_10 rfl (n_iconst c_178_11 (n_iload_n c_178_12 rfl (n_imul c_178_13 rfl (n_i_ishr (z := 1) c_178_14 (by decide) ?_))))
          refine n_iconst c_178_15 (n_i_iand (z := 1) c_178_16 (by decide) ?_)
          refine n_istore_n (L2 := [some (2, 112), some (0, 4), some (0, (0 + 1)), some (0, 1)]) c_178_17 rfl rfl (n_iload_n c_178_18 rfl (n_iload_n c_178_19 rfl ?_))
          refine n_if2_gt c_178_20 (by omega) (by omega) ?_ ?_
          · intro h12
            exfalso; omega
          · intro h13
            refine n_iload_n c_178_23 rfl (n_iconst c_178_24 (n_iload_n c_178_25 rfl (n_imul c_178_26 rfl (n_i_ishr (z := 1) c_178_27 (by decide) ?_))))
            refine n_iconst c_178_28 (n_i_iand (z := 1) c_178_29 (by decide) ?_)
            refine n_iload_n c_178_30 rfl ?_
            refine n_if2_eq c_178_31 (by omega) (by omega) ?_ ?_
            · intro h14
              refine n_iinc (L2 := [some (2, 112), some (0, 4), some (0, ((0 + 1) + 1)), some (0, 1)]) c_178_36 rfl rfl rfl (n_goto c_178_39 (n_iload_n c_178_2 rfl (n_aload_n c_178_3 rfl (n_getV (bi := 0) c_178_4 sc_112.n rfl rfl rfl (t_dm hS hdm) ?_))))
              intro z15 ez15 f16
              obtain rfl : z15 = 3 := by omega
              refine n_if2_ge c_178_7 (by omega) (by omega) ?_ ?_
              · intro h17
                exfalso; omega
              · intro h18
                refine n_iload_n c_178_10 rfl (n_iconst c_178_11 (n_iload_n c_178_12 rfl (n_imul c_178_13 rfl (n_i_ishr (z := 0) c_178_14 (by decide) ?_))))
                refine n_iconst c_178_15 (n_i_iand (z := 0) c_178_16 (by decide) ?_)
                refine n_istore_n (L2 := [some (2, 112), some (0, 4), some (0, ((0 + 1) + 1)), some (0, 0)]) c_178_17 rfl rfl (n_iload_n c_178_18 rfl (n_iload_n c_178_19 rfl ?_))
                refine n_if2_gt c_178_20 (by omega) (by omega) ?_ ?_
                · intro h19
                  exfalso; omega
                · intro h20
                  refine n_iload_n c_178_23 rfl (n_iconst c_178_24 (n_iload_n c_178_25 rfl (n_imul c_178_26 rfl (n_i_ishr (z := 4) c_178_27 (by decide) ?_))))
                  refine n_iconst c_178_28 (n_i_iand (z := 0) c_178_29 (by decide) ?_)
                  refine n_iload_n c_178_30 rfl ?_
                  refine n_if2_eq c_178_31 (by omega) (by omega) ?_ ?_
                  · intro h21
                    refine n_iinc (L2 := [some (2, 112), some (0, 4), some (0, (((0 + 1) + 1) + 1)), some (0, 0)]) c_178_36 rfl rfl rfl (n_goto c_178_39 (n_iload_n c_178_2 rfl (n_aload_n c_178_3 rfl (n_getV (bi := 0) c_178_4 sc_112.n rfl rfl rfl (t_dm hS hdm) ?_))))
                    intro z22 ez22 f23
                    obtain rfl : z22 = 3 := by omega
                    refine n_if2_ge c_178_7 (by omega) (by omega) ?_ ?_
                    · intro h24
                      refine n_iconst c_178_42 ?_
                      exact n_rZ c_178_43 rfl (by omega) ⟨rfl, by omega⟩
                    · intro h25
                      exfalso; omega
                  · intro h26
                    exfalso; omega
            · intro h27
              exfalso; omega
      · intro h28
        exfalso; omega

set_option maxHeartbeats 4000000 in
theorem misPairX4_3 {xs : List Int32} {e : Nat} {ac : Int} {M0 M : nM} (hS : Sf 3 ac M0 M) (hdm : M0 112 0 = 3) (hp : ∀ a : Int, 0 ≤ a → a < M 112 4 → 1 ≤ M 116 a) : nW xs (e + 5) 179 0 [some (2, 112), some (0, 4), none, none, none, none] [] M (nPI fun z M1 => M = M1 ∧ (0 ≤ z ∧ z ≤ 1) ∧ (z = pg3 M 4)) := by
  have hd : (3 : Int) = 2 ∨ (3 : Int) = 3 := by decide
  have hac := hS.2.2.2.2
  refine n_aload_n c_179_0 rfl (n_iload_n c_179_1 rfl (n_v1I c_179_2 rfl sc_112.n rfl rfl rfl rfl (misPartX4_3  hS hdm) ?_))
  intro z1 M2 hP3
  obtain ⟨eM, f3⟩ := hP3
  subst eM
  obtain rfl : z1 = 1 := by omega
  refine n_if0_ne c_179_5 (by omega) ?_ ?_
  · intro h4
    refine n_lconst (n := 0) c_179_10 rfl (n_lstore_n (L2 := [some (2, 112), some (0, 4), some (1, 0), none, none, none]) c_179_11 rfl rfl (n_iconst c_179_12 (n_istore (L2 := [some (2, 112), some (0, 4), some (1, 0), none, some (0, 0), none]) c_179_13 rfl rfl (n_iload c_179_15 rfl (n_aload_n c_179_17 rfl (n_getV (bi := 0) c_179_18 sc_112.n rfl rfl rfl (t_dm hS hdm) ?_))))))
    intro z5 ez5 f6
    obtain rfl : z5 = 3 := by omega
    refine n_if2_ge c_179_21 (by omega) (by omega) ?_ ?_
    · intro h7
      exfalso; omega
    · intro h8
      refine n_iconst c_179_24 (n_istore (L2 := [some (2, 112), some (0, 4), some (1, 0), none, some (0, 0), some (0, 0)]) c_179_25 rfl rfl (n_iload c_179_27 rfl (n_aload_n c_179_29 rfl (n_getV (bi := 0) c_179_30 sc_112.n rfl rfl rfl (t_dm hS hdm) ?_))))
      intro z9 ez9 f10
      obtain rfl : z9 = 3 := by omega
      refine n_if2_ge c_179_33 (by omega) (by omega) ?_ ?_
      · intro h11
        exfalso; omega
      · intro h12
        refine n_lload_n c_179_36 rfl (n_iload_n c_179_37 rfl (n_iconst c_179_38 (n_iload c_179_39 rfl (n_imul c_179_41 rfl (n_i_ishr (z := 4) c_179_42 (by decide) ?_)))))
        refine n_iconst c_179_43 (n_i_iand (z := 0) c_179_44 (by decide) ?_)
        refine n_iload_n c_179_45 rfl (n_iconst c_179_46 (n_iload c_179_47 rfl (n_imul c_179_49 rfl (n_i_ishr (z := 4) c_179_50 (by decide) ?_))))
        refine n_iconst c_179_51 (n_i_iand (z := 0) c_179_52 (by decide) ?_)
        refine n_if2_ne c_179_53 (by omega) (by omega) ?_ ?_
        · intro h13
          exfalso; omega
        · intro h14
          refine n_lconst (n := 1) c_179_56 rfl (n_iload c_179_57 rfl (n_aload_n c_179_59 rfl (n_getV (bi := 0) c_179_60 sc_112.n rfl rfl rfl (t_dm hS hdm) ?_)))
          intro z15 ez15 f16
          obtain rfl : z15 = 3 := by omega
          refine n_imul c_179_63 rfl (n_iload c_179_64 rfl (n_iadd c_179_66 rfl (n_i_lshl (z := 1) c_179_67 (by decide) ?_)))
          refine n_goto c_179_68 (n_i_lor (z := 1) c_179_72 (by decide) ?_)
          refine n_lstore_n (L2 := [some (2, 112), some (0, 4), some (1, 1), none, some (0, 0), some (0, 0)]) c_179_73 rfl rfl (n_iinc (L2 := [some (2, 112), some (0, 4), some (1, 1), none, some (0, 0), some (0, (0 + 1))]) c_179_74 rfl rfl rfl (n_goto c_179_77 (n_iload c_179_27 rfl (n_aload_n c_179_29 rfl (n_getV (bi := 0) c_179_30 sc_112.n rfl rfl rfl (t_dm hS hdm) ?_)))))
          intro z17 ez17 f18
          obtain rfl : z17 = 3 := by omega
          refine n_if2_ge c_179_33 (by omega) (by omega) ?_ ?_
          · intro h19
            exfalso; omega
          · intro h20
            refine n_lload_n c_179_36 rfl (n_iload_n c_179_37 rfl (n_iconst c_179_38 (n_iload c_179_39 rfl (n_imul c_179_41 rfl (n_i_ishr (z := 4) c_179_42 (by decide) ?_)))))
            refine n_iconst c_179_43 (n_i_iand (z := 0) c_179_44 (by decide) ?_)
            refine n_iload_n c_179_45 rfl (n_iconst c_179_46 (n_iload c_179_47 rfl (n_imul c_179_49 rfl (n_i_ishr (z := 1) c_179_50 (by decide) ?_))))
            refine n_iconst c_179_51 (n_i_iand (z := 1) c_179_52 (by decide) ?_)
            refine n_if2_ne c_179_53 (by omega) (by omega) ?_ ?_
            · intro h21
              refine n_lconst (n := 0) c_179_71 rfl (n_i_lor (z := 1) c_179_72 (by decide) ?_)
              refine n_lstore_n (L2 := [some (2, 112), some (0, 4), some (1, 1), none, some (0, 0), some (0, (0 + 1))]) c_179_73 rfl rfl (n_iinc (L2 := [some (2, 112), some (0, 4), some (1, 1), none, some (0, 0), some (0, ((0 + 1) + 1))]) c_179_74 rfl rfl rfl (n_goto c_179_77 (n_iload c_179_27 rfl (n_aload_n c_179_29 rfl (n_getV (bi := 0) c_179_30 sc_112.n rfl rfl rfl (t_dm hS hdm) ?_)))))
              intro z22 ez22 f23
              obtain rfl : z22 = 3 := by omega
              refine n_if2_ge c_179_33 (by omega) (by omega) ?_ ?_
              · intro h24
                exfalso; omega
              · intro h25
                refine n_lload_n c_179_36 rfl (n_iload_n c_179_37 rfl (n_iconst c_179_38 (n_iload c_179_39 rfl (n_imul c_179_41 rfl (n_i_ishr (z := 4) c_179_42 (by decide) ?_)))))
                refine n_iconst c_179_43 (n_i_iand (z := 0) c_179_44 (by decide) ?_)
                refine n_iload_n c_179_45 rfl (n_iconst c_179_46 (n_iload c_179_47 rfl (n_imul c_179_49 rfl (n_i_ishr (z := 0) c_179_50 (by decide) ?_))))
                refine n_iconst c_179_51 (n_i_iand (z := 0) c_179_52 (by decide) ?_)
                refine n_if2_ne c_179_53 (by omega) (by omega) ?_ ?_
                · intro h26
                  exfalso; omega
                · intro h27
                  refine n_lconst (n := 1) c_179_56 rfl (n_iload c_179_57 rfl (n_aload_n c_179_59 rfl (n_getV (bi := 0) c_179_60 sc_112.n rfl rfl rfl (t_dm hS hdm) ?_)))
                  intro z28 ez28 f29
                  obtain rfl : z28 = 3 := by omega
                  refine n_imul c_179_63 rfl (n_iload c_179_64 rfl (n_iadd c_179_66 rfl (n_i_lshl (z := 4) c_179_67 (by decide) ?_)))
                  refine n_goto c_179_68 (n_i_lor (z := 5) c_179_72 (by decide) ?_)
                  refine n_lstore_n (L2 := [some (2, 112), some (0, 4), some (1, 5), none, some (0, 0), some (0, ((0 + 1) + 1))]) c_179_73 rfl rfl (n_iinc (L2 := [some (2, 112), some (0, 4), some (1, 5), none, some (0, 0), some (0, (((0 + 1) + 1) + 1))]) c_179_74 rfl rfl rfl (n_goto c_179_77 (n_iload c_179_27 rfl (n_aload_n c_179_29 rfl (n_getV (bi := 0) c_179_30 sc_112.n rfl rfl rfl (t_dm hS hdm) ?_)))))
                  intro z30 ez30 f31
                  obtain rfl : z30 = 3 := by omega
                  refine n_if2_ge c_179_33 (by omega) (by omega) ?_ ?_
                  · intro h32
                    refine n_iinc (L2 := [some (2, 112), some (0, 4), some (1, 5), none, some (0, (0 + 1)), some (0, (((0 + 1) + 1) + 1))]) c_179_80 rfl rfl rfl (n_goto c_179_83 (n_iload c_179_15 rfl (n_aload_n c_179_17 rfl (n_getV (bi := 0) c_179_18 sc_112.n rfl rfl rfl (t_dm hS hdm) ?_))))
                    intro z33 ez33 f34
                    obtain rfl : z33 = 3 := by omega
                    refine n_if2_ge c_179_21 (by omega) (by omega) ?_ ?_
                    · intro h35
                      exfalso; omega
                    · intro h36
                      refine n_iconst c_179_24 (n_istore (L2 := [some (2, 112), some (0, 4), some (1, 5), none, some (0, (0 + 1)), some (0, 0)]) c_179_25 rfl rfl (n_iload c_179_27 rfl (n_aload_n c_179_29 rfl (n_getV (bi := 0) c_179_30 sc_112.n rfl rfl rfl (t_dm hS hdm) ?_))))
                      intro z37 ez37 f38
                      obtain rfl : z37 = 3 := by omega
                      refine n_if2_ge c_179_33 (by omega) (by omega) ?_ ?_
                      · intro h39
                        exfalso; omega
                      · intro h40
                        refine n_lload_n c_179_36 rfl (n_iload_n c_179_37 rfl (n_iconst c_179_38 (n_iload c_179_39 rfl (n_imul c_179_41 rfl (n_i_ishr (z := 1) c_179_42 (by decide) ?_)))))
                        refine n_iconst c_179_43 (n_i_iand (z := 1) c_179_44 (by decide) ?_)
                        refine n_iload_n c_179_45 rfl (n_iconst c_179_46 (n_iload c_179_47 rfl (n_imul c_179_49 rfl (n_i_ishr (z := 4) c_179_50 (by decide) ?_))))
                        refine n_iconst c_179_51 (n_i_iand (z := 0) c_179_52 (by decide) ?_)
                        refine n_if2_ne c_179_53 (by omega) (by omega) ?_ ?_
                        · intro h41
                          refine n_lconst (n := 0) c_179_71 rfl (n_i_lor (z := 5) c_179_72 (by decide) ?_)
                          refine n_lstore_n (L2 := [some (2, 112), some (0, 4), some (1, 5), none, some (0, (0 + 1)), some (0, 0)]) c_179_73 rfl rfl (n_iinc (L2 := [some (2, 112), some (0, 4), some (1, 5), none, some (0, (0 + 1)), some (0, (0 + 1))]) c_179_74 rfl rfl rfl (n_goto c_179_77 (n_iload c_179_27 rfl (n_aload_n c_179_29 rfl (n_getV (bi := 0) c_179_30 sc_112.n rfl rfl rfl (t_dm hS hdm) ?_)))))
                          intro z42 ez42 f43
                          obtain rfl : z42 = 3 := by omega
                          refine n_if2_ge c_179_33 (by omega) (by omega) ?_ ?_
                          · intro h44
                            exfalso; omega
                          · intro h45
                            refine n_lload_n c_179_36 rfl (n_iload_n c_179_37 rfl (n_iconst c_179_38 (n_iload c_179_39 rfl (n_imul c_179_41 rfl (n_i_ishr (z := 1) c_179_42 (by decide) ?_)))))
                            refine n_iconst c_179_43 (n_i_iand (z := 1) c_179_44 (by decide) ?_)
                            refine n_iload_n c_179_45 rfl (n_iconst c_179_46 (n_iload c_179_47 rfl (n_imul c_179_49 rfl (n_i_ishr (z := 1) c_179_50 (by decide) ?_))))
                            refine n_iconst c_179_51 (n_i_iand (z := 1) c_179_52 (by decide) ?_)
                            refine n_if2_ne c_179_53 (by omega) (by omega) ?_ ?_
                            · intro h46
                              exfalso; omega
                            · intro h47
                              refine n_lconst (n := 1) c_179_56 rfl (n_iload c_179_57 rfl (n_aload_n c_179_59 rfl (n_getV (bi := 0) c_179_60 sc_112.n rfl rfl rfl (t_dm hS hdm) ?_)))
                              intro z48 ez48 f49
                              obtain rfl : z48 = 3 := by omega
                              refine n_imul c_179_63 rfl (n_iload c_179_64 rfl (n_iadd c_179_66 rfl (n_i_lshl (z := 16) c_179_67 (by decide) ?_)))
                              refine n_goto c_179_68 (n_i_lor (z := 21) c_179_72 (by decide) ?_)
                              refine n_lstore_n (L2 := [some (2, 112), some (0, 4), some (1, 21), none, some (0, (0 + 1)), some (0, (0 + 1))]) c_179_73 rfl rfl (n_iinc (L2 := [some (2, 112), some (0, 4), some (1, 21), none, some (0, (0 + 1)), some (0, ((0 + 1) + 1))]) c_179_74 rfl rfl rfl (n_goto c_179_77 (n_iload c_179_27 rfl (n_aload_n c_179_29 rfl (n_getV (bi := 0) c_179_30 sc_112.n rfl rfl rfl (t_dm hS hdm) ?_)))))
                              intro z50 ez50 f51
                              obtain rfl : z50 = 3 := by omega
                              refine n_if2_ge c_179_33 (by omega) (by omega) ?_ ?_
                              · intro h52
                                exfalso; omega
                              · intro h53
                                refine n_lload_n c_179_36 rfl (n_iload_n c_179_37 rfl (n_iconst c_179_38 (n_iload c_179_39 rfl (n_imul c_179_41 rfl (n_i_ishr (z := 1) c_179_42 (by decide) ?_)))))
                                refine n_iconst c_179_43 (n_i_iand (z := 1) c_179_44 (by decide) ?_)
                                refine n_iload_n c_179_45 rfl (n_iconst c_179_46 (n_iload c_179_47 rfl (n_imul c_179_49 rfl (n_i_ishr (z := 0) c_179_50 (by decide) ?_))))
                                refine n_iconst c_179_51 (n_i_iand (z := 0) c_179_52 (by decide) ?_)
                                refine n_if2_ne c_179_53 (by omega) (by omega) ?_ ?_
                                · intro h54
                                  refine n_lconst (n := 0) c_179_71 rfl (n_i_lor (z := 21) c_179_72 (by decide) ?_)
                                  refine n_lstore_n (L2 := [some (2, 112), some (0, 4), some (1, 21), none, some (0, (0 + 1)), some (0, ((0 + 1) + 1))]) c_179_73 rfl rfl (n_iinc (L2 := [some (2, 112), some (0, 4), some (1, 21), none, some (0, (0 + 1)), some (0, (((0 + 1) + 1) + 1))]) c_179_74 rfl rfl rfl (n_goto c_179_77 (n_iload c_179_27 rfl (n_aload_n c_179_29 rfl (n_getV (bi := 0) c_179_30 sc_112.n rfl rfl rfl (t_dm hS hdm) ?_)))))
                                  intro z55 ez55 f56
                                  obtain rfl : z55 = 3 := by omega
                                  refine n_if2_ge c_179_33 (by omega) (by omega) ?_ ?_
                                  · intro h57
                                    refine n_iinc (L2 := [some (2, 112), some (0, 4), some (1, 21), none, some (0, ((0 + 1) + 1)), some (0, (((0 + 1) + 1) + 1))]) c_179_80 rfl rfl rfl (n_goto c_179_83 (n_iload c_179_15 rfl (n_aload_n c_179_17 rfl (n_getV (bi := 0) c_179_18 sc_112.n rfl rfl rfl (t_dm hS hdm) ?_))))
                                    intro z58 ez58 f59
                                    obtain rfl : z58 = 3 := by omega
                                    refine n_if2_ge c_179_21 (by omega) (by omega) ?_ ?_
                                    · intro h60
                                      exfalso; omega
                                    · intro h61
                                      refine n_iconst c_179_24 (n_istore (L2 := [some (2, 112), some (0, 4), some (1, 21), none, some (0, ((0 + 1) + 1)), some (0, 0)]) c_179_25 rfl rfl (n_iload c_179_27 rfl (n_aload_n c_179_29 rfl (n_getV (bi := 0) c_179_30 sc_112.n rfl rfl rfl (t_dm hS hdm) ?_))))
                                      intro z62 ez62 f63
                                      obtain rfl : z62 = 3 := by omega
                                      refine n_if2_ge c_179_33 (by omega) (by omega) ?_ ?_
                                      · intro h64
                                        exfalso; omega
                                      · intro h65
                                        refine n_lload_n c_179_36 rfl (n_iload_n c_179_37 rfl (n_iconst c_179_38 (n_iload c_179_39 rfl (n_imul c_179_41 rfl (n_i_ishr (z := 0) c_179_42 (by decide) ?_)))))
                                        refine n_iconst c_179_43 (n_i_iand (z := 0) c_179_44 (by decide) ?_)
                                        refine n_iload_n c_179_45 rfl (n_iconst c_179_46 (n_iload c_179_47 rfl (n_imul c_179_49 rfl (n_i_ishr (z := 4) c_179_50 (by decide) ?_))))
                                        refine n_iconst c_179_51 (n_i_iand (z := 0) c_179_52 (by decide) ?_)
                                        refine n_if2_ne c_179_53 (by omega) (by omega) ?_ ?_
                                        · intro h66
                                          exfalso; omega
                                        · intro h67
                                          refine n_lconst (n := 1) c_179_56 rfl (n_iload c_179_57 rfl (n_aload_n c_179_59 rfl (n_getV (bi := 0) c_179_60 sc_112.n rfl rfl rfl (t_dm hS hdm) ?_)))
                                          intro z68 ez68 f69
                                          obtain rfl : z68 = 3 := by omega
                                          refine n_imul c_179_63 rfl (n_iload c_179_64 rfl (n_iadd c_179_66 rfl (n_i_lshl (z := 64) c_179_67 (by decide) ?_)))
                                          refine n_goto c_179_68 (n_i_lor (z := 85) c_179_72 (by decide) ?_)
                                          refine n_lstore_n (L2 := [some (2, 112), some (0, 4), some (1, 85), none, some (0, ((0 + 1) + 1)), some (0, 0)]) c_179_73 rfl rfl (n_iinc (L2 := [some (2, 112), some (0, 4), some (1, 85), none, some (0, ((0 + 1) + 1)), some (0, (0 + 1))]) c_179_74 rfl rfl rfl (n_goto c_179_77 (n_iload c_179_27 rfl (n_aload_n c_179_29 rfl (n_getV (bi := 0) c_179_30 sc_112.n rfl rfl rfl (t_dm hS hdm) ?_)))))
                                          intro z70 ez70 f71
                                          obtain rfl : z70 = 3 := by omega
                                          refine n_if2_ge c_179_33 (by omega) (by omega) ?_ ?_
                                          · intro h72
                                            exfalso; omega
                                          · intro h73
                                            refine n_lload_n c_179_36 rfl (n_iload_n c_179_37 rfl (n_iconst c_179_38 (n_iload c_179_39 rfl (n_imul c_179_41 rfl (n_i_ishr (z := 0) c_179_42 (by decide) ?_)))))
                                            refine n_iconst c_179_43 (n_i_iand (z := 0) c_179_44 (by decide) ?_)
                                            refine n_iload_n c_179_45 rfl (n_iconst c_179_46 (n_iload c_179_47 rfl (n_imul c_179_49 rfl (n_i_ishr (z := 1) c_179_50 (by decide) ?_))))
                                            refine n_iconst c_179_51 (n_i_iand (z := 1) c_179_52 (by decide) ?_)
                                            refine n_if2_ne c_179_53 (by omega) (by omega) ?_ ?_
                                            · intro h74
                                              refine n_lconst (n := 0) c_179_71 rfl (n_i_lor (z := 85) c_179_72 (by decide) ?_)
                                              refine n_lstore_n (L2 := [some (2, 112), some (0, 4), some (1, 85), none, some (0, ((0 + 1) + 1)), some (0, (0 + 1))]) c_179_73 rfl rfl (n_iinc (L2 := [some (2, 112), some (0, 4), some (1, 85), none, some (0, ((0 + 1) + 1)), some (0, ((0 + 1) + 1))]) c_179_74 rfl rfl rfl (n_goto c_179_77 (n_iload c_179_27 rfl (n_aload_n c_179_29 rfl (n_getV (bi := 0) c_179_30 sc_112.n rfl rfl rfl (t_dm hS hdm) ?_)))))
                                              intro z75 ez75 f76
                                              obtain rfl : z75 = 3 := by omega
                                              refine n_if2_ge c_179_33 (by omega) (by omega) ?_ ?_
                                              · intro h77
                                                exfalso; omega
                                              · intro h78
                                                refine n_lload_n c_179_36 rfl (n_iload_n c_179_37 rfl (n_iconst c_179_38 (n_iload c_179_39 rfl (n_imul c_179_41 rfl (n_i_ishr (z := 0) c_179_42 (by decide) ?_)))))
                                                refine n_iconst c_179_43 (n_i_iand (z := 0) c_179_44 (by decide) ?_)
                                                refine n_iload_n c_179_45 rfl (n_iconst c_179_46 (n_iload c_179_47 rfl (n_imul c_179_49 rfl (n_i_ishr (z := 0) c_179_50 (by decide) ?_))))
                                                refine n_iconst c_179_51 (n_i_iand (z := 0) c_179_52 (by decide) ?_)
                                                refine n_if2_ne c_179_53 (by omega) (by omega) ?_ ?_
                                                · intro h79
                                                  exfalso; omega
                                                · intro h80
                                                  refine n_lconst (n := 1) c_179_56 rfl (n_iload c_179_57 rfl (n_aload_n c_179_59 rfl (n_getV (bi := 0) c_179_60 sc_112.n rfl rfl rfl (t_dm hS hdm) ?_)))
                                                  intro z81 ez81 f82
                                                  obtain rfl : z81 = 3 := by omega
                                                  refine n_imul c_179_63 rfl (n_iload c_179_64 rfl (n_iadd c_179_66 rfl (n_i_lshl (z := 256) c_179_67 (by decide) ?_)))
                                                  refine n_goto c_179_68 (n_i_lor (z := 341) c_179_72 (by decide) ?_)
                                                  refine n_lstore_n (L2 := [some (2, 112), some (0, 4), some (1, 341), none, some (0, ((0 + 1) + 1)), some (0, ((0 + 1) + 1))]) c_179_73 rfl rfl (n_iinc (L2 := [some (2, 112), some (0, 4), some (1, 341), none, some (0, ((0 + 1) + 1)), some (0, (((0 + 1) + 1) + 1))]) c_179_74 rfl rfl rfl (n_goto c_179_77 (n_iload c_179_27 rfl (n_aload_n c_179_29 rfl (n_getV (bi := 0) c_179_30 sc_112.n rfl rfl rfl (t_dm hS hdm) ?_)))))
                                                  intro z83 ez83 f84
                                                  obtain rfl : z83 = 3 := by omega
                                                  refine n_if2_ge c_179_33 (by omega) (by omega) ?_ ?_
                                                  · intro h85
                                                    refine n_iinc (L2 := [some (2, 112), some (0, 4), some (1, 341), none, some (0, (((0 + 1) + 1) + 1)), some (0, (((0 + 1) + 1) + 1))]) c_179_80 rfl rfl rfl (n_goto c_179_83 (n_iload c_179_15 rfl (n_aload_n c_179_17 rfl (n_getV (bi := 0) c_179_18 sc_112.n rfl rfl rfl (t_dm hS hdm) ?_))))
                                                    intro z86 ez86 f87
                                                    obtain rfl : z86 = 3 := by omega
                                                    refine n_if2_ge c_179_21 (by omega) (by omega) ?_ ?_
                                                    · intro h88
                                                      refine n_aload_n c_179_86 rfl (n_iconst c_179_87 (n_lload_n c_179_88 rfl (n_v2I c_179_89 rfl sc_112.n rfl rfl rfl rfl (mallKeepX_3 (k := 2) (s := 341) hS hdm (by omega) (by omega) (by exact hp)) ?_)))
                                                      intro z89 M90 hP91
                                                      obtain ⟨eM, f91, f91p0⟩ := hP91
                                                      subst eM
                                                      exact n_rZ c_179_92 rfl (by omega) ⟨rfl, by omega, by exact f91p0⟩
                                                    · intro h92
                                                      exfalso; omega
                                                  · intro h93
                                                    exfalso; omega
                                            · intro h94
                                              exfalso; omega
                                  · intro h95
                                    exfalso; omega
                                · intro h96
                                  exfalso; omega
                        · intro h97
                          exfalso; omega
                  · intro h98
                    exfalso; omega
            · intro h99
              exfalso; omega
  · intro h100
    exfalso; omega

set_option maxHeartbeats 4000000 in
theorem misPartX5_3 {xs : List Int32} {e : Nat} {ac : Int} {M0 M : nM} (hS : Sf 3 ac M0 M) (hdm : M0 112 0 = 3) : nW xs e 178 0 [some (2, 112), some (0, 5), none, none] [] M (nPI fun z M1 => M = M1 ∧ (0 ≤ z ∧ z ≤ 0)) := by
  have hd : (3 : Int) = 2 ∨ (3 : Int) = 3 := by decide
  have hac := hS.2.2.2.2
  refine n_iconst c_178_0 (n_istore_n (L2 := [some (2, 112), some (0, 5), some (0, 0), none]) c_178_1 rfl rfl (n_iload_n c_178_2 rfl (n_aload_n c_178_3 rfl (n_getV (bi := 0) c_178_4 sc_112.n rfl rfl rfl (t_dm hS hdm) ?_))))
  intro z1 ez1 f2
  obtain rfl : z1 = 3 := by omega
  refine n_if2_ge c_178_7 (by omega) (by omega) ?_ ?_
  · intro h3
    exfalso; omega
  · intro h4
    refine n_iload_n c_178_10 rfl (n_iconst c_178_11 (n_iload_n c_178_12 rfl (n_imul c_178_13 rfl (n_i_ishr (z := 5) c_178_14 (by decide) ?_))))
    refine n_iconst c_178_15 (n_i_iand (z := 1) c_178_16 (by decide) ?_)
    refine n_istore_n (L2 := [some (2, 112), some (0, 5), some (0, 0), some (0, 1)]) c_178_17 rfl rfl (n_iload_n c_178_18 rfl (n_iload_n c_178_19 rfl ?_))
    refine n_if2_gt c_178_20 (by omega) (by omega) ?_ ?_
    · intro h5
      refine n_iconst c_178_34 ?_
      exact n_rZ c_178_35 rfl (by omega) ⟨rfl, by omega⟩
    · intro h6
      exfalso; omega

set_option maxHeartbeats 4000000 in
theorem misPairX5_3 {xs : List Int32} {e : Nat} {ac : Int} {M0 M : nM} (hS : Sf 3 ac M0 M) (hdm : M0 112 0 = 3) (hp : ∀ a : Int, 0 ≤ a → a < M 112 4 → 1 ≤ M 116 a) : nW xs (e + 5) 179 0 [some (2, 112), some (0, 5), none, none, none, none] [] M (nPI fun z M1 => M = M1 ∧ (0 ≤ z ∧ z ≤ 1) ∧ (z = pg3 M 5)) := by
  have hd : (3 : Int) = 2 ∨ (3 : Int) = 3 := by decide
  have hac := hS.2.2.2.2
  refine n_aload_n c_179_0 rfl (n_iload_n c_179_1 rfl (n_v1I c_179_2 rfl sc_112.n rfl rfl rfl rfl (misPartX5_3  hS hdm) ?_))
  intro z1 M2 hP3
  obtain ⟨eM, f3⟩ := hP3
  subst eM
  obtain rfl : z1 = 0 := by omega
  refine n_if0_ne c_179_5 (by omega) ?_ ?_
  · intro h4
    exfalso; omega
  · intro h5
    refine n_iconst c_179_8 ?_
    exact n_rZ c_179_9 rfl (by omega) ⟨rfl, by omega, by rfl⟩

set_option maxHeartbeats 4000000 in
theorem misPartX6_3 {xs : List Int32} {e : Nat} {ac : Int} {M0 M : nM} (hS : Sf 3 ac M0 M) (hdm : M0 112 0 = 3) : nW xs e 178 0 [some (2, 112), some (0, 6), none, none] [] M (nPI fun z M1 => M = M1 ∧ (0 ≤ z ∧ z ≤ 0)) := by
  have hd : (3 : Int) = 2 ∨ (3 : Int) = 3 := by decide
  have hac := hS.2.2.2.2
  refine n_iconst c_178_0 (n_istore_n (L2 := [some (2, 112), some (0, 6), some (0, 0), none]) c_178_1 rfl rfl (n_iload_n c_178_2 rfl (n_aload_n c_178_3 rfl (n_getV (bi := 0) c_178_4 sc_112.n rfl rfl rfl (t_dm hS hdm) ?_))))
  intro z1 ez1 f2
  obtain rfl : z1 = 3 := by omega
  refine n_if2_ge c_178_7 (by omega) (by omega) ?_ ?_
  · intro h3
    exfalso; omega
  · intro h4
    refine n_iload_n c_178_10 rfl (n_iconst c_178_11 (n_iload_n c_178_12 rfl (n_imul c_178_13 rfl (n_i_ishr (z := 6) c_178_14 (by decide) ?_))))
    refine n_iconst c_178_15 (n_i_iand (z := 2) c_178_16 (by decide) ?_)
    refine n_istore_n (L2 := [some (2, 112), some (0, 6), some (0, 0), some (0, 2)]) c_178_17 rfl rfl (n_iload_n c_178_18 rfl (n_iload_n c_178_19 rfl ?_))
    refine n_if2_gt c_178_20 (by omega) (by omega) ?_ ?_
    · intro h5
      refine n_iconst c_178_34 ?_
      exact n_rZ c_178_35 rfl (by omega) ⟨rfl, by omega⟩
    · intro h6
      exfalso; omega

set_option maxHeartbeats 4000000 in
theorem misPairX6_3 {xs : List Int32} {e : Nat} {ac : Int} {M0 M : nM} (hS : Sf 3 ac M0 M) (hdm : M0 112 0 = 3) (hp : ∀ a : Int, 0 ≤ a → a < M 112 4 → 1 ≤ M 116 a) : nW xs (e + 5) 179 0 [some (2, 112), some (0, 6), none, none, none, none] [] M (nPI fun z M1 => M = M1 ∧ (0 ≤ z ∧ z ≤ 1) ∧ (z = pg3 M 6)) := by
  have hd : (3 : Int) = 2 ∨ (3 : Int) = 3 := by decide
  have hac := hS.2.2.2.2
  refine n_aload_n c_179_0 rfl (n_iload_n c_179_1 rfl (n_v1I c_179_2 rfl sc_112.n rfl rfl rfl rfl (misPartX6_3  hS hdm) ?_))
  intro z1 M2 hP3
  obtain ⟨eM, f3⟩ := hP3
  subst eM
  obtain rfl : z1 = 0 := by omega
  refine n_if0_ne c_179_5 (by omega) ?_ ?_
  · intro h4
    exfalso; omega
  · intro h5
    refine n_iconst c_179_8 ?_
    exact n_rZ c_179_9 rfl (by omega) ⟨rfl, by omega, by rfl⟩

set_option maxHeartbeats 4000000 in
theorem misPartX7_3 {xs : List Int32} {e : Nat} {ac : Int} {M0 M : nM} (hS : Sf 3 ac M0 M) (hdm : M0 112 0 = 3) : nW xs e 178 0 [some (2, 112), some (0, 7), none, none] [] M (nPI fun z M1 => M = M1 ∧ (0 ≤ z ∧ z ≤ 0)) := by
  have hd : (3 : Int) = 2 ∨ (3 : Int) = 3 := by decide
  have hac := hS.2.2.2.2
  refine n_iconst c_178_0 (n_istore_n (L2 := [some (2, 112), some (0, 7), some (0, 0), none]) c_178_1 rfl rfl (n_iload_n c_178_2 rfl (n_aload_n c_178_3 rfl (n_getV (bi := 0) c_178_4 sc_112.n rfl rfl rfl (t_dm hS hdm) ?_))))
  intro z1 ez1 f2
  obtain rfl : z1 = 3 := by omega
  refine n_if2_ge c_178_7 (by omega) (by omega) ?_ ?_
  · intro h3
    exfalso; omega
  · intro h4
    refine n_iload_n c_178_10 rfl (n_iconst c_178_11 (n_iload_n c_178_12 rfl (n_imul c_178_13 rfl (n_i_ishr (z := 7) c_178_14 (by decide) ?_))))
    refine n_iconst c_178_15 (n_i_iand (z := 3) c_178_16 (by decide) ?_)
    refine n_istore_n (L2 := [some (2, 112), some (0, 7), some (0, 0), some (0, 3)]) c_178_17 rfl rfl (n_iload_n c_178_18 rfl (n_iload_n c_178_19 rfl ?_))
    refine n_if2_gt c_178_20 (by omega) (by omega) ?_ ?_
    · intro h5
      refine n_iconst c_178_34 ?_
      exact n_rZ c_178_35 rfl (by omega) ⟨rfl, by omega⟩
    · intro h6
      exfalso; omega

set_option maxHeartbeats 4000000 in
theorem misPairX7_3 {xs : List Int32} {e : Nat} {ac : Int} {M0 M : nM} (hS : Sf 3 ac M0 M) (hdm : M0 112 0 = 3) (hp : ∀ a : Int, 0 ≤ a → a < M 112 4 → 1 ≤ M 116 a) : nW xs (e + 5) 179 0 [some (2, 112), some (0, 7), none, none, none, none] [] M (nPI fun z M1 => M = M1 ∧ (0 ≤ z ∧ z ≤ 1) ∧ (z = pg3 M 7)) := by
  have hd : (3 : Int) = 2 ∨ (3 : Int) = 3 := by decide
  have hac := hS.2.2.2.2
  refine n_aload_n c_179_0 rfl (n_iload_n c_179_1 rfl (n_v1I c_179_2 rfl sc_112.n rfl rfl rfl rfl (misPartX7_3  hS hdm) ?_))
  intro z1 M2 hP3
  obtain ⟨eM, f3⟩ := hP3
  subst eM
  obtain rfl : z1 = 0 := by omega
  refine n_if0_ne c_179_5 (by omega) ?_ ?_
  · intro h4
    exfalso; omega
  · intro h5
    refine n_iconst c_179_8 ?_
    exact n_rZ c_179_9 rfl (by omega) ⟨rfl, by omega, by rfl⟩

set_option maxHeartbeats 4000000 in
theorem misPartX8_3 {xs : List Int32} {e : Nat} {ac : Int} {M0 M : nM} (hS : Sf 3 ac M0 M) (hdm : M0 112 0 = 3) : nW xs e 178 0 [some (2, 112), some (0, 8), none, none] [] M (nPI fun z M1 => M = M1 ∧ (0 ≤ z ∧ z ≤ 0)) := by
  have hd : (3 : Int) = 2 ∨ (3 : Int) = 3 := by decide
  have hac := hS.2.2.2.2
  refine n_iconst c_178_0 (n_istore_n (L2 := [some (2, 112), some (0, 8), some (0, 0), none]) c_178_1 rfl rfl (n_iload_n c_178_2 rfl (n_aload_n c_178_3 rfl (n_getV (bi := 0) c_178_4 sc_112.n rfl rfl rfl (t_dm hS hdm) ?_))))
  intro z1 ez1 f2
  obtain rfl : z1 = 3 := by omega
  refine n_if2_ge c_178_7 (by omega) (by omega) ?_ ?_
  · intro h3
    exfalso; omega
  · intro h4
    refine n_iload_n c_178_10 rfl (n_iconst c_178_11 (n_iload_n c_178_12 rfl (n_imul c_178_13 rfl (n_i_ishr (z := 8) c_178_14 (by decide) ?_))))
    refine n_iconst c_178_15 (n_i_iand (z := 0) c_178_16 (by decide) ?_)
    refine n_istore_n (L2 := [some (2, 112), some (0, 8), some (0, 0), some (0, 0)]) c_178_17 rfl rfl (n_iload_n c_178_18 rfl (n_iload_n c_178_19 rfl ?_))
    refine n_if2_gt c_178_20 (by omega) (by omega) ?_ ?_
    · intro h5
      exfalso; omega
    · intro h6
      refine n_iload_n c_178_23 rfl (n_iconst c_178_24 (n_iload_n c_178_25 rfl (n_imul c_178_26 rfl (n_i_ishr (z := 8) c_178_27 (by decide) ?_))))
      refine n_iconst c_178_28 (n_i_iand (z := 0) c_178_29 (by decide) ?_)
      refine n_iload_n c_178_30 rfl ?_
      refine n_if2_eq c_178_31 (by omega) (by omega) ?_ ?_
      · intro h7
        refine n_iinc (L2 := [some (2, 112), some (0, 8), some (0, (0 + 1)), some (0, 0)]) c_178_36 rfl rfl rfl (n_goto c_178_39 (n_iload_n c_178_2 rfl (n_aload_n c_178_3 rfl (n_getV (bi := 0) c_178_4 sc_112.n rfl rfl rfl (t_dm hS hdm) ?_))))
        intro z8 ez8 f9
        obtain rfl : z8 = 3 := by omega
        refine n_if2_ge c_178_7 (by omega) (by omega) ?_ ?_
        · intro h10
          exfalso; omega
        · intro h11
          refine n_iload_n c_178_10 rfl (n_iconst c_178_11 (n_iload_n c_178_12 rfl (n_imul c_178_13 rfl (n_i_ishr (z := 2) c_178_14 (by decide) ?_))))
          refine n_iconst c_178_15 (n_i_iand (z := 2) c_178_16 (by decide) ?_)
          refine n_istore_n (L2 := [some (2, 112), some (0, 8), some (0, (0 + 1)), some (0, 2)]) c_178_17 rfl rfl (n_iload_n c_178_18 rfl (n_iload_n c_178_19 rfl ?_))
          refine n_if2_gt c_178_20 (by omega) (by omega) ?_ ?_
          · intro h12
            refine n_iconst c_178_34 ?_
            exact n_rZ c_178_35 rfl (by omega) ⟨rfl, by omega⟩
          · intro h13
            exfalso; omega
      · intro h14
        exfalso; omega

set_option maxHeartbeats 4000000 in
theorem misPairX8_3 {xs : List Int32} {e : Nat} {ac : Int} {M0 M : nM} (hS : Sf 3 ac M0 M) (hdm : M0 112 0 = 3) (hp : ∀ a : Int, 0 ≤ a → a < M 112 4 → 1 ≤ M 116 a) : nW xs (e + 5) 179 0 [some (2, 112), some (0, 8), none, none, none, none] [] M (nPI fun z M1 => M = M1 ∧ (0 ≤ z ∧ z ≤ 1) ∧ (z = pg3 M 8)) := by
  have hd : (3 : Int) = 2 ∨ (3 : Int) = 3 := by decide
  have hac := hS.2.2.2.2
  refine n_aload_n c_179_0 rfl (n_iload_n c_179_1 rfl (n_v1I c_179_2 rfl sc_112.n rfl rfl rfl rfl (misPartX8_3  hS hdm) ?_))
  intro z1 M2 hP3
  obtain ⟨eM, f3⟩ := hP3
  subst eM
  obtain rfl : z1 = 0 := by omega
  refine n_if0_ne c_179_5 (by omega) ?_ ?_
  · intro h4
    exfalso; omega
  · intro h5
    refine n_iconst c_179_8 ?_
    exact n_rZ c_179_9 rfl (by omega) ⟨rfl, by omega, by rfl⟩

set_option maxHeartbeats 4000000 in
theorem misPartX9_3 {xs : List Int32} {e : Nat} {ac : Int} {M0 M : nM} (hS : Sf 3 ac M0 M) (hdm : M0 112 0 = 3) : nW xs e 178 0 [some (2, 112), some (0, 9), none, none] [] M (nPI fun z M1 => M = M1 ∧ (0 ≤ z ∧ z ≤ 0)) := by
  have hd : (3 : Int) = 2 ∨ (3 : Int) = 3 := by decide
  have hac := hS.2.2.2.2
  refine n_iconst c_178_0 (n_istore_n (L2 := [some (2, 112), some (0, 9), some (0, 0), none]) c_178_1 rfl rfl (n_iload_n c_178_2 rfl (n_aload_n c_178_3 rfl (n_getV (bi := 0) c_178_4 sc_112.n rfl rfl rfl (t_dm hS hdm) ?_))))
  intro z1 ez1 f2
  obtain rfl : z1 = 3 := by omega
  refine n_if2_ge c_178_7 (by omega) (by omega) ?_ ?_
  · intro h3
    exfalso; omega
  · intro h4
    refine n_iload_n c_178_10 rfl (n_iconst c_178_11 (n_iload_n c_178_12 rfl (n_imul c_178_13 rfl (n_i_ishr (z := 9) c_178_14 (by decide) ?_))))
    refine n_iconst c_178_15 (n_i_iand (z := 1) c_178_16 (by decide) ?_)
    refine n_istore_n (L2 := [some (2, 112), some (0, 9), some (0, 0), some (0, 1)]) c_178_17 rfl rfl (n_iload_n c_178_18 rfl (n_iload_n c_178_19 rfl ?_))
    refine n_if2_gt c_178_20 (by omega) (by omega) ?_ ?_
    · intro h5
      refine n_iconst c_178_34 ?_
      exact n_rZ c_178_35 rfl (by omega) ⟨rfl, by omega⟩
    · intro h6
      exfalso; omega

set_option maxHeartbeats 4000000 in
theorem misPairX9_3 {xs : List Int32} {e : Nat} {ac : Int} {M0 M : nM} (hS : Sf 3 ac M0 M) (hdm : M0 112 0 = 3) (hp : ∀ a : Int, 0 ≤ a → a < M 112 4 → 1 ≤ M 116 a) : nW xs (e + 5) 179 0 [some (2, 112), some (0, 9), none, none, none, none] [] M (nPI fun z M1 => M = M1 ∧ (0 ≤ z ∧ z ≤ 1) ∧ (z = pg3 M 9)) := by
  have hd : (3 : Int) = 2 ∨ (3 : Int) = 3 := by decide
  have hac := hS.2.2.2.2
  refine n_aload_n c_179_0 rfl (n_iload_n c_179_1 rfl (n_v1I c_179_2 rfl sc_112.n rfl rfl rfl rfl (misPartX9_3  hS hdm) ?_))
  intro z1 M2 hP3
  obtain ⟨eM, f3⟩ := hP3
  subst eM
  obtain rfl : z1 = 0 := by omega
  refine n_if0_ne c_179_5 (by omega) ?_ ?_
  · intro h4
    exfalso; omega
  · intro h5
    refine n_iconst c_179_8 ?_
    exact n_rZ c_179_9 rfl (by omega) ⟨rfl, by omega, by rfl⟩

set_option maxHeartbeats 4000000 in
theorem misPartX10_3 {xs : List Int32} {e : Nat} {ac : Int} {M0 M : nM} (hS : Sf 3 ac M0 M) (hdm : M0 112 0 = 3) : nW xs e 178 0 [some (2, 112), some (0, 10), none, none] [] M (nPI fun z M1 => M = M1 ∧ (0 ≤ z ∧ z ≤ 0)) := by
  have hd : (3 : Int) = 2 ∨ (3 : Int) = 3 := by decide
  have hac := hS.2.2.2.2
  refine n_iconst c_178_0 (n_istore_n (L2 := [some (2, 112), some (0, 10), some (0, 0), none]) c_178_1 rfl rfl (n_iload_n c_178_2 rfl (n_aload_n c_178_3 rfl (n_getV (bi := 0) c_178_4 sc_112.n rfl rfl rfl (t_dm hS hdm) ?_))))
  intro z1 ez1 f2
  obtain rfl : z1 = 3 := by omega
  refine n_if2_ge c_178_7 (by omega) (by omega) ?_ ?_
  · intro h3
    exfalso; omega
  · intro h4
    refine n_iload_n c_178_10 rfl (n_iconst c_178_11 (n_iload_n c_178_12 rfl (n_imul c_178_13 rfl (n_i_ishr (z := 10) c_178_14 (by decide) ?_))))
    refine n_iconst c_178_15 (n_i_iand (z := 2) c_178_16 (by decide) ?_)
    refine n_istore_n (L2 := [some (2, 112), some (0, 10), some (0, 0), some (0, 2)]) c_178_17 rfl rfl (n_iload_n c_178_18 rfl (n_iload_n c_178_19 rfl ?_))
    refine n_if2_gt c_178_20 (by omega) (by omega) ?_ ?_
    · intro h5
      refine n_iconst c_178_34 ?_
      exact n_rZ c_178_35 rfl (by omega) ⟨rfl, by omega⟩
    · intro h6
      exfalso; omega
