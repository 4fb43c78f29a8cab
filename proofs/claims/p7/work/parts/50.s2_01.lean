/-! The methods, by program. -/
set_option maxHeartbeats 4000000 in
theorem threeOf6_2 {xs : List Int32} {e : Nat} {ac : Int} {M0 M : nM} {c : Int} (hS : Sf 2 ac M0 M) (hc : 0 ≤ c ∧ c ≤ 19682) : nW xs e 18 0 [some (2, 4), some (0, c), some (0, 6), none, none, none, none] [] M (nPI fun z M1 => M = M1 ∧ (0 ≤ z ∧ z ≤ 7)) := by
  have hd : (2 : Int) = 2 ∨ (2 : Int) = 3 := by decide
  have hac := hS.2.2.2.2
  refine n_iload_n c_18_0 rfl ?_
  refine n_istore_n (L2 := [some (2, 4), some (0, c), some (0, 6), some (0, c), none, none, none]) c_18_1 rfl rfl ?_
  refine n_iconst c_18_2 ?_
  refine n_istore (L2 := [some (2, 4), some (0, c), some (0, 6), some (0, c), some (0, 0), none, none]) c_18_3 rfl rfl ?_
  refine n_iconst c_18_5 ?_
  refine n_istore (L2 := [some (2, 4), some (0, c), some (0, 6), some (0, c), some (0, 0), some (0, 0), none]) c_18_6 rfl rfl ?_
  refine n_iload c_18_8 rfl ?_
  refine n_iload_n c_18_10 rfl ?_
  refine n_iconst c_18_11 ?_
  refine n_iadd c_18_12 rfl ?_
  refine n_if2_ge c_18_13 (by omega) (by omega) ?_ ?_
  · intro h1
    exfalso; omega
  · intro h2
    refine n_aload_n c_18_16 rfl ?_
    refine n_getV (bi := 0) c_18_17 sc_4.n rfl rfl rfl (t_4_0 hS) ?_
    intro z3 ez3 f4
    obtain rfl : z3 = 2 := by omega
    refine n_iconst c_18_20 ?_
    refine n_if2_ne c_18_21 (by omega) (by omega) ?_ ?_
    · intro h5
      exfalso; omega
    · intro h6
      refine n_iload_n c_18_24 rfl ?_
      refine n_iconst c_18_25 ?_
      refine n_iremV c_18_26 (by omega) (by omega) ?_
      intro z7 _ f8
      refine n_goto c_18_27 ?_
      refine n_istore (L2 := [some (2, 4), some (0, c), some (0, 6), some (0, c), some (0, 0), some (0, 0), some (0, z7)]) c_18_33 rfl rfl ?_
      refine n_aload_n c_18_35 rfl ?_
      refine n_getV (bi := 0) c_18_36 sc_4.n rfl rfl rfl (t_4_0 hS) ?_
      intro z9 ez9 f10
      obtain rfl : z9 = 2 := by omega
      refine n_iconst c_18_39 ?_
      refine n_if2_ne c_18_40 (by omega) (by omega) ?_ ?_
      · intro h11
        exfalso; omega
      · intro h12
        refine n_iload_n c_18_43 rfl ?_
        refine n_iconst c_18_44 ?_
        refine n_idivV c_18_45 (by omega) (by omega) ?_
        intro z13 _ f14
        refine n_goto c_18_46 ?_
        refine n_istore_n (L2 := [some (2, 4), some (0, c), some (0, 6), some (0, z13), some (0, 0), some (0, 0), some (0, z7)]) c_18_52 rfl rfl ?_
        refine n_iload c_18_53 rfl ?_
        refine n_iload_n c_18_55 rfl ?_
        refine n_if2_lt c_18_56 (by omega) (by omega) ?_ ?_
        · intro h15
          refine n_iinc (L2 := [some (2, 4), some (0, c), some (0, 6), some (0, z13), some (0, 0), some (0, (0 + 1)), some (0, z7)]) c_18_71 rfl rfl rfl ?_
          refine n_goto c_18_74 ?_
          refine n_iload c_18_8 rfl ?_
          refine n_iload_n c_18_10 rfl ?_
          refine n_iconst c_18_11 ?_
          refine n_iadd c_18_12 rfl ?_
          refine n_if2_ge c_18_13 (by omega) (by omega) ?_ ?_
          · intro h16
            exfalso; omega
          · intro h17
            refine n_aload_n c_18_16 rfl ?_
            refine n_getV (bi := 0) c_18_17 sc_4.n rfl rfl rfl (t_4_0 hS) ?_
            intro z18 ez18 f19
            obtain rfl : z18 = 2 := by omega
            refine n_iconst c_18_20 ?_
            refine n_if2_ne c_18_21 (by omega) (by omega) ?_ ?_
            · intro h20
              exfalso; omega
            · intro h21
              refine n_iload_n c_18_24 rfl ?_
              refine n_iconst c_18_25 ?_
              refine n_iremV c_18_26 (by omega) (by omega) ?_
              intro z22 _ f23
              refine n_goto c_18_27 ?_
              refine n_istore (L2 := [some (2, 4), some (0, c), some (0, 6), some (0, z13), some (0, 0), some (0, (0 + 1)), some (0, z22)]) c_18_33 rfl rfl ?_
              refine n_aload_n c_18_35 rfl ?_
              refine n_getV (bi := 0) c_18_36 sc_4.n rfl rfl rfl (t_4_0 hS) ?_
              intro z24 ez24 f25
              obtain rfl : z24 = 2 := by omega
              refine n_iconst c_18_39 ?_
              refine n_if2_ne c_18_40 (by omega) (by omega) ?_ ?_
              · intro h26
                exfalso; omega
              · intro h27
                refine n_iload_n c_18_43 rfl ?_
                refine n_iconst c_18_44 ?_
                refine n_idivV c_18_45 (by omega) (by omega) ?_
                intro z28 _ f29
                refine n_goto c_18_46 ?_
                refine n_istore_n (L2 := [some (2, 4), some (0, c), some (0, 6), some (0, z28), some (0, 0), some (0, (0 + 1)), some (0, z22)]) c_18_52 rfl rfl ?_
                refine n_iload c_18_53 rfl ?_
                refine n_iload_n c_18_55 rfl ?_
                refine n_if2_lt c_18_56 (by omega) (by omega) ?_ ?_
                · intro h30
                  refine n_iinc (L2 := [some (2, 4), some (0, c), some (0, 6), some (0, z28), some (0, 0), some (0, ((0 + 1) + 1)), some (0, z22)]) c_18_71 rfl rfl rfl ?_
                  refine n_goto c_18_74 ?_
                  refine n_iload c_18_8 rfl ?_
                  refine n_iload_n c_18_10 rfl ?_
                  refine n_iconst c_18_11 ?_
                  refine n_iadd c_18_12 rfl ?_
                  refine n_if2_ge c_18_13 (by omega) (by omega) ?_ ?_
                  · intro h31
                    exfalso; omega
                  · intro h32
                    refine n_aload_n c_18_16 rfl ?_
                    refine n_getV (bi := 0) c_18_17 sc_4.n rfl rfl rfl (t_4_0 hS) ?_
                    intro z33 ez33 f34
                    obtain rfl : z33 = 2 := by omega
                    refine n_iconst c_18_20 ?_
                    refine n_if2_ne c_18_21 (by omega) (by omega) ?_ ?_
                    · intro h35
                      exfalso; omega
                    · intro h36
                      refine n_iload_n c_18_24 rfl ?_
                      refine n_iconst c_18_25 ?_
                      refine n_iremV c_18_26 (by omega) (by omega) ?_
                      intro z37 _ f38
                      refine n_goto c_18_27 ?_
                      refine n_istore (L2 := [some (2, 4), some (0, c), some (0, 6), some (0, z28), some (0, 0), some (0, ((0 + 1) + 1)), some (0, z37)]) c_18_33 rfl rfl ?_
                      refine n_aload_n c_18_35 rfl ?_
                      refine n_getV (bi := 0) c_18_36 sc_4.n rfl rfl rfl (t_4_0 hS) ?_
                      intro z39 ez39 f40
                      obtain rfl : z39 = 2 := by omega
                      refine n_iconst c_18_39 ?_
                      refine n_if2_ne c_18_40 (by omega) (by omega) ?_ ?_
                      · intro h41
                        exfalso; omega
                      · intro h42
                        refine n_iload_n c_18_43 rfl ?_
                        refine n_iconst c_18_44 ?_
                        refine n_idivV c_18_45 (by omega) (by omega) ?_
                        intro z43 _ f44
                        refine n_goto c_18_46 ?_
                        refine n_istore_n (L2 := [some (2, 4), some (0, c), some (0, 6), some (0, z43), some (0, 0), some (0, ((0 + 1) + 1)), some (0, z37)]) c_18_52 rfl rfl ?_
                        refine n_iload c_18_53 rfl ?_
                        refine n_iload_n c_18_55 rfl ?_
                        refine n_if2_lt c_18_56 (by omega) (by omega) ?_ ?_
                        · intro h45
                          refine n_iinc (L2 := [some (2, 4), some (0, c), some (0, 6), some (0, z43), some (0, 0), some (0, (((0 + 1) + 1) + 1)), some (0, z37)]) c_18_71 rfl rfl rfl ?_
                          refine n_goto c_18_74 ?_
                          refine n_iload c_18_8 rfl ?_
                          refine n_iload_n c_18_10 rfl ?_
                          refine n_iconst c_18_11 ?_
                          refine n_iadd c_18_12 rfl ?_
                          refine n_if2_ge c_18_13 (by omega) (by omega) ?_ ?_
                          · intro h46
                            exfalso; omega
                          · intro h47
                            refine n_aload_n c_18_16 rfl ?_
                            refine n_getV (bi := 0) c_18_17 sc_4.n rfl rfl rfl (t_4_0 hS) ?_
                            intro z48 ez48 f49
                            obtain rfl : z48 = 2 := by omega
                            refine n_iconst c_18_20 ?_
                            refine n_if2_ne c_18_21 (by omega) (by omega) ?_ ?_
                            · intro h50
                              exfalso; omega
                            · intro h51
                              refine n_iload_n c_18_24 rfl ?_
                              refine n_iconst c_18_25 ?_
                              refine n_iremV c_18_26 (by omega) (by omega) ?_
                              intro z52 _ f53
                              refine n_goto c_18_27 ?_
                              refine n_istore (L2 := [some (2, 4), some (0, c), some (0, 6), some (0, z43), some (0, 0), some (0, (((0 + 1) + 1) + 1)), some (0, z52)]) c_18_33 rfl rfl ?_
                              refine n_aload_n c_18_35 rfl ?_
                              refine n_getV (bi := 0) c_18_36 sc_4.n rfl rfl rfl (t_4_0 hS) ?_
                              intro z54 ez54 f55
                              obtain rfl : z54 = 2 := by omega
                              refine n_iconst c_18_39 ?_
                              refine n_if2_ne c_18_40 (by omega) (by omega) ?_ ?_
                              · intro h56
                                exfalso; omega
                              · intro h57
                                refine n_iload_n c_18_43 rfl ?_
                                refine n_iconst c_18_44 ?_
                                refine n_idivV c_18_45 (by omega) (by omega) ?_
                                intro z58 _ f59
                                refine n_goto c_18_46 ?_
                                refine n_istore_n (L2 := [some (2, 4), some (0, c), some (0, 6), some (0, z58), some (0, 0), some (0, (((0 + 1) + 1) + 1)), some (0, z52)]) c_18_52 rfl rfl ?_
                                refine n_iload c_18_53 rfl ?_
                                refine n_iload_n c_18_55 rfl ?_
                                refine n_if2_lt c_18_56 (by omega) (by omega) ?_ ?_
                                · intro h60
                                  refine n_iinc (L2 := [some (2, 4), some (0, c), some (0, 6), some (0, z58), some (0, 0), some (0, ((((0 + 1) + 1) + 1) + 1)), some (0, z52)]) c_18_71 rfl rfl rfl ?_
                                  refine n_goto c_18_74 ?_
                                  refine n_iload c_18_8 rfl ?_
                                  refine n_iload_n c_18_10 rfl ?_
                                  refine n_iconst c_18_11 ?_
                                  refine n_iadd c_18_12 rfl ?_
                                  refine n_if2_ge c_18_13 (by omega) (by omega) ?_ ?_
                                  · intro h61
                                    exfalso; omega
                                  · intro h62
                                    refine n_aload_n c_18_16 rfl ?_
                                    refine n_getV (bi := 0) c_18_17 sc_4.n rfl rfl rfl (t_4_0 hS) ?_
                                    intro z63 ez63 f64
                                    obtain rfl : z63 = 2 := by omega
                                    refine n_iconst c_18_20 ?_
                                    refine n_if2_ne c_18_21 (by omega) (by omega) ?_ ?_
                                    · intro h65
                                      exfalso; omega
                                    · intro h66
                                      refine n_iload_n c_18_24 rfl ?_
                                      refine n_iconst c_18_25 ?_
                                      refine n_iremV c_18_26 (by omega) (by omega) ?_
                                      intro z67 _ f68
                                      refine n_goto c_18_27 ?_
                                      refine n_istore (L2 := [some (2, 4), some (0, c), some (0, 6), some (0, z58), some (0, 0), some (0, ((((0 + 1) + 1) + 1) + 1)), some (0, z67)]) c_18_33 rfl rfl ?_
                                      refine n_aload_n c_18_35 rfl ?_
                                      refine n_getV (bi := 0) c_18_36 sc_4.n rfl rfl rfl (t_4_0 hS) ?_
                                      intro z69 ez69 f70
                                      obtain rfl : z69 = 2 := by omega
                                      refine n_iconst c_18_39 ?_
                                      refine n_if2_ne c_18_40 (by omega) (by omega) ?_ ?_
                                      · intro h71
                                        exfalso; omega
                                      · intro h72
                                        refine n_iload_n c_18_43 rfl ?_
                                        refine n_iconst c_18_44 ?_
                                        refine n_idivV c_18_45 (by omega) (by omega) ?_
                                        intro z73 _ f74
                                        refine n_goto c_18_46 ?_
                                        refine n_istore_n (L2 := [some (2, 4), some (0, c), some (0, 6), some (0, z73), some (0, 0), some (0, ((((0 + 1) + 1) + 1) + 1)), some (0, z67)]) c_18_52 rfl rfl ?_
                                        refine n_iload c_18_53 rfl ?_
                                        refine n_iload_n c_18_55 rfl ?_
                                        refine n_if2_lt c_18_56 (by omega) (by omega) ?_ ?_
                                        · intro h75
                                          refine n_iinc (L2 := [some (2, 4), some (0, c), some (0, 6), some (0, z73), some (0, 0), some (0, (((((0 + 1) + 1) + 1) + 1) + 1)), some (0, z67)]) c_18_71 rfl rfl rfl ?_
                                          refine n_goto c_18_74 ?_
                                          refine n_iload c_18_8 rfl ?_
                                          refine n_iload_n c_18_10 rfl ?_
                                          refine n_iconst c_18_11 ?_
                                          refine n_iadd c_18_12 rfl ?_
                                          refine n_if2_ge c_18_13 (by omega) (by omega) ?_ ?_
                                          · intro h76
                                            exfalso; omega
                                          · intro h77
                                            refine n_aload_n c_18_16 rfl ?_
                                            refine n_getV (bi := 0) c_18_17 sc_4.n rfl rfl rfl (t_4_0 hS) ?_
                                            intro z78 ez78 f79
                                            obtain rfl : z78 = 2 := by omega
                                            refine n_iconst c_18_20 ?_
                                            refine n_if2_ne c_18_21 (by omega) (by omega) ?_ ?_
                                            · intro h80
                                              exfalso; omega
                                            · intro h81
                                              refine n_iload_n c_18_24 rfl ?_
                                              refine n_iconst c_18_25 ?_
                                              refine n_iremV c_18_26 (by omega) (by omega) ?_
                                              intro z82 _ f83
                                              refine n_goto c_18_27 ?_
                                              refine n_istore (L2 := [some (2, 4), some (0, c), some (0, 6), some (0, z73), some (0, 0), some (0, (((((0 + 1) + 1) + 1) + 1) + 1)), some (0, z82)]) c_18_33 rfl rfl ?_
                                              refine n_aload_n c_18_35 rfl ?_
                                              refine n_getV (bi := 0) c_18_36 sc_4.n rfl rfl rfl (t_4_0 hS) ?_
                                              intro z84 ez84 f85
                                              obtain rfl : z84 = 2 := by omega
                                              refine n_iconst c_18_39 ?_
                                              refine n_if2_ne c_18_40 (by omega) (by omega) ?_ ?_
                                              · intro h86
                                                exfalso; omega
                                              · intro h87
                                                refine n_iload_n c_18_43 rfl ?_
                                                refine n_iconst c_18_44 ?_
                                                refine n_idivV c_18_45 (by omega) (by omega) ?_
                                                intro z88 _ f89
                                                refine n_goto c_18_46 ?_
                                                refine n_istore_n (L2 := [some (2, 4), some (0, c), some (0, 6), some (0, z88), some (0, 0), some (0, (((((0 + 1) + 1) + 1) + 1) + 1)), some (0, z82)]) c_18_52 rfl rfl ?_
                                                refine n_iload c_18_53 rfl ?_
                                                refine n_iload_n c_18_55 rfl ?_
                                                refine n_if2_lt c_18_56 (by omega) (by omega) ?_ ?_
                                                · intro h90
                                                  refine n_iinc (L2 := [some (2, 4), some (0, c), some (0, 6), some (0, z88), some (0, 0), some (0, ((((((0 + 1) + 1) + 1) + 1) + 1) + 1)), some (0, z82)]) c_18_71 rfl rfl rfl ?_
                                                  refine n_goto c_18_74 ?_
                                                  refine n_iload c_18_8 rfl ?_
                                                  refine n_iload_n c_18_10 rfl ?_
                                                  refine n_iconst c_18_11 ?_
                                                  refine n_iadd c_18_12 rfl ?_
                                                  refine n_if2_ge c_18_13 (by omega) (by omega) ?_ ?_
                                                  · intro h91
                                                    exfalso; omega
                                                  · intro h92
                                                    refine n_aload_n c_18_16 rfl ?_
                                                    refine n_getV (bi := 0) c_18_17 sc_4.n rfl rfl rfl (t_4_0 hS) ?_
                                                    intro z93 ez93 f94
                                                    obtain rfl : z93 = 2 := by omega
                                                    refine n_iconst c_18_20 ?_
                                                    refine n_if2_ne c_18_21 (by omega) (by omega) ?_ ?_
                                                    · intro h95
                                                      exfalso; omega
                                                    · intro h96
                                                      refine n_iload_n c_18_24 rfl ?_
                                                      refine n_iconst c_18_25 ?_
                                                      refine n_iremV c_18_26 (by omega) (by omega) ?_
                                                      intro z97 _ f98
                                                      refine n_goto c_18_27 ?_
                                                      refine n_istore (L2 := [some (2, 4), some (0, c), some (0, 6), some (0, z88), some (0, 0), some (0, ((((((0 + 1) + 1) + 1) + 1) + 1) + 1)), some (0, z97)]) c_18_33 rfl rfl ?_
                                                      refine n_aload_n c_18_35 rfl ?_
                                                      refine n_getV (bi := 0) c_18_36 sc_4.n rfl rfl rfl (t_4_0 hS) ?_
                                                      intro z99 ez99 f100
                                                      obtain rfl : z99 = 2 := by omega
                                                      refine n_iconst c_18_39 ?_
                                                      refine n_if2_ne c_18_40 (by omega) (by omega) ?_ ?_
                                                      · intro h101
                                                        exfalso; omega
                                                      · intro h102
                                                        refine n_iload_n c_18_43 rfl ?_
                                                        refine n_iconst c_18_44 ?_
                                                        refine n_idivV c_18_45 (by omega) (by omega) ?_
                                                        intro z103 _ f104
                                                        refine n_goto c_18_46 ?_
                                                        refine n_istore_n (L2 := [some (2, 4), some (0, c), some (0, 6), some (0, z103), some (0, 0), some (0, ((((((0 + 1) + 1) + 1) + 1) + 1) + 1)), some (0, z97)]) c_18_52 rfl rfl ?_
                                                        refine n_iload c_18_53 rfl ?_
                                                        refine n_iload_n c_18_55 rfl ?_
                                                        refine n_if2_lt c_18_56 (by omega) (by omega) ?_ ?_
                                                        · intro h105
                                                          exfalso; omega
                                                        · intro h106
                                                          refine n_iload c_18_59 rfl ?_
                                                          refine n_aload_n c_18_61 rfl ?_
                                                          refine n_getV (bi := 0) c_18_62 sc_4.n rfl rfl rfl (t_4_0 hS) ?_
                                                          intro z107 ez107 f108
                                                          obtain rfl : z107 = 2 := by omega
                                                          refine n_imul c_18_65 rfl ?_
                                                          refine n_iload c_18_66 rfl ?_
                                                          refine n_iadd c_18_68 rfl ?_
                                                          refine n_istore (L2 := [some (2, 4), some (0, c), some (0, 6), some (0, z103), some (0, ((0 * 2) + z97)), some (0, ((((((0 + 1) + 1) + 1) + 1) + 1) + 1)), some (0, z97)]) c_18_69 rfl rfl ?_
                                                          refine n_iinc (L2 := [some (2, 4), some (0, c), some (0, 6), some (0, z103), some (0, ((0 * 2) + z97)), some (0, (((((((0 + 1) + 1) + 1) + 1) + 1) + 1) + 1)), some (0, z97)]) c_18_71 rfl rfl rfl ?_
                                                          refine n_goto c_18_74 ?_
                                                          refine n_iload c_18_8 rfl ?_
                                                          refine n_iload_n c_18_10 rfl ?_
                                                          refine n_iconst c_18_11 ?_
                                                          refine n_iadd c_18_12 rfl ?_
                                                          refine n_if2_ge c_18_13 (by omega) (by omega) ?_ ?_
                                                          · intro h109
                                                            exfalso; omega
                                                          · intro h110
                                                            refine n_aload_n c_18_16 rfl ?_
                                                            refine n_getV (bi := 0) c_18_17 sc_4.n rfl rfl rfl (t_4_0 hS) ?_
                                                            intro z111 ez111 f112
                                                            obtain rfl : z111 = 2 := by omega
                                                            refine n_iconst c_18_20 ?_
                                                            refine n_if2_ne c_18_21 (by omega) (by omega) ?_ ?_
                                                            · intro h113
                                                              exfalso; omega
                                                            · intro h114
                                                              refine n_iload_n c_18_24 rfl ?_
                                                              refine n_iconst c_18_25 ?_
                                                              refine n_iremV c_18_26 (by omega) (by omega) ?_
                                                              intro z115 _ f116
                                                              refine n_goto c_18_27 ?_
                                                              refine n_istore (L2 := [some (2, 4), some (0, c), some (0, 6), some (0, z103), some (0, ((0 * 2) + z97)), some (0, (((((((0 + 1) + 1) + 1) + 1) + 1) + 1) + 1)), some (0, z115)]) c_18_33 rfl rfl ?_
                                                              refine n_aload_n c_18_35 rfl ?_
                                                              refine n_getV (bi := 0) c_18_36 sc_4.n rfl rfl rfl (t_4_0 hS) ?_
                                                              intro z117 ez117 f118
                                                              obtain rfl : z117 = 2 := by omega
                                                              refine n_iconst c_18_39 ?_
                                                              refine n_if2_ne c_18_40 (by omega) (by omega) ?_ ?_
                                                              · intro h119
                                                                exfalso; omega
                                                              · intro h120
                                                                refine n_iload_n c_18_43 rfl ?_
                                                                refine n_iconst c_18_44 ?_
                                                                refine n_idivV c_18_45 (by omega) (by omega) ?_
                                                                intro z121 _ f122
                                                                refine n_goto c_18_46 ?_
                                                                refine n_istore_n (L2 := [some (2, 4), some (0, c), some (0, 6), some (0, z121), some (0, ((0 * 2) + z97)), some (0, (((((((0 + 1) + 1) + 1) + 1) + 1) + 1) + 1)), some (0, z115)]) c_18_52 rfl rfl ?_
                                                                refine n_iload c_18_53 rfl ?_
                                                                refine n_iload_n c_18_55 rfl ?_
                                                                refine n_if2_lt c_18_56 (by omega) (by omega) ?_ ?_
                                                                · intro h123
                                                                  exfalso; omega
                                                                · intro h124
                                                                  refine n_iload c_18_59 rfl ?_
                                                                  refine n_aload_n c_18_61 rfl ?_
                                                                  refine n_getV (bi := 0) c_18_62 sc_4.n rfl rfl rfl (t_4_0 hS) ?_
                                                                  intro z125 ez125 f126
                                                                  obtain rfl : z125 = 2 := by omega
                                                                  refine n_imul c_18_65 rfl ?_
                                                                  refine n_iload c_18_66 rfl ?_
                                                                  refine n_iadd c_18_68 rfl ?_
                                                                  refine n_istore (L2 := [some (2, 4), some (0, c), some (0, 6), some (0, z121), some (0, ((((0 * 2) + z97) * 2) + z115)), some (0, (((((((0 + 1) + 1) + 1) + 1) + 1) + 1) + 1)), some (0, z115)]) c_18_69 rfl rfl ?_
                                                                  refine n_iinc (L2 := [some (2, 4), some (0, c), some (0, 6), some (0, z121), some (0, ((((0 * 2) + z97) * 2) + z115)), some (0, ((((((((0 + 1) + 1) + 1) + 1) + 1) + 1) + 1) + 1)), some (0, z115)]) c_18_71 rfl rfl rfl ?_
                                                                  refine n_goto c_18_74 ?_
                                                                  refine n_iload c_18_8 rfl ?_
                                                                  refine n_iload_n c_18_10 rfl ?_
                                                                  refine n_iconst c_18_11 ?_
                                                                  refine n_iadd c_18_12 rfl ?_
                                                                  refine n_if2_ge c_18_13 (by omega) (by omega) ?_ ?_
                                                                  · intro h127
                                                                    exfalso; omega
                                                                  · intro h128
                                                                    refine n_aload_n c_18_16 rfl ?_
                                                                    refine n_getV (bi := 0) c_18_17 sc_4.n rfl rfl rfl (t_4_0 hS) ?_
                                                                    intro z129 ez129 f130
                                                                    obtain rfl : z129 = 2 := by omega
                                                                    refine n_iconst c_18_20 ?_
                                                                    refine n_if2_ne c_18_21 (by omega) (by omega) ?_ ?_
                                                                    · intro h131
                                                                      exfalso; omega
                                                                    · intro h132
                                                                      refine n_iload_n c_18_24 rfl ?_
                                                                      refine n_iconst c_18_25 ?_
                                                                      refine n_iremV c_18_26 (by omega) (by omega) ?_
                                                                      intro z133 _ f134
                                                                      refine n_goto c_18_27 ?_
                                                                      refine n_istore (L2 := [some (2, 4), some (0, c), some (0, 6), some (0, z121), some (0, ((((0 * 2) + z97) * 2) + z115)), some (0, ((((((((0 + 1) + 1) + 1) + 1) + 1) + 1) + 1) + 1)), some (0, z133)]) c_18_33 rfl rfl ?_
                                                                      refine n_aload_n c_18_35 rfl ?_
                                                                      refine n_getV (bi := 0) c_18_36 sc_4.n rfl rfl rfl (t_4_0 hS) ?_
                                                                      intro z135 ez135 f136
                                                                      obtain rfl : z135 = 2 := by omega
                                                                      refine n_iconst c_18_39 ?_
                                                                      refine n_if2_ne c_18_40 (by omega) (by omega) ?_ ?_
                                                                      · intro h137
                                                                        exfalso; omega
                                                                      · intro h138
                                                                        refine n_iload_n c_18_43 rfl ?_
                                                                        refine n_iconst c_18_44 ?_
                                                                        refine n_idivV c_18_45 (by omega) (by omega) ?_
                                                                        intro z139 _ f140
                                                                        refine n_goto c_18_46 ?_
                                                                        refine n_istore_n (L2 := [some (2, 4), some (0, c), some (0, 6), some (0, z139), some (0, ((((0 * 2) + z97) * 2) + z115)), some (0, ((((((((0 + 1) + 1) + 1) + 1) + 1) + 1) + 1) + 1)), some (0, z133)]) c_18_52 rfl rfl ?_
                                                                        refine n_iload c_18_53 rfl ?_
                                                                        refine n_iload_n c_18_55 rfl ?_
                                                                        refine n_if2_lt c_18_56 (by omega) (by omega) ?_ ?_
                                                                        · intro h141
                                                                          exfalso; omega
                                                                        · intro h142
                                                                          refine n_iload c_18_59 rfl ?_
                                                                          refine n_aload_n c_18_61 rfl ?_
                                                                          refine n_getV (bi := 0) c_18_62 sc_4.n rfl rfl rfl (t_4_0 hS) ?_
                                                                          intro z143 ez143 f144
                                                                          obtain rfl : z143 = 2 := by omega
                                                                          refine n_imul c_18_65 rfl ?_
                                                                          refine n_iload c_18_66 rfl ?_
                                                                          refine n_iadd c_18_68 rfl ?_
                                                                          refine n_istore (L2 := [some (2, 4), some (0, c), some (0, 6), some (0, z139), some (0, ((((((0 * 2) + z97) * 2) + z115) * 2) + z133)), some (0, ((((((((0 + 1) + 1) + 1) + 1) + 1) + 1) + 1) + 1)), some (0, z133)]) c_18_69 rfl rfl ?_
                                                                          refine n_iinc (L2 := [some (2, 4), some (0, c), some (0, 6), some (0, z139), some (0, ((((((0 * 2) + z97) * 2) + z115) * 2) + z133)), some (0, (((((((((0 + 1) + 1) + 1) + 1) + 1) + 1) + 1) + 1) + 1)), some (0, z133)]) c_18_71 rfl rfl rfl ?_
                                                                          refine n_goto c_18_74 ?_
                                                                          refine n_iload c_18_8 rfl ?_
                                                                          refine n_iload_n c_18_10 rfl ?_
                                                                          refine n_iconst c_18_11 ?_
                                                                          refine n_iadd c_18_12 rfl ?_
                                                                          refine n_if2_ge c_18_13 (by omega) (by omega) ?_ ?_
                                                                          · intro h145
                                                                            refine n_iload c_18_77 rfl ?_
                                                                            exact n_rI c_18_79 rfl ⟨rfl, by omega⟩
                                                                          · intro h146
                                                                            exfalso; omega
                                                · intro h147
                                                  exfalso; omega
                                        · intro h148
                                          exfalso; omega
                                · intro h149
                                  exfalso; omega
                        · intro h150
                          exfalso; omega
                · intro h151
                  exfalso; omega
        · intro h152
          exfalso; omega

set_option maxHeartbeats 4000000 in
theorem isSlot_2_c {xs : List Int32} {e : Nat} {ac : Int} {M0 M : nM} {s : Int} (hS : Sf 2 ac M0 M) (hs : -2147483648 ≤ s ∧ s ≤ 2147483647) : ∀ nn : Nat, (1 < (nn : Int) → nW xs e 84 14 [none, none] [] M (nPI fun z M1 => M = M1 ∧ (0 ≤ z ∧ z ≤ 1) ∧ (z = 0 ∨ (0 ≤ s ∧ s ≤ 7)))) := by
  have hd : (2 : Int) = 2 ∨ (2 : Int) = 3 := by decide
  have hac := hS.2.2.2.2
  intro nn
  induction nn with
  | zero => intros; omega
  | succ nn ih =>
    intro hnn
    refine n_iconst c_84_14 ?_
    exact n_rZ c_84_15 rfl (by omega) ⟨rfl, by omega, by omega⟩
set_option maxHeartbeats 4000000 in
theorem isSlot_2 {xs : List Int32} {e : Nat} {ac : Int} {M0 M : nM} {s : Int} (hS : Sf 2 ac M0 M) (hs : -2147483648 ≤ s ∧ s ≤ 2147483647) : nW xs e 84 0 [some (2, 8), some (0, s)] [] M (nPI fun z M1 => M = M1 ∧ (0 ≤ z ∧ z ≤ 1) ∧ (z = 0 ∨ (0 ≤ s ∧ s ≤ 7))) := by
  have hd : (2 : Int) = 2 ∨ (2 : Int) = 3 := by decide
  have hac := hS.2.2.2.2
  refine n_iload_n c_84_0 rfl ?_
  refine n_if0_lt c_84_1 (by omega) ?_ ?_
  · intro h1
    refine n_fg (le_n (le_n le_0)) ?_
    exact (isSlot_2_c hS hs 12)   (by omega)
  · intro h2
    refine n_iload_n c_84_4 rfl ?_
    refine n_bipush c_84_5 rfl ?_
    refine n_if2_ge c_84_7 (by omega) (by omega) ?_ ?_
    · intro h3
      refine n_fg (le_n (le_n le_0)) ?_
      exact (isSlot_2_c hS hs 12)   (by omega)
    · intro h4
      refine n_iconst c_84_10 ?_
      refine n_goto c_84_11 ?_
      exact n_rZ c_84_15 rfl (by omega) ⟨rfl, by omega, by omega⟩

set_option maxHeartbeats 4000000 in
theorem hasRow_2_c {xs : List Int32} {e : Nat} {ac : Int} {M0 M : nM} {s : Int} (hS : Sf 2 ac M0 M) (hs : -2147483648 ≤ s ∧ s ≤ 2147483647) : ∀ nn : Nat, (1 < (nn : Int) → nW xs (e + 1) 85 21 [none, none] [] M (nPI fun z M1 => M = M1 ∧ (0 ≤ z ∧ z ≤ 1) ∧ (z = 0 ∨ (0 ≤ s ∧ s ≤ 7)))) := by
  have hd : (2 : Int) = 2 ∨ (2 : Int) = 3 := by decide
  have hac := hS.2.2.2.2
  intro nn
  induction nn with
  | zero => intros; omega
  | succ nn ih =>
    intro hnn
    refine n_iconst c_85_21 ?_
    exact n_rZ c_85_22 rfl (by omega) ⟨rfl, by omega, by omega⟩
set_option maxHeartbeats 4000000 in
theorem hasRow_2 {xs : List Int32} {e : Nat} {ac : Int} {M0 M : nM} {s : Int} (hS : Sf 2 ac M0 M) (hs : -2147483648 ≤ s ∧ s ≤ 2147483647) : nW xs (e + 1) 85 0 [some (2, 8), some (0, s)] [] M (nPI fun z M1 => M = M1 ∧ (0 ≤ z ∧ z ≤ 1) ∧ (z = 0 ∨ (0 ≤ s ∧ s ≤ 7))) := by
  have hd : (2 : Int) = 2 ∨ (2 : Int) = 3 := by decide
  have hac := hS.2.2.2.2
  refine n_aload_n c_85_0 rfl ?_
  refine n_iload_n c_85_1 rfl ?_
  refine n_v1I c_85_2 rfl sc_8.n rfl rfl rfl rfl (isSlot_2 (s := s) hS (by omega)) ?_
  intro z1 M2 hP3
  obtain ⟨eM, f3, f3p0⟩ := hP3
  subst eM
  refine n_if0_eq c_85_5 (by omega) ?_ ?_
  · intro h4
    refine n_fg (le_n (le_n le_0)) ?_
    exact (hasRow_2_c hS hs 12)   (by omega)
  · intro h5
    refine n_aload_n c_85_8 rfl ?_
    refine n_getR c_85_9 sc_8.n rfl rfl rfl r_8_2 ?_
    refine n_iload_n c_85_12 rfl ?_
    refine n_ialoadV c_85_13 sc_11.n rfl rfl rfl (by omega) (t_11 hS (by omega)) ?_
    intro z6 ez6 f7
    refine n_if0_lt c_85_14 (by omega) ?_ ?_
    · intro h8
      refine n_fg (le_n (le_n le_0)) ?_
      exact (hasRow_2_c hS hs 12)   (by omega)
    · intro h9
      refine n_iconst c_85_17 ?_
      refine n_goto c_85_18 ?_
      exact n_rZ c_85_22 rfl (by omega) ⟨rfl, by omega, by omega⟩

set_option maxHeartbeats 4000000 in
theorem read1_2_c {xs : List Int32} {e : Nat} {ac : Int} {M0 M : nM} {s i : Int} (hS : Sf 2 ac M0 M) (hs : 0 ≤ s ∧ s ≤ 7) (hi : -2147483648 ≤ i ∧ i ≤ 2147483647) : ∀ nn : Nat, (2 < (nn : Int) → nW xs e 89 14 [none, none, none, none, none, none] [] M (nPI fun z M1 => M = M1 ∧ (-6 ≤ z ∧ z ≤ 1))) ∧ (1 < (nn : Int) → nW xs e 89 45 [none, none, none, none, none, none] [] M (nPI fun z M1 => M = M1 ∧ (-6 ≤ z ∧ z ≤ 1))) := by
  have hd : (2 : Int) = 2 ∨ (2 : Int) = 3 := by decide
  have hac := hS.2.2.2.2
  intro nn
  induction nn with
  | zero => refine ⟨?_, ?_⟩ <;> (intros; omega)
  | succ nn ih =>
    refine ⟨?_, ?_⟩
    · intro hnn
      refine n_bipush c_89_14 rfl ?_
      exact n_rI c_89_16 rfl ⟨rfl, by omega⟩
    · intro hnn
      refine n_bipush c_89_45 rfl ?_
      exact n_rI c_89_47 rfl ⟨rfl, by omega⟩
set_option maxHeartbeats 4000000 in
theorem read1_2 {xs : List Int32} {e : Nat} {ac : Int} {M0 M : nM} {s i : Int} (hS : Sf 2 ac M0 M) (hs : 0 ≤ s ∧ s ≤ 7) (hi : -2147483648 ≤ i ∧ i ≤ 2147483647) : nW xs e 89 0 [some (2, 8), some (0, s), some (0, i), some (0, 1), none, none] [] M (nPI fun z M1 => M = M1 ∧ (-6 ≤ z ∧ z ≤ 1)) := by
  have hd : (2 : Int) = 2 ∨ (2 : Int) = 3 := by decide
  have hac := hS.2.2.2.2
  refine n_iload_n c_89_0 rfl ?_
  refine n_if0_lt c_89_1 (by omega) ?_ ?_
  · intro h1
    refine n_fg (le_n (le_n (le_n (le_n (le_n (le_n le_0)))))) ?_
    exact (read1_2_c hS hs hi 14).1   (by omega)
  · intro h2
    refine n_iload_n c_89_4 rfl ?_
    refine n_aload_n c_89_5 rfl ?_
    refine n_getR c_89_6 sc_8.n rfl rfl rfl r_8_2 ?_
    refine n_iload_n c_89_9 rfl ?_
    refine n_ialoadV c_89_10 sc_11.n rfl rfl rfl (by omega) (t_11 hS (by omega)) ?_
    intro z3 ez3 f4
    refine n_if2_lt c_89_11 (by omega) (by omega) ?_ ?_
    · intro h5
      refine n_aload_n c_89_17 rfl ?_
      refine n_getR c_89_18 sc_8.n rfl rfl rfl r_8_0 ?_
      refine n_iload_n c_89_21 rfl ?_
      refine n_bipush c_89_22 rfl ?_
      refine n_imul c_89_24 rfl ?_
      refine n_iload_n c_89_25 rfl ?_
      refine n_iadd c_89_26 rfl ?_
      refine n_laloadV c_89_27 sc_9.n rfl rfl rfl (by omega) (t_9 hS (by omega)) ?_
      intro z6 ez6 f7
      refine n_lstore (L2 := [some (2, 8), some (0, s), some (0, i), some (0, 1), some (1, z6), none]) c_89_28 rfl rfl ?_
      refine n_lload c_89_30 rfl ?_
      refine n_lconst (n := 0) c_89_32 rfl ?_
      refine n_lcmp c_89_33 ?_
      refine n_lif_lt c_89_34 (by omega) (by omega) ?_ ?_
      · intro h8
        refine n_fg (le_n (le_n (le_n (le_n (le_n (le_n le_0)))))) ?_
        exact (read1_2_c hS hs hi 14).2   (by omega)
      · intro h9
        refine n_lload c_89_37 rfl ?_
        refine n_iload_n c_89_39 rfl ?_
        refine n_i2l c_89_40 (by omega) ?_
        refine n_lcmp c_89_41 ?_
        refine n_lif_le c_89_42 (by omega) (by omega) ?_ ?_
        · intro h10
          refine n_lload c_89_48 rfl ?_
          refine n_l2i c_89_50 ?_
          exact n_rI c_89_51 rfl ⟨rfl, by omega⟩
        · intro h11
          refine n_fg (le_n (le_n (le_n (le_n (le_n (le_n le_0)))))) ?_
          exact (read1_2_c hS hs hi 14).2   (by omega)
    · intro h12
      refine n_fg (le_n (le_n (le_n (le_n (le_n (le_n le_0)))))) ?_
      exact (read1_2_c hS hs hi 14).1   (by omega)

set_option maxHeartbeats 4000000 in
theorem read27_2_c {xs : List Int32} {e : Nat} {ac : Int} {M0 M : nM} {s i : Int} (hS : Sf 2 ac M0 M) (hs : 0 ≤ s ∧ s ≤ 7) (hi : -2147483648 ≤ i ∧ i ≤ 2147483647) : ∀ nn : Nat, (2 < (nn : Int) → nW xs e 89 14 [none, none, none, none, none, none] [] M (nPI fun z M1 => M = M1 ∧ (-6 ≤ z ∧ z ≤ 27))) ∧ (1 < (nn : Int) → nW xs e 89 45 [none, none, none, none, none, none] [] M (nPI fun z M1 => M = M1 ∧ (-6 ≤ z ∧ z ≤ 27))) := by
  have hd : (2 : Int) = 2 ∨ (2 : Int) = 3 := by decide
  have hac := hS.2.2.2.2
  intro nn
  induction nn with
  | zero => refine ⟨?_, ?_⟩ <;> (intros; omega)
  | succ nn ih =>
    refine ⟨?_, ?_⟩
    · intro hnn
      refine n_bipush c_89_14 rfl ?_
      exact n_rI c_89_16 rfl ⟨rfl, by omega⟩
    · intro hnn
      refine n_bipush c_89_45 rfl ?_
      exact n_rI c_89_47 rfl ⟨rfl, by omega⟩
set_option maxHeartbeats 4000000 in
theorem read27_2 {xs : List Int32} {e : Nat} {ac : Int} {M0 M : nM} {s i : Int} (hS : Sf 2 ac M0 M) (hs : 0 ≤ s ∧ s ≤ 7) (hi : -2147483648 ≤ i ∧ i ≤ 2147483647) : nW xs e 89 0 [some (2, 8), some (0, s), some (0, i), some (0, 27), none, none] [] M (nPI fun z M1 => M = M1 ∧ (-6 ≤ z ∧ z ≤ 27)) := by
  have hd : (2 : Int) = 2 ∨ (2 : Int) = 3 := by decide
  have hac := hS.2.2.2.2
  refine n_iload_n c_89_0 rfl ?_
  refine n_if0_lt c_89_1 (by omega) ?_ ?_
  · intro h1
    refine n_fg (le_n (le_n (le_n (le_n (le_n (le_n le_0)))))) ?_
    exact (read27_2_c hS hs hi 14).1   (by omega)
  · intro h2
    refine n_iload_n c_89_4 rfl ?_
    refine n_aload_n c_89_5 rfl ?_
    refine n_getR c_89_6 sc_8.n rfl rfl rfl r_8_2 ?_
    refine n_iload_n c_89_9 rfl ?_
    refine n_ialoadV c_89_10 sc_11.n rfl rfl rfl (by omega) (t_11 hS (by omega)) ?_
    intro z3 ez3 f4
    refine n_if2_lt c_89_11 (by omega) (by omega) ?_ ?_
    · intro h5
      refine n_aload_n c_89_17 rfl ?_
      refine n_getR c_89_18 sc_8.n rfl rfl rfl r_8_0 ?_
      refine n_iload_n c_89_21 rfl ?_
      refine n_bipush c_89_22 rfl ?_
      refine n_imul c_89_24 rfl ?_
      refine n_iload_n c_89_25 rfl ?_
      refine n_iadd c_89_26 rfl ?_
      refine n_laloadV c_89_27 sc_9.n rfl rfl rfl (by omega) (t_9 hS (by omega)) ?_
      intro z6 ez6 f7
      refine n_lstore (L2 := [some (2, 8), some (0, s), some (0, i), some (0, 27), some (1, z6), none]) c_89_28 rfl rfl ?_
      refine n_lload c_89_30 rfl ?_
      refine n_lconst (n := 0) c_89_32 rfl ?_
      refine n_lcmp c_89_33 ?_
      refine n_lif_lt c_89_34 (by omega) (by omega) ?_ ?_
      · intro h8
        refine n_fg (le_n (le_n (le_n (le_n (le_n (le_n le_0)))))) ?_
        exact (read27_2_c hS hs hi 14).2   (by omega)
      · intro h9
        refine n_lload c_89_37 rfl ?_
        refine n_iload_n c_89_39 rfl ?_
        refine n_i2l c_89_40 (by omega) ?_
        refine n_lcmp c_89_41 ?_
        refine n_lif_le c_89_42 (by omega) (by omega) ?_ ?_
        · intro h10
          refine n_lload c_89_48 rfl ?_
          refine n_l2i c_89_50 ?_
          exact n_rI c_89_51 rfl ⟨rfl, by omega⟩
        · intro h11
          refine n_fg (le_n (le_n (le_n (le_n (le_n (le_n le_0)))))) ?_
          exact (read27_2_c hS hs hi 14).2   (by omega)
    · intro h12
      refine n_fg (le_n (le_n (le_n (le_n (le_n (le_n le_0)))))) ?_
      exact (read27_2_c hS hs hi 14).1   (by omega)

set_option maxHeartbeats 4000000 in
theorem filled_2_c {xs : List Int32} {e : Nat} {ac : Int} {M0 M : nM} (hS : Sf 2 ac M0 M)  : ∀ nn : Nat, (∀ (x1 x2 : Int), (0 ≤ x1 ∧ x1 ≤ 8) → (0 ≤ x2 ∧ x2 ≤ 8) → (x1 ≤ x2) → (8 - x2) * 2 + 2 < (nn : Int) → nW xs e 90 4 [some (2, 8), some (0, x1), some (0, x2)] [] M (nPI fun z M1 => M = M1 ∧ (0 ≤ z ∧ z ≤ 8))) ∧ (∀ (x1 x2 : Int), (0 ≤ x1 ∧ x1 ≤ 8) → (0 ≤ x2 ∧ x2 ≤ 7) → (x1 ≤ x2 + 1) → (8 - x2) * 2 + 1 < (nn : Int) → nW xs e 90 22 [some (2, 8), some (0, x1), some (0, x2)] [] M (nPI fun z M1 => M = M1 ∧ (0 ≤ z ∧ z ≤ 8))) := by
  have hd : (2 : Int) = 2 ∨ (2 : Int) = 3 := by decide
  have hac := hS.2.2.2.2
  intro nn
  induction nn with
  | zero => refine ⟨?_, ?_⟩ <;> (intros; omega)
  | succ nn ih =>
    refine ⟨?_, ?_⟩
    · intro x1 x2 k1 k2 v0 hnn
      refine n_iload_n c_90_4 rfl ?_
      refine n_bipush c_90_5 rfl ?_
      refine n_if2_ge c_90_7 (by omega) (by omega) ?_ ?_
      · intro h1
        refine n_iload_n c_90_28 rfl ?_
        exact n_rI c_90_29 rfl ⟨rfl, by omega⟩
      · intro h2
        refine n_aload_n c_90_10 rfl ?_
        refine n_getR c_90_11 sc_8.n rfl rfl rfl r_8_2 ?_
        refine n_iload_n c_90_14 rfl ?_
        refine n_ialoadV c_90_15 sc_11.n rfl rfl rfl (by omega) (t_11 hS (by omega)) ?_
        intro z3 ez3 f4
        refine n_if0_lt c_90_16 (by omega) ?_ ?_
        · intro h5
          refine n_fg (le_s (le_s (le_s le_0))) ?_
          exact ih.2 _ _ (by omega) (by omega) (by omega) (by omega)
        · intro h6
          refine n_iinc (L2 := [some (2, 8), some (0, (x1 + 1)), some (0, x2)]) c_90_19 rfl rfl rfl ?_
          refine n_fg (le_s (le_s (le_s le_0))) ?_
          exact ih.2 _ _ (by omega) (by omega) (by omega) (by omega)
    · intro x1 x2 k1 k2 v0 hnn
      refine n_iinc (L2 := [some (2, 8), some (0, x1), some (0, (x2 + 1))]) c_90_22 rfl rfl rfl ?_
      refine n_goto c_90_25 ?_
      refine n_fg (le_s (le_s (le_s le_0))) ?_
      exact ih.1 _ _ (by omega) (by omega) (by omega) (by omega)
set_option maxHeartbeats 4000000 in
theorem filled_2 {xs : List Int32} {e : Nat} {ac : Int} {M0 M : nM} (hS : Sf 2 ac M0 M)  : nW xs e 90 0 [some (2, 8), none, none] [] M (nPI fun z M1 => M = M1 ∧ (0 ≤ z ∧ z ≤ 8)) := by
  have hd : (2 : Int) = 2 ∨ (2 : Int) = 3 := by decide
  have hac := hS.2.2.2.2
  refine n_iconst c_90_0 ?_
  refine n_istore_n (L2 := [some (2, 8), some (0, 0), none]) c_90_1 rfl rfl ?_
  refine n_iconst c_90_2 ?_
  refine n_istore_n (L2 := [some (2, 8), some (0, 0), some (0, 0)]) c_90_3 rfl rfl ?_
  refine n_fg (le_s (le_s (le_s le_0))) ?_
  exact (filled_2_c hS  50).1 _ _ (by omega) (by omega) (by omega) (by omega)

set_option maxHeartbeats 4000000 in
theorem staysIn_2_c {xs : List Int32} {e : Nat} {ac : Int} {M0 M : nM} {p s : Int} (hS : Sf 2 ac M0 M) (hp : ActAt p) (hpl : p < 55 + 3 * ac) (hs : -2147483648 ≤ s ∧ s ≤ 2147483647) : ∀ nn : Nat, (∀ (x3 : Int), (0 ≤ x3 ∧ x3 ≤ 8) → (8 - x3) * 2 + 2 < (nn : Int) → nW xs (e + 1) 3 2 [some (2, p), some (0, s), some (2, 4), some (0, x3), none] [] M (nPI fun z M1 => M = M1 ∧ (0 ≤ z ∧ z ≤ 1))) ∧ (∀ (x3 : Int), (0 ≤ x3 ∧ x3 ≤ 7) → (8 - x3) * 2 + 1 < (nn : Int) → nW xs (e + 1) 3 45 [some (2, p), some (0, s), some (2, 4), some (0, x3), none] [] M (nPI fun z M1 => M = M1 ∧ (0 ≤ z ∧ z ≤ 1))) := by
  have hd : (2 : Int) = 2 ∨ (2 : Int) = 3 := by decide
  have hac := hS.2.2.2.2
  intro nn
  induction nn with
  | zero => refine ⟨?_, ?_⟩ <;> (intros; omega)
  | succ nn ih =>
    refine ⟨?_, ?_⟩
    · intro x3 k3 hnn
      refine n_iload_n c_3_2 rfl ?_
      refine n_aload_n c_3_3 rfl ?_
      refine n_getV (bi := 1) c_3_4 hp.c0.1.n rfl rfl rfl (t_actl hS hp hpl).2 ?_
      intro z1 ez1 f2
      refine n_if2_ge c_3_7 (by omega) (by omega) ?_ ?_
      · intro h3
        refine n_iconst c_3_51 ?_
        exact n_rZ c_3_52 rfl (by omega) ⟨rfl, by omega⟩
      · intro h4
        refine n_aload_n c_3_10 rfl ?_
        refine n_iload_n c_3_11 rfl ?_
        refine n_aload_n c_3_12 rfl ?_
        refine n_getV (bi := 0) c_3_13 hp.c0.1.n rfl rfl rfl (t_actl hS hp hpl).1 ?_
        intro z5 ez5 f6
        refine n_v2I c_3_16 rfl sc_4.n rfl rfl rfl rfl (thingsOf_2 (r := x3) (p := z5) hS (by omega) (by omega)) ?_
        intro z7 M8 hP9
        obtain ⟨eM, f9⟩ := hP9
        subst eM
        refine n_istore (L2 := [some (2, p), some (0, s), some (2, 4), some (0, x3), some (0, z7)]) c_3_19 rfl rfl ?_
        refine n_iload c_3_21 rfl ?_
        refine n_iload_n c_3_23 rfl ?_
        refine n_i_iand c_3_24 rfl ?_
        have f10 := n_and_r z7 s
        generalize (n_and z7 s) = z11 at f10 ⊢
        refine n_iload c_3_25 rfl ?_
        refine n_if2_ne c_3_27 (by omega) (by omega) ?_ ?_
        · intro h12
          refine n_fg (le_s (le_s (le_s (le_s (le_n le_0))))) ?_
          exact ih.2 _ (by omega) (by omega)
        · intro h13
          refine n_iload_n c_3_30 rfl ?_
          refine n_aload_n c_3_31 rfl ?_
          refine n_getR c_3_32 hp.c0.1.n rfl rfl rfl hp.r.1 ?_
          refine n_iload_n c_3_35 rfl ?_
          refine n_ialoadV c_3_36 hp.c0.2.1.n rfl rfl rfl (by omega) (t_actrl hS hp hpl (Or.inl rfl) (by omega) (by omega)) ?_
          intro z14 ez14 f15
          refine n_i_ishr c_3_37 rfl ?_
          have f16 := n_shr_r s z14
          generalize (n_shr s z14) = z17 at f16 ⊢
          refine n_iconst c_3_38 ?_
          refine n_i_iand c_3_39 rfl ?_
          have f18 := n_and_y (x := z17) (y := 1) (by omega)
          generalize (n_and z17 1) = z19 at f18 ⊢
          refine n_if0_ne c_3_40 (by omega) ?_ ?_
          · intro h20
            refine n_fg (le_s (le_s (le_s (le_s (le_n le_0))))) ?_
            exact ih.2 _ (by omega) (by omega)
          · intro h21
            refine n_iconst c_3_43 ?_
            exact n_rZ c_3_44 rfl (by omega) ⟨rfl, by omega⟩
    · intro x3 k3 hnn
      refine n_iinc (L2 := [some (2, p), some (0, s), some (2, 4), some (0, (x3 + 1)), none]) c_3_45 rfl rfl rfl ?_
      refine n_goto c_3_48 ?_
      refine n_fg (le_s (le_s (le_s (le_s (le_n le_0))))) ?_
      exact ih.1 _ (by omega) (by omega)
set_option maxHeartbeats 4000000 in
theorem staysIn_2 {xs : List Int32} {e : Nat} {ac : Int} {M0 M : nM} {p s : Int} (hS : Sf 2 ac M0 M) (hp : ActAt p) (hpl : p < 55 + 3 * ac) (hs : -2147483648 ≤ s ∧ s ≤ 2147483647) : nW xs (e + 1) 3 0 [some (2, p), some (0, s), some (2, 4), none, none] [] M (nPI fun z M1 => M = M1 ∧ (0 ≤ z ∧ z ≤ 1)) := by
  have hd : (2 : Int) = 2 ∨ (2 : Int) = 3 := by decide
  have hac := hS.2.2.2.2
  refine n_iconst c_3_0 ?_
  refine n_istore_n (L2 := [some (2, p), some (0, s), some (2, 4), some (0, 0), none]) c_3_1 rfl rfl ?_
  refine n_fg (le_s (le_s (le_s (le_s (le_n le_0))))) ?_
  exact (staysIn_2_c hS hp hpl hs 50).1 _ (by omega) (by omega)

set_option maxHeartbeats 4000000 in
theorem part0_0_2 {xs : List Int32} {e : Nat} {ac : Int} {M0 M : nM} (hS : Sf 2 ac M0 M)  : nW xs e 6 0 [some (0, 0), some (0, 0)] [] M (nPI fun z M1 => M = M1 ∧ (0 ≤ z ∧ z ≤ 0)) := by
  have hd : (2 : Int) = 2 ∨ (2 : Int) = 3 := by decide
  have hac := hS.2.2.2.2
  refine n_iload_n c_6_0 rfl ?_
  refine n_iconst c_6_1 ?_
  refine n_iload_n c_6_2 rfl ?_
  refine n_imul c_6_3 rfl ?_
  refine n_i_ishr (z := 0) c_6_4 (by decide) ?_
  refine n_iconst c_6_5 ?_
  refine n_i_iand (z := 0) c_6_6 (by decide) ?_
  exact n_rI c_6_7 rfl ⟨rfl, by omega⟩

set_option maxHeartbeats 4000000 in
theorem part0_1_2 {xs : List Int32} {e : Nat} {ac : Int} {M0 M : nM} (hS : Sf 2 ac M0 M)  : nW xs e 6 0 [some (0, 0), some (0, 1)] [] M (nPI fun z M1 => M = M1 ∧ (0 ≤ z ∧ z ≤ 0)) := by
  have hd : (2 : Int) = 2 ∨ (2 : Int) = 3 := by decide
  have hac := hS.2.2.2.2
  refine n_iload_n c_6_0 rfl ?_
  refine n_iconst c_6_1 ?_
  refine n_iload_n c_6_2 rfl ?_
  refine n_imul c_6_3 rfl ?_
  refine n_i_ishr (z := 0) c_6_4 (by decide) ?_
  refine n_iconst c_6_5 ?_
  refine n_i_iand (z := 0) c_6_6 (by decide) ?_
  exact n_rI c_6_7 rfl ⟨rfl, by omega⟩

set_option maxHeartbeats 4000000 in
theorem part0_2 {xs : List Int32} {e : Nat} {ac : Int} {M0 M : nM} {t : Int} (hS : Sf 2 ac M0 M) (ht : 0 ≤ t ∧ t ≤ 1) : nW xs e 6 0 [some (0, 0), some (0, t)] [] M (nPI fun z M1 => M = M1 ∧ (0 ≤ z ∧ z ≤ 1)) := by
  rcases (show t = 0 ∨ t = 1 by omega) with rfl | rfl
  · exact n_post (part0_0_2 hS ) (fun w M1 h => by obtain ⟨z, rfl, h1, h2⟩ := h; exact ⟨z, rfl, h1, by omega⟩)
  · exact n_post (part0_1_2 hS ) (fun w M1 h => by obtain ⟨z, rfl, h1, h2⟩ := h; exact ⟨z, rfl, h1, by omega⟩)

set_option maxHeartbeats 4000000 in
theorem keepsParts0_2_c {xs : List Int32} {e : Nat} {ac : Int} {M0 M : nM} {p : Int} (hS : Sf 2 ac M0 M) (hp : ActAt p) (hpl : p < 55 + 3 * ac) : ∀ nn : Nat, (∀ (x3 : Int), (0 ≤ x3 ∧ x3 ≤ 8) → (8 - x3) * 1 + 1 < (nn : Int) → nW xs (e + 1) 4 2 [some (2, p), some (0, 0), some (2, 4), some (0, x3), none] [] M (nPI fun z M1 => M = M1 ∧ (0 ≤ z ∧ z ≤ 1))) := by
  have hd : (2 : Int) = 2 ∨ (2 : Int) = 3 := by decide
  have hac := hS.2.2.2.2
  intro nn
  induction nn with
  | zero => intros; omega
  | succ nn ih =>
    intro x3 k3 hnn
    refine n_iload_n c_4_2 rfl ?_
    refine n_aload_n c_4_3 rfl ?_
    refine n_getV (bi := 1) c_4_4 hp.c0.1.n rfl rfl rfl (t_actl hS hp hpl).2 ?_
    intro z1 ez1 f2
    refine n_if2_ge c_4_7 (by omega) (by omega) ?_ ?_
    · intro h3
      refine n_iconst c_4_90 ?_
      exact n_rZ c_4_91 rfl (by omega) ⟨rfl, by omega⟩
    · intro h4
      refine n_iload_n c_4_10 rfl ?_
      refine n_aload_n c_4_11 rfl ?_
      refine n_getR c_4_12 sc_4.n rfl rfl rfl r_4_2 ?_
      refine n_iload_n c_4_15 rfl ?_
      refine n_ialoadV c_4_16 sc_5.n rfl rfl rfl (by omega) (t_5d hS hd (by omega) (by omega)) ?_
      intro z5 ez5 f6
      refine n_s2I c_4_17 rfl rfl rfl rfl (part0_2 (t := z5) hS (by omega)) ?_
      intro z7 M8 hP9
      obtain ⟨eM, f9⟩ := hP9
      subst eM
      refine n_aload_n c_4_20 rfl ?_
      refine n_getV (bi := 0) c_4_21 sc_4.n rfl rfl rfl (t_4_0 hS) ?_
      intro z10 ez10 f11
      obtain rfl : z10 = 2 := by omega
      refine n_imul c_4_24 rfl ?_
      refine n_iload_n c_4_25 rfl ?_
      refine n_aload_n c_4_26 rfl ?_
      refine n_getR c_4_27 sc_4.n rfl rfl rfl r_4_3 ?_
      refine n_iload_n c_4_30 rfl ?_
      refine n_ialoadV c_4_31 sc_6.n rfl rfl rfl (by omega) (t_6d hS hd (by omega) (by omega)) ?_
      intro z12 ez12 f13
      refine n_s2I c_4_32 rfl rfl rfl rfl (part0_2 (t := z12) hS (by omega)) ?_
      intro z14 M15 hP16
      obtain ⟨eM, f16⟩ := hP16
      subst eM
      refine n_iadd c_4_35 rfl ?_
      refine n_istore (L2 := [some (2, p), some (0, 0), some (2, 4), some (0, x3), some (0, ((z7 * 2) + z14))]) c_4_36 rfl rfl ?_
      refine n_iload c_4_38 rfl ?_
      refine n_aload_n c_4_40 rfl ?_
      refine n_getV (bi := 0) c_4_41 sc_4.n rfl rfl rfl (t_4_0 hS) ?_
      intro z17 ez17 f18
      obtain rfl : z17 = 2 := by omega
      refine n_imul c_4_44 rfl ?_
      refine n_iload_n c_4_45 rfl ?_
      refine n_aload_n c_4_46 rfl ?_
      refine n_getR c_4_47 sc_4.n rfl rfl rfl r_4_4 ?_
      refine n_iload_n c_4_50 rfl ?_
      refine n_ialoadV c_4_51 sc_7.n rfl rfl rfl (by omega) (t_7d hS hd (by omega) (by omega)) ?_
      intro z19 ez19 f20
      refine n_s2I c_4_52 rfl rfl rfl rfl (part0_2 (t := z19) hS (by omega)) ?_
      intro z21 M22 hP23
      obtain ⟨eM, f23⟩ := hP23
      subst eM
      refine n_iadd c_4_55 rfl ?_
      refine n_istore (L2 := [some (2, p), some (0, 0), some (2, 4), some (0, x3), some (0, ((((z7 * 2) + z14) * 2) + z21))]) c_4_56 rfl rfl ?_
      refine n_iload_n c_4_58 rfl ?_
      refine n_aload_n c_4_59 rfl ?_
      refine n_getR c_4_60 hp.c0.1.n rfl rfl rfl hp.r.1 ?_
      refine n_iload_n c_4_63 rfl ?_
      refine n_ialoadV c_4_64 hp.c0.2.1.n rfl rfl rfl (by omega) (t_actrl hS hp hpl (Or.inl rfl) (by omega) (by omega)) ?_
      intro z24 ez24 f25
      refine n_s2I c_4_65 rfl rfl rfl rfl (part0_2 (t := z24) hS (by omega)) ?_
      intro z26 M27 hP28
      obtain ⟨eM, f28⟩ := hP28
      subst eM
      refine n_iload_n c_4_68 rfl ?_
      refine n_aload_n c_4_69 rfl ?_
      refine n_getR c_4_70 hp.c0.1.n rfl rfl rfl hp.r.1 ?_
      refine n_iload c_4_73 rfl ?_
      refine n_ialoadV c_4_75 hp.c0.2.1.n rfl rfl rfl (by omega) (t_actrl hS hp hpl (Or.inl rfl) (by omega) (by omega)) ?_
      intro z29 ez29 f30
      refine n_s2I c_4_76 rfl rfl rfl rfl (part0_2 (t := z29) hS (by omega)) ?_
      intro z31 M32 hP33
      obtain ⟨eM, f33⟩ := hP33
      subst eM
      refine n_if2_eq c_4_79 (by omega) (by omega) ?_ ?_
      · intro h34
        refine n_iinc (L2 := [some (2, p), some (0, 0), some (2, 4), some (0, (x3 + 1)), some (0, ((((z7 * 2) + z14) * 2) + z21))]) c_4_84 rfl rfl rfl ?_
        refine n_goto c_4_87 ?_
        refine n_fg (le_s (le_s (le_s (le_s (le_n le_0))))) ?_
        exact ih _ (by omega) (by omega)
      · intro h35
        refine n_iconst c_4_82 ?_
        exact n_rZ c_4_83 rfl (by omega) ⟨rfl, by omega⟩
set_option maxHeartbeats 4000000 in
theorem keepsParts0_2 {xs : List Int32} {e : Nat} {ac : Int} {M0 M : nM} {p : Int} (hS : Sf 2 ac M0 M) (hp : ActAt p) (hpl : p < 55 + 3 * ac) : nW xs (e + 1) 4 0 [some (2, p), some (0, 0), some (2, 4), none, none] [] M (nPI fun z M1 => M = M1 ∧ (0 ≤ z ∧ z ≤ 1)) := by
  have hd : (2 : Int) = 2 ∨ (2 : Int) = 3 := by decide
  have hac := hS.2.2.2.2
  refine n_iconst c_4_0 ?_
  refine n_istore_n (L2 := [some (2, p), some (0, 0), some (2, 4), some (0, 0), none]) c_4_1 rfl rfl ?_
  refine n_fg (le_s (le_s (le_s (le_s (le_n le_0))))) ?_
  exact (keepsParts0_2_c hS hp hpl 30) _ (by omega) (by omega)

set_option maxHeartbeats 4000000 in
theorem part4_0_2 {xs : List Int32} {e : Nat} {ac : Int} {M0 M : nM} (hS : Sf 2 ac M0 M)  : nW xs e 6 0 [some (0, 4), some (0, 0)] [] M (nPI fun z M1 => M = M1 ∧ (0 ≤ z ∧ z ≤ 0)) := by
  have hd : (2 : Int) = 2 ∨ (2 : Int) = 3 := by decide
  have hac := hS.2.2.2.2
  refine n_iload_n c_6_0 rfl ?_
  refine n_iconst c_6_1 ?_
  refine n_iload_n c_6_2 rfl ?_
  refine n_imul c_6_3 rfl ?_
  refine n_i_ishr (z := 4) c_6_4 (by decide) ?_
  refine n_iconst c_6_5 ?_
  refine n_i_iand (z := 0) c_6_6 (by decide) ?_
  exact n_rI c_6_7 rfl ⟨rfl, by omega⟩

set_option maxHeartbeats 4000000 in
theorem part4_1_2 {xs : List Int32} {e : Nat} {ac : Int} {M0 M : nM} (hS : Sf 2 ac M0 M)  : nW xs e 6 0 [some (0, 4), some (0, 1)] [] M (nPI fun z M1 => M = M1 ∧ (1 ≤ z ∧ z ≤ 1)) := by
  have hd : (2 : Int) = 2 ∨ (2 : Int) = 3 := by decide
  have hac := hS.2.2.2.2
  refine n_iload_n c_6_0 rfl ?_
  refine n_iconst c_6_1 ?_
  refine n_iload_n c_6_2 rfl ?_
  refine n_imul c_6_3 rfl ?_
  refine n_i_ishr (z := 1) c_6_4 (by decide) ?_
  refine n_iconst c_6_5 ?_
  refine n_i_iand (z := 1) c_6_6 (by decide) ?_
  exact n_rI c_6_7 rfl ⟨rfl, by omega⟩

set_option maxHeartbeats 4000000 in
theorem part4_2 {xs : List Int32} {e : Nat} {ac : Int} {M0 M : nM} {t : Int} (hS : Sf 2 ac M0 M) (ht : 0 ≤ t ∧ t ≤ 1) : nW xs e 6 0 [some (0, 4), some (0, t)] [] M (nPI fun z M1 => M = M1 ∧ (0 ≤ z ∧ z ≤ 1)) := by
  rcases (show t = 0 ∨ t = 1 by omega) with rfl | rfl
  · exact n_post (part4_0_2 hS ) (fun w M1 h => by obtain ⟨z, rfl, h1, h2⟩ := h; exact ⟨z, rfl, h1, by omega⟩)
  · exact n_post (part4_1_2 hS ) (fun w M1 h => by obtain ⟨z, rfl, h1, h2⟩ := h; exact ⟨z, rfl, h1, by omega⟩)

set_option maxHeartbeats 4000000 in
theorem keepsParts4_2_c {xs : List Int32} {e : Nat} {ac : Int} {M0 M : nM} {p : Int} (hS : Sf 2 ac M0 M) (hp : ActAt p) (hpl : p < 55 + 3 * ac) : ∀ nn : Nat, (∀ (x3 : Int), (0 ≤ x3 ∧ x3 ≤ 8) → (8 - x3) * 1 + 1 < (nn : Int) → nW xs (e + 1) 4 2 [some (2, p), some (0, 4), some (2, 4), some (0, x3), none] [] M (nPI fun z M1 => M = M1 ∧ (0 ≤ z ∧ z ≤ 1))) := by
  have hd : (2 : Int) = 2 ∨ (2 : Int) = 3 := by decide
  have hac := hS.2.2.2.2
  intro nn
  induction nn with
  | zero => intros; omega
  | succ nn ih =>
    intro x3 k3 hnn
    refine n_iload_n c_4_2 rfl ?_
    refine n_aload_n c_4_3 rfl ?_
    refine n_getV (bi := 1) c_4_4 hp.c0.1.n rfl rfl rfl (t_actl hS hp hpl).2 ?_
    intro z1 ez1 f2
    refine n_if2_ge c_4_7 (by omega) (by omega) ?_ ?_
    · intro h3
      refine n_iconst c_4_90 ?_
      exact n_rZ c_4_91 rfl (by omega) ⟨rfl, by omega⟩
    · intro h4
      refine n_iload_n c_4_10 rfl ?_
      refine n_aload_n c_4_11 rfl ?_
      refine n_getR c_4_12 sc_4.n rfl rfl rfl r_4_2 ?_
      refine n_iload_n c_4_15 rfl ?_
      refine n_ialoadV c_4_16 sc_5.n rfl rfl rfl (by omega) (t_5d hS hd (by omega) (by omega)) ?_
      intro z5 ez5 f6
      refine n_s2I c_4_17 rfl rfl rfl rfl (part4_2 (t := z5) hS (by omega)) ?_
      intro z7 M8 hP9
      obtain ⟨eM, f9⟩ := hP9
      subst eM
      refine n_aload_n c_4_20 rfl ?_
      refine n_getV (bi := 0) c_4_21 sc_4.n rfl rfl rfl (t_4_0 hS) ?_
      intro z10 ez10 f11
      obtain rfl : z10 = 2 := by omega
      refine n_imul c_4_24 rfl ?_
      refine n_iload_n c_4_25 rfl ?_
      refine n_aload_n c_4_26 rfl ?_
      refine n_getR c_4_27 sc_4.n rfl rfl rfl r_4_3 ?_
      refine n_iload_n c_4_30 rfl ?_
      refine n_ialoadV c_4_31 sc_6.n rfl rfl rfl (by omega) (t_6d hS hd (by omega) (by omega)) ?_
      intro z12 ez12 f13
      refine n_s2I c_4_32 rfl rfl rfl rfl (part4_2 (t := z12) hS (by omega)) ?_
      intro z14 M15 hP16
      obtain ⟨eM, f16⟩ := hP16
      subst eM
      refine n_iadd c_4_35 rfl ?_
      refine n_istore (L2 := [some (2, p), some (0, 4), some (2, 4), some (0, x3), some (0, ((z7 * 2) + z14))]) c_4_36 rfl rfl ?_
      refine n_iload c_4_38 rfl ?_
      refine n_aload_n c_4_40 rfl ?_
      refine n_getV (bi := 0) c_4_41 sc_4.n rfl rfl rfl (t_4_0 hS) ?_
      intro z17 ez17 f18
      obtain rfl : z17 = 2 := by omega
      refine n_imul c_4_44 rfl ?_
      refine n_iload_n c_4_45 rfl ?_
      refine n_aload_n c_4_46 rfl ?_
      refine n_getR c_4_47 sc_4.n rfl rfl rfl r_4_4 ?_
      refine n_iload_n c_4_50 rfl ?_
      refine n_ialoadV c_4_51 sc_7.n rfl rfl rfl (by omega) (t_7d hS hd (by omega) (by omega)) ?_
      intro z19 ez19 f20
      refine n_s2I c_4_52 rfl rfl rfl rfl (part4_2 (t := z19) hS (by omega)) ?_
      intro z21 M22 hP23
      obtain ⟨eM, f23⟩ := hP23
      subst eM
      refine n_iadd c_4_55 rfl ?_
      refine n_istore (L2 := [some (2, p), some (0, 4), some (2, 4), some (0, x3), some (0, ((((z7 * 2) + z14) * 2) + z21))]) c_4_56 rfl rfl ?_
      refine n_iload_n c_4_58 rfl ?_
      refine n_aload_n c_4_59 rfl ?_
      refine n_getR c_4_60 hp.c0.1.n rfl rfl rfl hp.r.1 ?_
      refine n_iload_n c_4_63 rfl ?_
      refine n_ialoadV c_4_64 hp.c0.2.1.n rfl rfl rfl (by omega) (t_actrl hS hp hpl (Or.inl rfl) (by omega) (by omega)) ?_
      intro z24 ez24 f25
      refine n_s2I c_4_65 rfl rfl rfl rfl (part4_2 (t := z24) hS (by omega)) ?_
      intro z26 M27 hP28
      obtain ⟨eM, f28⟩ := hP28
      subst eM
      refine n_iload_n c_4_68 rfl ?_
      refine n_aload_n c_4_69 rfl ?_
      refine n_getR c_4_70 hp.c0.1.n rfl rfl rfl hp.r.1 ?_
      refine n_iload c_4_73 rfl ?_
      refine n_ialoadV c_4_75 hp.c0.2.1.n rfl rfl rfl (by omega) (t_actrl hS hp hpl (Or.inl rfl) (by omega) (by omega)) ?_
      intro z29 ez29 f30
      refine n_s2I c_4_76 rfl rfl rfl rfl (part4_2 (t := z29) hS (by omega)) ?_
      intro z31 M32 hP33
      obtain ⟨eM, f33⟩ := hP33
      subst eM
      refine n_if2_eq c_4_79 (by omega) (by omega) ?_ ?_
      · intro h34
        refine n_iinc (L2 := [some (2, p), some (0, 4), some (2, 4), some (0, (x3 + 1)), some (0, ((((z7 * 2) + z14) * 2) + z21))]) c_4_84 rfl rfl rfl ?_
        refine n_goto c_4_87 ?_
        refine n_fg (le_s (le_s (le_s (le_s (le_n le_0))))) ?_
        exact ih _ (by omega) (by omega)
      · intro h35
        refine n_iconst c_4_82 ?_
        exact n_rZ c_4_83 rfl (by omega) ⟨rfl, by omega⟩
set_option maxHeartbeats 4000000 in
theorem keepsParts4_2 {xs : List Int32} {e : Nat} {ac : Int} {M0 M : nM} {p : Int} (hS : Sf 2 ac M0 M) (hp : ActAt p) (hpl : p < 55 + 3 * ac) : nW xs (e + 1) 4 0 [some (2, p), some (0, 4), some (2, 4), none, none] [] M (nPI fun z M1 => M = M1 ∧ (0 ≤ z ∧ z ≤ 1)) := by
  have hd : (2 : Int) = 2 ∨ (2 : Int) = 3 := by decide
  have hac := hS.2.2.2.2
  refine n_iconst c_4_0 ?_
  refine n_istore_n (L2 := [some (2, p), some (0, 4), some (2, 4), some (0, 0), none]) c_4_1 rfl rfl ?_
  refine n_fg (le_s (le_s (le_s (le_s (le_n le_0))))) ?_
  exact (keepsParts4_2_c hS hp hpl 30) _ (by omega) (by omega)

set_option maxHeartbeats 4000000 in
theorem neverFalls_2_c {xs : List Int32} {e : Nat} {ac : Int} {M0 M : nM} {p : Int} (hS : Sf 2 ac M0 M) (hp : ActAt p) (hpl : p < 55 + 3 * ac) : ∀ nn : Nat, (∀ (x1 : Int), (0 ≤ x1 ∧ x1 ≤ 8) → (8 - x1) * 16 + 16 < (nn : Int) → nW xs e 7 2 [some (2, p), some (0, x1), none] [] M (nPI fun z M1 => M = M1 ∧ (0 ≤ z ∧ z ≤ 1))) ∧ (∀ (x1 x2 : Int), (0 ≤ x1 ∧ x1 ≤ 7) → (1 ≤ x2 ∧ x2 ≤ 14) → (8 - x1) * 16 + (14 - x2) * 1 + 1 < (nn : Int) → nW xs e 7 12 [some (2, p), some (0, x1), some (0, x2)] [] M (nPI fun z M1 => M = M1 ∧ (0 ≤ z ∧ z ≤ 1))) := by
  have hd : (2 : Int) = 2 ∨ (2 : Int) = 3 := by decide
  have hac := hS.2.2.2.2
  intro nn
  induction nn with
  | zero => refine ⟨?_, ?_⟩ <;> (intros; omega)
  | succ nn ih =>
    refine ⟨?_, ?_⟩
    · intro x1 k1 hnn
      refine n_iload_n c_7_2 rfl ?_
      refine n_aload_n c_7_3 rfl ?_
      refine n_getV (bi := 1) c_7_4 hp.c0.1.n rfl rfl rfl (t_actl hS hp hpl).2 ?_
      intro z1 ez1 f2
      refine n_if2_ge c_7_7 (by omega) (by omega) ?_ ?_
      · intro h3
        refine n_iconst c_7_52 ?_
        exact n_rZ c_7_53 rfl (by omega) ⟨rfl, by omega⟩
      · intro h4
        refine n_iconst c_7_10 ?_
        refine n_istore_n (L2 := [some (2, p), some (0, x1), some (0, 1)]) c_7_11 rfl rfl ?_
        refine n_fg (le_s (le_s (le_s le_0))) ?_
        exact ih.2 _ _ (by omega) (by omega) (by omega)
    · intro x1 x2 k1 k2 hnn
      refine n_iload_n c_7_12 rfl ?_
      refine n_aload_n c_7_13 rfl ?_
      refine n_getV (bi := 1) c_7_14 hp.c0.1.n rfl rfl rfl (t_actl hS hp hpl).2 ?_
      intro z1 ez1 f2
      refine n_if2_ge c_7_17 (by omega) (by omega) ?_ ?_
      · intro h3
        refine n_iinc (L2 := [some (2, p), some (0, (x1 + 1)), some (0, x2)]) c_7_46 rfl rfl rfl ?_
        refine n_goto c_7_49 ?_
        refine n_fg (le_s (le_s (le_n le_0))) ?_
        exact ih.1 _ (by omega) (by omega)
      · intro h4
        refine n_aload_n c_7_20 rfl ?_
        refine n_getR c_7_21 hp.c0.1.n rfl rfl rfl hp.r.1 ?_
        refine n_iload_n c_7_24 rfl ?_
        refine n_ialoadV c_7_25 hp.c0.2.1.n rfl rfl rfl (by omega) (t_actrl hS hp hpl (Or.inl rfl) (by omega) (by omega)) ?_
        intro z5 ez5 f6
        refine n_aload_n c_7_26 rfl ?_
        refine n_getR c_7_27 hp.c0.1.n rfl rfl rfl hp.r.1 ?_
        refine n_iload_n c_7_30 rfl ?_
        refine n_iload_n c_7_31 rfl ?_
        refine n_i_ior c_7_32 rfl ?_
        have f7 := n_or_k (x := x1) (y := x2) (n := 3) (by decide) (by omega) (by omega)
        generalize (n_or x1 x2) = z8 at f7 ⊢
        refine n_ialoadV c_7_33 hp.c0.2.1.n rfl rfl rfl (by omega) (t_actrl hS hp hpl (Or.inl rfl) (by omega) (by omega)) ?_
        intro z9 ez9 f10
        refine n_if2_le c_7_34 (by omega) (by omega) ?_ ?_
        · intro h11
          refine n_iload_n c_7_39 rfl ?_
          refine n_iconst c_7_40 ?_
          refine n_imul c_7_41 rfl ?_
          refine n_istore_n (L2 := [some (2, p), some (0, x1), some (0, (x2 * 2))]) c_7_42 rfl rfl ?_
          refine n_goto c_7_43 ?_
          refine n_fg (le_s (le_s (le_s le_0))) ?_
          exact ih.2 _ _ (by omega) (by omega) (by omega)
        · intro h12
          refine n_iconst c_7_37 ?_
          exact n_rZ c_7_38 rfl (by omega) ⟨rfl, by omega⟩
set_option maxHeartbeats 4000000 in
theorem neverFalls_2 {xs : List Int32} {e : Nat} {ac : Int} {M0 M : nM} {p : Int} (hS : Sf 2 ac M0 M) (hp : ActAt p) (hpl : p < 55 + 3 * ac) : nW xs e 7 0 [some (2, p), none, none] [] M (nPI fun z M1 => M = M1 ∧ (0 ≤ z ∧ z ≤ 1)) := by
  have hd : (2 : Int) = 2 ∨ (2 : Int) = 3 := by decide
  have hac := hS.2.2.2.2
  refine n_iconst c_7_0 ?_
  refine n_istore_n (L2 := [some (2, p), some (0, 0), none]) c_7_1 rfl rfl ?_
  refine n_fg (le_s (le_s (le_n le_0))) ?_
  exact (neverFalls_2_c hS hp hpl 330).1 _ (by omega) (by omega)

set_option maxHeartbeats 4000000 in
theorem turnsOver_2_c {xs : List Int32} {e : Nat} {ac : Int} {M0 M : nM} {p : Int} (hS : Sf 2 ac M0 M) (hp : ActAt p) (hpl : p < 55 + 3 * ac) : ∀ nn : Nat, (∀ (x1 : Int), (0 ≤ x1 ∧ x1 ≤ 8) → (8 - x1) * 1 + 1 < (nn : Int) → nW xs e 8 2 [some (2, p), some (0, x1)] [] M (nPI fun z M1 => M = M1 ∧ (0 ≤ z ∧ z ≤ 1))) := by
  have hd : (2 : Int) = 2 ∨ (2 : Int) = 3 := by decide
  have hac := hS.2.2.2.2
  intro nn
  induction nn with
  | zero => intros; omega
  | succ nn ih =>
    intro x1 k1 hnn
    refine n_iload_n c_8_2 rfl ?_
    refine n_aload_n c_8_3 rfl ?_
    refine n_getV (bi := 1) c_8_4 hp.c0.1.n rfl rfl rfl (t_actl hS hp hpl).2 ?_
    intro z1 ez1 f2
    refine n_if2_ge c_8_7 (by omega) (by omega) ?_ ?_
    · intro h3
      refine n_iconst c_8_40 ?_
      exact n_rZ c_8_41 rfl (by omega) ⟨rfl, by omega⟩
    · intro h4
      refine n_aload_n c_8_10 rfl ?_
      refine n_getR c_8_11 hp.c0.1.n rfl rfl rfl hp.r.1 ?_
      refine n_iload_n c_8_14 rfl ?_
      refine n_ialoadV c_8_15 hp.c0.2.1.n rfl rfl rfl (by omega) (t_actrl hS hp hpl (Or.inl rfl) (by omega) (by omega)) ?_
      intro z5 ez5 f6
      refine n_aload_n c_8_16 rfl ?_
      refine n_getR c_8_17 hp.c0.1.n rfl rfl rfl hp.r.1 ?_
      refine n_aload_n c_8_20 rfl ?_
      refine n_getV (bi := 1) c_8_21 hp.c0.1.n rfl rfl rfl (t_actl hS hp hpl).2 ?_
      intro z7 ez7 f8
      refine n_iconst c_8_24 ?_
      refine n_isub c_8_25 rfl ?_
      refine n_iload_n c_8_26 rfl ?_
      refine n_isub c_8_27 rfl ?_
      refine n_ialoadV c_8_28 hp.c0.2.1.n rfl rfl rfl (by omega) (t_actrl hS hp hpl (Or.inl rfl) (by omega) (by omega)) ?_
      intro z9 ez9 f10
      refine n_if2_ne c_8_29 (by omega) (by omega) ?_ ?_
      · intro h11
        refine n_iinc (L2 := [some (2, p), some (0, (x1 + 1))]) c_8_34 rfl rfl rfl ?_
        refine n_goto c_8_37 ?_
        refine n_fg (le_s (le_s le_0)) ?_
        exact ih _ (by omega) (by omega)
      · intro h12
        refine n_iconst c_8_32 ?_
        exact n_rZ c_8_33 rfl (by omega) ⟨rfl, by omega⟩
set_option maxHeartbeats 4000000 in
theorem turnsOver_2 {xs : List Int32} {e : Nat} {ac : Int} {M0 M : nM} {p : Int} (hS : Sf 2 ac M0 M) (hp : ActAt p) (hpl : p < 55 + 3 * ac) : nW xs e 8 0 [some (2, p), none] [] M (nPI fun z M1 => M = M1 ∧ (0 ≤ z ∧ z ≤ 1)) := by
  have hd : (2 : Int) = 2 ∨ (2 : Int) = 3 := by decide
  have hac := hS.2.2.2.2
  refine n_iconst c_8_0 ?_
  refine n_istore_n (L2 := [some (2, p), some (0, 0)]) c_8_1 rfl rfl ?_
  refine n_fg (le_s (le_s le_0)) ?_
  exact (turnsOver_2_c hS hp hpl 30) _ (by omega) (by omega)

set_option maxHeartbeats 4000000 in
theorem isSum_2_c {xs : List Int32} {e : Nat} {ac : Int} {M0 M : nM} {p : Int} (hS : Sf 2 ac M0 M) (hp : ActAt p) (hpl : p < 55 + 3 * ac) : ∀ nn : Nat, (∀ (x1 : Int), (0 ≤ x1 ∧ x1 ≤ 8) → (8 - x1) * 31 + 31 < (nn : Int) → nW xs e 9 2 [some (2, p), some (0, x1), none, none] [] M (nPI fun z M1 => M = M1 ∧ (0 ≤ z ∧ z ≤ 1))) ∧ (∀ (x1 x2 x3 : Int), (0 ≤ x1 ∧ x1 ≤ 7) → (0 ≤ x2 ∧ x2 ≤ 1) → (1 ≤ x3 ∧ x3 ≤ 14) → (8 - x1) * 31 + (14 - x3) * 2 + 2 < (nn : Int) → nW xs e 9 19 [some (2, p), some (0, x1), some (0, x2), some (0, x3)] [] M (nPI fun z M1 => M = M1 ∧ (0 ≤ z ∧ z ≤ 1))) ∧ (∀ (x1 x2 x3 : Int), (0 ≤ x1 ∧ x1 ≤ 7) → (0 ≤ x2 ∧ x2 ≤ 1) → (1 ≤ x3 ∧ x3 ≤ 7) → (8 - x1) * 31 + (14 - x3) * 2 + 1 < (nn : Int) → nW xs e 9 49 [some (2, p), some (0, x1), some (0, x2), some (0, x3)] [] M (nPI fun z M1 => M = M1 ∧ (0 ≤ z ∧ z ≤ 1))) := by
  have hd : (2 : Int) = 2 ∨ (2 : Int) = 3 := by decide
  have hac := hS.2.2.2.2
  intro nn
  induction nn with
  | zero => refine ⟨?_, ?_, ?_⟩ <;> (intros; omega)
  | succ nn ih =>
    refine ⟨?_, ?_, ?_⟩
    · intro x1 k1 hnn
      refine n_iload_n c_9_2 rfl ?_
      refine n_aload_n c_9_3 rfl ?_
      refine n_getV (bi := 1) c_9_4 hp.c0.1.n rfl rfl rfl (t_actl hS hp hpl).2 ?_
      intro z1 ez1 f2
      refine n_if2_ge c_9_7 (by omega) (by omega) ?_ ?_
      · intro h3
        refine n_iconst c_9_74 ?_
        exact n_rZ c_9_75 rfl (by omega) ⟨rfl, by omega⟩
      · intro h4
        refine n_aload_n c_9_10 rfl ?_
        refine n_getR c_9_11 hp.c0.1.n rfl rfl rfl hp.r.1 ?_
        refine n_iconst c_9_14 ?_
        refine n_ialoadV c_9_15 hp.c0.2.1.n rfl rfl rfl (by omega) (t_actrl hS hp hpl (Or.inl rfl) (by omega) (by omega)) ?_
        intro z5 ez5 f6
        refine n_istore_n (L2 := [some (2, p), some (0, x1), some (0, z5), none]) c_9_16 rfl rfl ?_
        refine n_iconst c_9_17 ?_
        refine n_istore_n (L2 := [some (2, p), some (0, x1), some (0, z5), some (0, 1)]) c_9_18 rfl rfl ?_
        refine n_fg (le_s (le_s (le_s (le_s le_0)))) ?_
        exact ih.2.1 _ _ _ (by omega) (by omega) (by omega) (by omega)
    · intro x1 x2 x3 k1 k2 k3 hnn
      refine n_iload_n c_9_19 rfl ?_
      refine n_aload_n c_9_20 rfl ?_
      refine n_getV (bi := 1) c_9_21 hp.c0.1.n rfl rfl rfl (t_actl hS hp hpl).2 ?_
      intro z1 ez1 f2
      refine n_if2_ge c_9_24 (by omega) (by omega) ?_ ?_
      · intro h3
        refine n_iload_n c_9_56 rfl ?_
        refine n_aload_n c_9_57 rfl ?_
        refine n_getR c_9_58 hp.c0.1.n rfl rfl rfl hp.r.1 ?_
        refine n_iload_n c_9_61 rfl ?_
        refine n_ialoadV c_9_62 hp.c0.2.1.n rfl rfl rfl (by omega) (t_actrl hS hp hpl (Or.inl rfl) (by omega) (by omega)) ?_
        intro z4 ez4 f5
        refine n_if2_eq c_9_63 (by omega) (by omega) ?_ ?_
        · intro h6
          refine n_iinc (L2 := [some (2, p), some (0, (x1 + 1)), some (0, x2), some (0, x3)]) c_9_68 rfl rfl rfl ?_
          refine n_goto c_9_71 ?_
          refine n_fg (le_s (le_s (le_n (le_n le_0)))) ?_
          exact ih.1 _ (by omega) (by omega)
        · intro h7
          refine n_iconst c_9_66 ?_
          exact n_rZ c_9_67 rfl (by omega) ⟨rfl, by omega⟩
      · intro h8
        refine n_iload_n c_9_27 rfl ?_
        refine n_iload_n c_9_28 rfl ?_
        refine n_i_iand c_9_29 rfl ?_
        have f9 := n_and_y (x := x1) (y := x3) (by omega)
        generalize (n_and x1 x3) = z10 at f9 ⊢
        refine n_if0_eq c_9_30 (by omega) ?_ ?_
        · intro h11
          refine n_fg (le_s (le_s (le_s (le_s le_0)))) ?_
          exact ih.2.2 _ _ _ (by omega) (by omega) (by omega) (by omega)
        · intro h12
          refine n_iload_n c_9_33 rfl ?_
          refine n_aload_n c_9_34 rfl ?_
          refine n_getR c_9_35 hp.c0.1.n rfl rfl rfl hp.r.1 ?_
          refine n_iload_n c_9_38 rfl ?_
          refine n_ialoadV c_9_39 hp.c0.2.1.n rfl rfl rfl (by omega) (t_actrl hS hp hpl (Or.inl rfl) (by omega) (by omega)) ?_
          intro z13 ez13 f14
          refine n_aload_n c_9_40 rfl ?_
          refine n_getR c_9_41 hp.c0.1.n rfl rfl rfl hp.r.1 ?_
          refine n_iconst c_9_44 ?_
          refine n_ialoadV c_9_45 hp.c0.2.1.n rfl rfl rfl (by omega) (t_actrl hS hp hpl (Or.inl rfl) (by omega) (by omega)) ?_
          intro z15 ez15 f16
          refine n_i_ixor c_9_46 rfl ?_
          have f17 := n_xor_1 (x := z13) (y := z15) (by omega) (by omega)
          generalize (n_xor z13 z15) = z18 at f17 ⊢
          refine n_i_ixor c_9_47 rfl ?_
          have f19 := n_xor_1 (x := x2) (y := z18) (by omega) (by omega)
          generalize (n_xor x2 z18) = z20 at f19 ⊢
          refine n_istore_n (L2 := [some (2, p), some (0, x1), some (0, z20), some (0, x3)]) c_9_48 rfl rfl ?_
          refine n_fg (le_s (le_s (le_s (le_s le_0)))) ?_
          exact ih.2.2 _ _ _ (by omega) (by omega) (by omega) (by omega)
    · intro x1 x2 x3 k1 k2 k3 hnn
      refine n_iload_n c_9_49 rfl ?_
      refine n_iconst c_9_50 ?_
      refine n_imul c_9_51 rfl ?_
      refine n_istore_n (L2 := [some (2, p), some (0, x1), some (0, x2), some (0, (x3 * 2))]) c_9_52 rfl rfl ?_
      refine n_goto c_9_53 ?_
      refine n_fg (le_s (le_s (le_s (le_s le_0)))) ?_
      exact ih.2.1 _ _ _ (by omega) (by omega) (by omega) (by omega)
set_option maxHeartbeats 4000000 in
theorem isSum_2 {xs : List Int32} {e : Nat} {ac : Int} {M0 M : nM} {p : Int} (hS : Sf 2 ac M0 M) (hp : ActAt p) (hpl : p < 55 + 3 * ac) : nW xs e 9 0 [some (2, p), none, none, none] [] M (nPI fun z M1 => M = M1 ∧ (0 ≤ z ∧ z ≤ 1)) := by
  have hd : (2 : Int) = 2 ∨ (2 : Int) = 3 := by decide
  have hac := hS.2.2.2.2
  refine n_iconst c_9_0 ?_
  refine n_istore_n (L2 := [some (2, p), some (0, 0), none, none]) c_9_1 rfl rfl ?_
  refine n_fg (le_s (le_s (le_n (le_n le_0)))) ?_
  exact (isSum_2_c hS hp hpl 630).1 _ (by omega) (by omega)

set_option maxHeartbeats 4000000 in
theorem signBits_2_c {xs : List Int32} {e : Nat} {ac : Int} {M0 M : nM} {p : Int} (hS : Sf 2 ac M0 M) (hp : ActAt p) (hpl : p < 55 + 3 * ac) : ∀ nn : Nat, (∀ (x1 : Int), (0 ≤ x1 ∧ x1 ≤ 1) → 5 < (nn : Int) → nW xs (e + 1) 5 15 [some (2, p), some (0, x1)] [] M (nPI fun z M1 => M = M1 ∧ (-2147483648 ≤ z ∧ z ≤ 2147483647))) ∧ (∀ (x1 : Int), (0 ≤ x1 ∧ x1 ≤ 3) → 4 < (nn : Int) → nW xs (e + 1) 5 34 [some (2, p), some (0, x1)] [] M (nPI fun z M1 => M = M1 ∧ (-2147483648 ≤ z ∧ z ≤ 2147483647))) ∧ (∀ (x1 : Int), (0 ≤ x1 ∧ x1 ≤ 7) → 3 < (nn : Int) → nW xs (e + 1) 5 45 [some (2, p), some (0, x1)] [] M (nPI fun z M1 => M = M1 ∧ (-2147483648 ≤ z ∧ z ≤ 2147483647))) ∧ (∀ (x1 : Int), (0 ≤ x1 ∧ x1 ≤ 15) → 2 < (nn : Int) → nW xs (e + 1) 5 57 [some (2, p), some (0, x1)] [] M (nPI fun z M1 => M = M1 ∧ (-2147483648 ≤ z ∧ z ≤ 2147483647))) ∧ (∀ (x1 : Int), (0 ≤ x1 ∧ x1 ≤ 31) → 1 < (nn : Int) → nW xs (e + 1) 5 69 [none, some (0, x1)] [] M (nPI fun z M1 => M = M1 ∧ (-2147483648 ≤ z ∧ z ≤ 2147483647))) := by
  have hd : (2 : Int) = 2 ∨ (2 : Int) = 3 := by decide
  have hac := hS.2.2.2.2
  intro nn
  induction nn with
  | zero => refine ⟨?_, ?_, ?_, ?_, ?_⟩ <;> (intros; omega)
  | succ nn ih =>
    refine ⟨?_, ?_, ?_, ?_, ?_⟩
    · intro x1 k1 hnn
      refine n_aload_n c_5_15 rfl ?_
      refine n_getR c_5_16 hp.c0.1.n rfl rfl rfl hp.r.1 ?_
      refine n_aload_n c_5_19 rfl ?_
      refine n_getV (bi := 1) c_5_20 hp.c0.1.n rfl rfl rfl (t_actl hS hp hpl).2 ?_
      intro z1 ez1 f2
      refine n_iconst c_5_23 ?_
      refine n_isub c_5_24 rfl ?_
      refine n_ialoadV c_5_25 hp.c0.2.1.n rfl rfl rfl (by omega) (t_actrl hS hp hpl (Or.inl rfl) (by omega) (by omega)) ?_
      intro z3 ez3 f4
      refine n_iconst c_5_26 ?_
      refine n_if2_ne c_5_27 (by omega) (by omega) ?_ ?_
      · intro h5
        refine n_fg (le_s (le_s le_0)) ?_
        exact ih.2.1 _ (by omega) (by omega)
      · intro h6
        refine n_iload_n c_5_30 rfl ?_
        refine n_iconst c_5_31 ?_
        refine n_i_ior c_5_32 rfl ?_
        have f7 := n_or_k (x := x1) (y := 2) (n := 2) (by decide) (by omega) (by omega)
        generalize (n_or x1 2) = z8 at f7 ⊢
        refine n_istore_n (L2 := [some (2, p), some (0, z8)]) c_5_33 rfl rfl ?_
        refine n_fg (le_s (le_s le_0)) ?_
        exact ih.2.1 _ (by omega) (by omega)
    · intro x1 k1 hnn
      refine n_aload_n c_5_34 rfl ?_
      refine n_v0I c_5_35 rfl hp.c0.1.n rfl rfl rfl rfl (neverFalls_2 (p := p) hS hp hpl) ?_
      intro z1 M2 hP3
      obtain ⟨eM, f3⟩ := hP3
      subst eM
      refine n_if0_eq c_5_38 (by omega) ?_ ?_
      · intro h4
        refine n_fg (le_s (le_s le_0)) ?_
        exact ih.2.2.1 _ (by omega) (by omega)
      · intro h5
        refine n_iload_n c_5_41 rfl ?_
        refine n_iconst c_5_42 ?_
        refine n_i_ior c_5_43 rfl ?_
        have f6 := n_or_k (x := x1) (y := 4) (n := 3) (by decide) (by omega) (by omega)
        generalize (n_or x1 4) = z7 at f6 ⊢
        refine n_istore_n (L2 := [some (2, p), some (0, z7)]) c_5_44 rfl rfl ?_
        refine n_fg (le_s (le_s le_0)) ?_
        exact ih.2.2.1 _ (by omega) (by omega)
    · intro x1 k1 hnn
      refine n_aload_n c_5_45 rfl ?_
      refine n_v0I c_5_46 rfl hp.c0.1.n rfl rfl rfl rfl (turnsOver_2 (p := p) hS hp hpl) ?_
      intro z1 M2 hP3
      obtain ⟨eM, f3⟩ := hP3
      subst eM
      refine n_if0_eq c_5_49 (by omega) ?_ ?_
      · intro h4
        refine n_fg (le_s (le_s le_0)) ?_
        exact ih.2.2.2.1 _ (by omega) (by omega)
      · intro h5
        refine n_iload_n c_5_52 rfl ?_
        refine n_bipush c_5_53 rfl ?_
        refine n_i_ior c_5_55 rfl ?_
        have f6 := n_or_k (x := x1) (y := 8) (n := 4) (by decide) (by omega) (by omega)
        generalize (n_or x1 8) = z7 at f6 ⊢
        refine n_istore_n (L2 := [some (2, p), some (0, z7)]) c_5_56 rfl rfl ?_
        refine n_fg (le_s (le_s le_0)) ?_
        exact ih.2.2.2.1 _ (by omega) (by omega)
    · intro x1 k1 hnn
      refine n_aload_n c_5_57 rfl ?_
      refine n_v0I c_5_58 rfl hp.c0.1.n rfl rfl rfl rfl (isSum_2 (p := p) hS hp hpl) ?_
      intro z1 M2 hP3
      obtain ⟨eM, f3⟩ := hP3
      subst eM
      refine n_if0_eq c_5_61 (by omega) ?_ ?_
      · intro h4
        refine n_fg (le_n (le_s le_0)) ?_
        exact ih.2.2.2.2 _ (by omega) (by omega)
      · intro h5
        refine n_iload_n c_5_64 rfl ?_
        refine n_bipush c_5_65 rfl ?_
        refine n_i_ior c_5_67 rfl ?_
        have f6 := n_or_k (x := x1) (y := 16) (n := 5) (by decide) (by omega) (by omega)
        generalize (n_or x1 16) = z7 at f6 ⊢
        refine n_istore_n (L2 := [some (2, p), some (0, z7)]) c_5_68 rfl rfl ?_
        refine n_fg (le_n (le_s le_0)) ?_
        exact ih.2.2.2.2 _ (by omega) (by omega)
    · intro x1 k1 hnn
      refine n_iload_n c_5_69 rfl ?_
      exact n_rI c_5_70 rfl ⟨rfl, by omega⟩
set_option maxHeartbeats 4000000 in
theorem signBits_2 {xs : List Int32} {e : Nat} {ac : Int} {M0 M : nM} {p : Int} (hS : Sf 2 ac M0 M) (hp : ActAt p) (hpl : p < 55 + 3 * ac) : nW xs (e + 1) 5 0 [some (2, p), none] [] M (nPI fun z M1 => M = M1 ∧ (-2147483648 ≤ z ∧ z ≤ 2147483647)) := by
  have hd : (2 : Int) = 2 ∨ (2 : Int) = 3 := by decide
  have hac := hS.2.2.2.2
  refine n_iconst c_5_0 ?_
  refine n_istore_n (L2 := [some (2, p), some (0, 0)]) c_5_1 rfl rfl ?_
  refine n_aload_n c_5_2 rfl ?_
  refine n_getR c_5_3 hp.c0.1.n rfl rfl rfl hp.r.1 ?_
  refine n_iconst c_5_6 ?_
  refine n_ialoadV c_5_7 hp.c0.2.1.n rfl rfl rfl (by omega) (t_actrl hS hp hpl (Or.inl rfl) (by omega) (by omega)) ?_
  intro z1 ez1 f2
  refine n_if0_ne c_5_8 (by omega) ?_ ?_
  · intro h3
    refine n_fg (le_s (le_s le_0)) ?_
    exact (signBits_2_c hS hp hpl 20).1 _ (by omega) (by omega)
  · intro h4
    refine n_iload_n c_5_11 rfl ?_
    refine n_iconst c_5_12 ?_
    refine n_i_ior (z := 1) c_5_13 (by decide) ?_
    refine n_istore_n (L2 := [some (2, p), some (0, 1)]) c_5_14 rfl rfl ?_
    refine n_fg (le_s (le_s le_0)) ?_
    exact (signBits_2_c hS hp hpl 20).1 _ (by omega) (by omega)

set_option maxHeartbeats 4000000 in
theorem fillLT_2_c {xs : List Int32} {e : Nat} {ac : Int} {M0 M : nM} {p i j : Int} (hS : Sf 2 ac M0 M) (hp : ActAt p) (hpl : p < 55 + 3 * ac) (hi : 0 ≤ i ∧ i ≤ 26) (hj : 0 ≤ j ∧ j ≤ 26) : ∀ nn : Nat, (∀ (x5 x6 x7 x8 x9 x10 : Int) (M : nM), Sf 2 ac M0 M → (2 ≤ x5 ∧ x5 ≤ 2) → (0 ≤ x6 ∧ x6 ≤ 12) → (0 ≤ x7 ∧ x7 ≤ 12) → (0 ≤ x8 ∧ x8 ≤ 12) → (0 ≤ x9 ∧ x9 ≤ 8) → (0 ≤ x10 ∧ x10 ≤ 2) → (x9 = 4 * x10) → (2 - x10) * 21 + 21 < (nn : Int) → nW xs e 45 86 [some (2, 52), none, some (2, (p + 1)), none, none, some (0, x5), some (0, x6), some (0, x7), some (0, x8), some (0, x9), some (0, x10), none, none, none, none] [] M (nPV fun M1 => Sf 2 ac M0 M1)) ∧ (∀ (x5 x6 x7 x8 x9 x10 x11 x12 : Int) (M : nM), Sf 2 ac M0 M → (2 ≤ x5 ∧ x5 ≤ 2) → (0 ≤ x6 ∧ x6 ≤ 12) → (0 ≤ x7 ∧ x7 ≤ 12) → (0 ≤ x8 ∧ x8 ≤ 12) → (0 ≤ x9 ∧ x9 ≤ 8) → (0 ≤ x10 ∧ x10 ≤ 1) → (0 ≤ x11 ∧ x11 ≤ 8) → (0 ≤ x12 ∧ x12 ≤ 2) → (x9 = 4 * x10 + 2 * x12) → (2 - x10) * 21 + (2 - x12) * 5 + 5 < (nn : Int) → nW xs e 45 110 [some (2, 52), none, some (2, (p + 1)), none, none, some (0, x5), some (0, x6), some (0, x7), some (0, x8), some (0, x9), some (0, x10), some (0, x11), some (0, x12), none, none] [] M (nPV fun M1 => Sf 2 ac M0 M1)) ∧ (∀ (x5 x6 x7 x8 x9 x10 x11 x12 x13 x14 : Int) (M : nM), Sf 2 ac M0 M → (2 ≤ x5 ∧ x5 ≤ 2) → (0 ≤ x6 ∧ x6 ≤ 12) → (0 ≤ x7 ∧ x7 ≤ 12) → (0 ≤ x8 ∧ x8 ≤ 12) → (0 ≤ x9 ∧ x9 ≤ 8) → (0 ≤ x10 ∧ x10 ≤ 1) → (0 ≤ x11 ∧ x11 ≤ 8) → (0 ≤ x12 ∧ x12 ≤ 1) → (0 ≤ x13 ∧ x13 ≤ 12) → (0 ≤ x14 ∧ x14 ≤ 2) → (x9 = 4 * x10 + 2 * x12 + x14) → (2 - x10) * 21 + (2 - x12) * 5 + (2 - x14) * 1 + 1 < (nn : Int) → nW xs e 45 137 [some (2, 52), none, some (2, (p + 1)), none, none, some (0, x5), some (0, x6), some (0, x7), some (0, x8), some (0, x9), some (0, x10), some (0, x11), some (0, x12), some (0, x13), some (0, x14)] [] M (nPV fun M1 => Sf 2 ac M0 M1)) := by
  have hd : (2 : Int) = 2 ∨ (2 : Int) = 3 := by decide
  have hac := hS.2.2.2.2
  intro nn
  induction nn with
  | zero => refine ⟨?_, ?_, ?_⟩ <;> (intros; omega)
  | succ nn ih =>
    refine ⟨?_, ?_, ?_⟩
    · intro x5 x6 x7 x8 x9 x10 M hS k5 k6 k7 k8 k9 k10 v0 hnn
      refine n_iload c_45_86 rfl ?_
      refine n_iload c_45_88 rfl ?_
      refine n_if2_ge c_45_90 (by omega) (by omega) ?_ ?_
      · intro h1
        exact n_rV c_45_187 rfl hS
      · intro h2
        refine n_aload_n c_45_93 rfl ?_
        refine n_iload c_45_94 rfl ?_
        refine n_iload c_45_96 rfl ?_
        refine n_iadd c_45_98 rfl ?_
        refine n_ialoadV c_45_99 hp.c0.2.1.n rfl rfl rfl (by omega) (t_actr hS hd hp (Or.inl rfl) (by omega)) ?_
        intro z3 ez3 f4
        refine n_aload_n c_45_100 rfl ?_
        refine n_getV (bi := 1) c_45_101 sc_52.n rfl rfl rfl (t_52_1 hS) ?_
        intro z5 ez5 f6
        obtain rfl : z5 = 4 := by omega
        refine n_imul c_45_104 rfl ?_
        refine n_istore (L2 := [some (2, 52), none, some (2, (p + 1)), none, none, some (0, x5), some (0, x6), some (0, x7), some (0, x8), some (0, x9), some (0, x10), some (0, (z3 * 4)), none, none, none]) c_45_105 rfl rfl ?_
        refine n_iconst c_45_107 ?_
        refine n_istore (L2 := [some (2, 52), none, some (2, (p + 1)), none, none, some (0, x5), some (0, x6), some (0, x7), some (0, x8), some (0, x9), some (0, x10), some (0, (z3 * 4)), some (0, 0), none, none]) c_45_108 rfl rfl ?_
        refine n_fg (le_s (le_n (le_s (le_n (le_n (le_s (le_s (le_s (le_s (le_s (le_s (le_s (le_s (le_n (le_n le_0))))))))))))))) ?_
        exact ih.2.1 _ _ _ _ _ _ _ _ M hS (by omega) (by omega) (by omega) (by omega) (by omega) (by omega) (by omega) (by omega) (by omega) (by omega)
    · intro x5 x6 x7 x8 x9 x10 x11 x12 M hS k5 k6 k7 k8 k9 k10 k11 k12 v0 hnn
      refine n_iload c_45_110 rfl ?_
      refine n_iload c_45_112 rfl ?_
      refine n_if2_ge c_45_114 (by omega) (by omega) ?_ ?_
      · intro h1
        refine n_iinc (L2 := [some (2, 52), none, some (2, (p + 1)), none, none, some (0, x5), some (0, x6), some (0, x7), some (0, x8), some (0, x9), some (0, (x10 + 1)), some (0, x11), some (0, x12), none, none]) c_45_181 rfl rfl rfl ?_
        refine n_goto c_45_184 ?_
        refine n_fg (le_s (le_n (le_s (le_n (le_n (le_s (le_s (le_s (le_s (le_s (le_s (le_n (le_n (le_n (le_n le_0))))))))))))))) ?_
        exact ih.1 _ _ _ _ _ _ M hS (by omega) (by omega) (by omega) (by omega) (by omega) (by omega) (by omega) (by omega)
      · intro h2
        refine n_iload c_45_117 rfl ?_
        refine n_aload_n c_45_119 rfl ?_
        refine n_iload c_45_120 rfl ?_
        refine n_iload c_45_122 rfl ?_
        refine n_iadd c_45_124 rfl ?_
        refine n_ialoadV c_45_125 hp.c0.2.1.n rfl rfl rfl (by omega) (t_actr hS hd hp (Or.inl rfl) (by omega)) ?_
        intro z3 ez3 f4
        refine n_aload_n c_45_126 rfl ?_
        refine n_getV (bi := 2) c_45_127 sc_52.n rfl rfl rfl (t_52_2 hS) ?_
        intro z5 ez5 f6
        obtain rfl : z5 = 2 := by omega
        refine n_imul c_45_130 rfl ?_
        refine n_iadd c_45_131 rfl ?_
        refine n_istore (L2 := [some (2, 52), none, some (2, (p + 1)), none, none, some (0, x5), some (0, x6), some (0, x7), some (0, x8), some (0, x9), some (0, x10), some (0, x11), some (0, x12), some (0, (x11 + (z3 * 2))), none]) c_45_132 rfl rfl ?_
        refine n_iconst c_45_134 ?_
        refine n_istore (L2 := [some (2, 52), none, some (2, (p + 1)), none, none, some (0, x5), some (0, x6), some (0, x7), some (0, x8), some (0, x9), some (0, x10), some (0, x11), some (0, x12), some (0, (x11 + (z3 * 2))), some (0, 0)]) c_45_135 rfl rfl ?_
        refine n_fg (le_s (le_n (le_s (le_n (le_n (le_s (le_s (le_s (le_s (le_s (le_s (le_s (le_s (le_s (le_s le_0))))))))))))))) ?_
        exact ih.2.2 _ _ _ _ _ _ _ _ _ _ M hS (by omega) (by omega) (by omega) (by omega) (by omega) (by omega) (by omega) (by omega) (by omega) (by omega) (by omega) (by omega)
    · intro x5 x6 x7 x8 x9 x10 x11 x12 x13 x14 M hS k5 k6 k7 k8 k9 k10 k11 k12 k13 k14 v0 hnn
      refine n_iload c_45_137 rfl ?_
      refine n_iload c_45_139 rfl ?_
      refine n_if2_ge c_45_141 (by omega) (by omega) ?_ ?_
      · intro h1
        refine n_iinc (L2 := [some (2, 52), none, some (2, (p + 1)), none, none, some (0, x5), some (0, x6), some (0, x7), some (0, x8), some (0, x9), some (0, x10), some (0, x11), some (0, (x12 + 1)), some (0, x13), some (0, x14)]) c_45_175 rfl rfl rfl ?_
        refine n_goto c_45_178 ?_
        refine n_fg (le_s (le_n (le_s (le_n (le_n (le_s (le_s (le_s (le_s (le_s (le_s (le_s (le_s (le_n (le_n le_0))))))))))))))) ?_
        exact ih.2.1 _ _ _ _ _ _ _ _ M hS (by omega) (by omega) (by omega) (by omega) (by omega) (by omega) (by omega) (by omega) (by omega) (by omega)
      · intro h2
        refine n_aload_n c_45_144 rfl ?_
        refine n_getR c_45_145 sc_52.n rfl rfl rfl r_52_0 ?_
        refine n_iload c_45_148 rfl ?_
        refine n_iload c_45_150 rfl ?_
        refine n_aload_n c_45_152 rfl ?_
        refine n_iload c_45_153 rfl ?_
        refine n_iload c_45_155 rfl ?_
        refine n_iadd c_45_157 rfl ?_
        refine n_ialoadV c_45_158 hp.c0.2.1.n rfl rfl rfl (by omega) (t_actr hS hd hp (Or.inl rfl) (by omega)) ?_
        intro z3 ez3 f4
        refine n_aload_n c_45_159 rfl ?_
        refine n_getV (bi := 3) c_45_160 sc_52.n rfl rfl rfl (t_52_3 hS) ?_
        intro z5 ez5 f6
        obtain rfl : z5 = 1 := by omega
        refine n_imul c_45_163 rfl ?_
        refine n_iadd c_45_164 rfl ?_
        refine n_iastoreV hS c_45_165 sc_53.n rfl (by omega) (w_53 (by omega) (by omega)) ?_
        intro M7 eM7 hS7
        have g7_0 : M7 53 x9 = (x13 + (z3 * 1)) := by rw [eM7]; exact nu_s _ _ _ _
        refine n_iinc (L2 := [some (2, 52), none, some (2, (p + 1)), none, none, some (0, x5), some (0, x6), some (0, x7), some (0, x8), some (0, (x9 + 1)), some (0, x10), some (0, x11), some (0, x12), some (0, x13), some (0, x14)]) c_45_166 rfl rfl rfl ?_
        refine n_iinc (L2 := [some (2, 52), none, some (2, (p + 1)), none, none, some (0, x5), some (0, x6), some (0, x7), some (0, x8), some (0, (x9 + 1)), some (0, x10), some (0, x11), some (0, x12), some (0, x13), some (0, (x14 + 1))]) c_45_169 rfl rfl rfl ?_
        refine n_goto c_45_172 ?_
        refine n_fg (le_s (le_n (le_s (le_n (le_n (le_s (le_s (le_s (le_s (le_s (le_s (le_s (le_s (le_s (le_s le_0))))))))))))))) ?_
        exact ih.2.2 _ _ _ _ _ _ _ _ _ _ M7 hS7 (by omega) (by omega) (by omega) (by omega) (by omega) (by omega) (by omega) (by omega) (by omega) (by omega) (by omega) (by omega)
set_option maxHeartbeats 4000000 in
theorem fillLT_2 {xs : List Int32} {e : Nat} {ac : Int} {M0 M : nM} {p i j : Int} (hS : Sf 2 ac M0 M) (hp : ActAt p) (hpl : p < 55 + 3 * ac) (hi : 0 ≤ i ∧ i ≤ 26) (hj : 0 ≤ j ∧ j ≤ 26) : nW xs e 45 0 [some (2, 52), some (2, 4), some (2, (p + 1)), some (0, i), some (0, j), none, none, none, none, none, none, none, none, none, none] [] M (nPV fun M1 => Sf 2 ac M0 M1) := by
  have hd : (2 : Int) = 2 ∨ (2 : Int) = 3 := by decide
  have hac := hS.2.2.2.2
  refine n_aload_n c_45_0 rfl ?_
  refine n_getV (bi := 1) c_45_1 sc_52.n rfl rfl rfl (t_52_1 hS) ?_
  intro z1 ez1 f2
  obtain rfl : z1 = 4 := by omega
  refine n_if0_ne c_45_4 (by omega) ?_ ?_
  · intro h3
    refine n_aload_n c_45_8 rfl ?_
    refine n_getV (bi := 0) c_45_9 sc_4.n rfl rfl rfl (t_4_0 hS) ?_
    intro z4 ez4 f5
    obtain rfl : z4 = 2 := by omega
    refine n_istore (L2 := [some (2, 52), some (2, 4), some (2, (p + 1)), some (0, i), some (0, j), some (0, 2), none, none, none, none, none, none, none, none, none]) c_45_12 rfl rfl ?_
    refine n_aload_n c_45_14 rfl ?_
    refine n_getR c_45_15 sc_4.n rfl rfl rfl r_4_2 ?_
    refine n_iload_n c_45_18 rfl ?_
    refine n_ialoadV c_45_19 sc_5.n rfl rfl rfl (by omega) (t_5 hS hd (by omega)) ?_
    intro z6 ez6 f7
    refine n_iload c_45_20 rfl ?_
    refine n_imul c_45_22 rfl ?_
    refine n_aload_n c_45_23 rfl ?_
    refine n_getR c_45_24 sc_4.n rfl rfl rfl r_4_2 ?_
    refine n_iload c_45_27 rfl ?_
    refine n_ialoadV c_45_29 sc_5.n rfl rfl rfl (by omega) (t_5 hS hd (by omega)) ?_
    intro z8 ez8 f9
    refine n_iadd c_45_30 rfl ?_
    refine n_iload c_45_31 rfl ?_
    refine n_imul c_45_33 rfl ?_
    refine n_istore (L2 := [some (2, 52), some (2, 4), some (2, (p + 1)), some (0, i), some (0, j), some (0, 2), some (0, (((z6 * 2) + z8) * 2)), none, none, none, none, none, none, none, none]) c_45_34 rfl rfl ?_
    refine n_aload_n c_45_36 rfl ?_
    refine n_getR c_45_37 sc_4.n rfl rfl rfl r_4_3 ?_
    refine n_iload_n c_45_40 rfl ?_
    refine n_ialoadV c_45_41 sc_6.n rfl rfl rfl (by omega) (t_6 hS hd (by omega)) ?_
    intro z10 ez10 f11
    refine n_iload c_45_42 rfl ?_
    refine n_imul c_45_44 rfl ?_
    refine n_aload_n c_45_45 rfl ?_
    refine n_getR c_45_46 sc_4.n rfl rfl rfl r_4_3 ?_
    refine n_iload c_45_49 rfl ?_
    refine n_ialoadV c_45_51 sc_6.n rfl rfl rfl (by omega) (t_6 hS hd (by omega)) ?_
    intro z12 ez12 f13
    refine n_iadd c_45_52 rfl ?_
    refine n_iload c_45_53 rfl ?_
    refine n_imul c_45_55 rfl ?_
    refine n_istore (L2 := [some (2, 52), some (2, 4), some (2, (p + 1)), some (0, i), some (0, j), some (0, 2), some (0, (((z6 * 2) + z8) * 2)), some (0, (((z10 * 2) + z12) * 2)), none, none, none, none, none, none, none]) c_45_56 rfl rfl ?_
    refine n_aload_n c_45_58 rfl ?_
    refine n_getR c_45_59 sc_4.n rfl rfl rfl r_4_4 ?_
    refine n_iload_n c_45_62 rfl ?_
    refine n_ialoadV c_45_63 sc_7.n rfl rfl rfl (by omega) (t_7 hS hd (by omega)) ?_
    intro z14 ez14 f15
    refine n_iload c_45_64 rfl ?_
    refine n_imul c_45_66 rfl ?_
    refine n_aload_n c_45_67 rfl ?_
    refine n_getR c_45_68 sc_4.n rfl rfl rfl r_4_4 ?_
    refine n_iload c_45_71 rfl ?_
    refine n_ialoadV c_45_73 sc_7.n rfl rfl rfl (by omega) (t_7 hS hd (by omega)) ?_
    intro z16 ez16 f17
    refine n_iadd c_45_74 rfl ?_
    refine n_iload c_45_75 rfl ?_
    refine n_imul c_45_77 rfl ?_
    refine n_istore (L2 := [some (2, 52), some (2, 4), some (2, (p + 1)), some (0, i), some (0, j), some (0, 2), some (0, (((z6 * 2) + z8) * 2)), some (0, (((z10 * 2) + z12) * 2)), some (0, (((z14 * 2) + z16) * 2)), none, none, none, none, none, none]) c_45_78 rfl rfl ?_
    refine n_iconst c_45_80 ?_
    refine n_istore (L2 := [some (2, 52), some (2, 4), some (2, (p + 1)), some (0, i), some (0, j), some (0, 2), some (0, (((z6 * 2) + z8) * 2)), some (0, (((z10 * 2) + z12) * 2)), some (0, (((z14 * 2) + z16) * 2)), some (0, 0), none, none, none, none, none]) c_45_81 rfl rfl ?_
    refine n_iconst c_45_83 ?_
    refine n_istore (L2 := [some (2, 52), some (2, 4), some (2, (p + 1)), some (0, i), some (0, j), some (0, 2), some (0, (((z6 * 2) + z8) * 2)), some (0, (((z10 * 2) + z12) * 2)), some (0, (((z14 * 2) + z16) * 2)), some (0, 0), some (0, 0), none, none, none, none]) c_45_84 rfl rfl ?_
    refine n_fg (le_s (le_n (le_s (le_n (le_n (le_s (le_s (le_s (le_s (le_s (le_s (le_n (le_n (le_n (le_n le_0))))))))))))))) ?_
    exact (fillLT_2_c hS hp hpl hi hj 178).1 _ _ _ _ _ _ M hS (by omega) (by omega) (by omega) (by omega) (by omega) (by omega) (by omega) (by omega)
  · intro h18
    exfalso; omega

set_option maxHeartbeats 4000000 in
theorem fillLU_2_c {xs : List Int32} {e : Nat} {ac : Int} {M0 M : nM} {p i j : Int} (hS : Sf 2 ac M0 M) (hp : ActAt p) (hpl : p < 55 + 3 * ac) (hi : 0 ≤ i ∧ i ≤ 26) (hj : 0 ≤ j ∧ j ≤ 26) : ∀ nn : Nat, (∀ (x5 x6 x7 x8 x9 x10 : Int) (M : nM), Sf 2 ac M0 M → (2 ≤ x5 ∧ x5 ≤ 2) → (0 ≤ x6 ∧ x6 ≤ 12) → (0 ≤ x7 ∧ x7 ≤ 12) → (0 ≤ x8 ∧ x8 ≤ 12) → (0 ≤ x9 ∧ x9 ≤ 8) → (0 ≤ x10 ∧ x10 ≤ 2) → (x9 = 4 * x10) → (2 - x10) * 21 + 21 < (nn : Int) → nW xs e 45 86 [some (2, 52), none, some (2, (p + 2)), none, none, some (0, x5), some (0, x6), some (0, x7), some (0, x8), some (0, x9), some (0, x10), none, none, none, none] [] M (nPV fun M1 => Sf 2 ac M0 M1)) ∧ (∀ (x5 x6 x7 x8 x9 x10 x11 x12 : Int) (M : nM), Sf 2 ac M0 M → (2 ≤ x5 ∧ x5 ≤ 2) → (0 ≤ x6 ∧ x6 ≤ 12) → (0 ≤ x7 ∧ x7 ≤ 12) → (0 ≤ x8 ∧ x8 ≤ 12) → (0 ≤ x9 ∧ x9 ≤ 8) → (0 ≤ x10 ∧ x10 ≤ 1) → (0 ≤ x11 ∧ x11 ≤ 8) → (0 ≤ x12 ∧ x12 ≤ 2) → (x9 = 4 * x10 + 2 * x12) → (2 - x10) * 21 + (2 - x12) * 5 + 5 < (nn : Int) → nW xs e 45 110 [some (2, 52), none, some (2, (p + 2)), none, none, some (0, x5), some (0, x6), some (0, x7), some (0, x8), some (0, x9), some (0, x10), some (0, x11), some (0, x12), none, none] [] M (nPV fun M1 => Sf 2 ac M0 M1)) ∧ (∀ (x5 x6 x7 x8 x9 x10 x11 x12 x13 x14 : Int) (M : nM), Sf 2 ac M0 M → (2 ≤ x5 ∧ x5 ≤ 2) → (0 ≤ x6 ∧ x6 ≤ 12) → (0 ≤ x7 ∧ x7 ≤ 12) → (0 ≤ x8 ∧ x8 ≤ 12) → (0 ≤ x9 ∧ x9 ≤ 8) → (0 ≤ x10 ∧ x10 ≤ 1) → (0 ≤ x11 ∧ x11 ≤ 8) → (0 ≤ x12 ∧ x12 ≤ 1) → (0 ≤ x13 ∧ x13 ≤ 12) → (0 ≤ x14 ∧ x14 ≤ 2) → (x9 = 4 * x10 + 2 * x12 + x14) → (2 - x10) * 21 + (2 - x12) * 5 + (2 - x14) * 1 + 1 < (nn : Int) → nW xs e 45 137 [some (2, 52), none, some (2, (p + 2)), none, none, some (0, x5), some (0, x6), some (0, x7), some (0, x8), some (0, x9), some (0, x10), some (0, x11), some (0, x12), some (0, x13), some (0, x14)] [] M (nPV fun M1 => Sf 2 ac M0 M1)) := by
  have hd : (2 : Int) = 2 ∨ (2 : Int) = 3 := by decide
  have hac := hS.2.2.2.2
  intro nn
  induction nn with
  | zero => refine ⟨?_, ?_, ?_⟩ <;> (intros; omega)
  | succ nn ih =>
    refine ⟨?_, ?_, ?_⟩
    · intro x5 x6 x7 x8 x9 x10 M hS k5 k6 k7 k8 k9 k10 v0 hnn
      refine n_iload c_45_86 rfl ?_
      refine n_iload c_45_88 rfl ?_
      refine n_if2_ge c_45_90 (by omega) (by omega) ?_ ?_
      · intro h1
        exact n_rV c_45_187 rfl hS
      · intro h2
        refine n_aload_n c_45_93 rfl ?_
        refine n_iload c_45_94 rfl ?_
        refine n_iload c_45_96 rfl ?_
        refine n_iadd c_45_98 rfl ?_
        refine n_ialoadV c_45_99 hp.c0.2.2.n rfl rfl rfl (by omega) (t_actr hS hd hp (Or.inr rfl) (by omega)) ?_
        intro z3 ez3 f4
        refine n_aload_n c_45_100 rfl ?_
        refine n_getV (bi := 1) c_45_101 sc_52.n rfl rfl rfl (t_52_1 hS) ?_
        intro z5 ez5 f6
        obtain rfl : z5 = 4 := by omega
        refine n_imul c_45_104 rfl ?_
        refine n_istore (L2 := [some (2, 52), none, some (2, (p + 2)), none, none, some (0, x5), some (0, x6), some (0, x7), some (0, x8), some (0, x9), some (0, x10), some (0, (z3 * 4)), none, none, none]) c_45_105 rfl rfl ?_
        refine n_iconst c_45_107 ?_
        refine n_istore (L2 := [some (2, 52), none, some (2, (p + 2)), none, none, some (0, x5), some (0, x6), some (0, x7), some (0, x8), some (0, x9), some (0, x10), some (0, (z3 * 4)), some (0, 0), none, none]) c_45_108 rfl rfl ?_
        refine n_fg (le_s (le_n (le_s (le_n (le_n (le_s (le_s (le_s (le_s (le_s (le_s (le_s (le_s (le_n (le_n le_0))))))))))))))) ?_
        exact ih.2.1 _ _ _ _ _ _ _ _ M hS (by omega) (by omega) (by omega) (by omega) (by omega) (by omega) (by omega) (by omega) (by omega) (by omega)
    · intro x5 x6 x7 x8 x9 x10 x11 x12 M hS k5 k6 k7 k8 k9 k10 k11 k12 v0 hnn
      refine n_iload c_45_110 rfl ?_
      refine n_iload c_45_112 rfl ?_
      refine n_if2_ge c_45_114 (by omega) (by omega) ?_ ?_
      · intro h1
        refine n_iinc (L2 := [some (2, 52), none, some (2, (p + 2)), none, none, some (0, x5), some (0, x6), some (0, x7), some (0, x8), some (0, x9), some (0, (x10 + 1)), some (0, x11), some (0, x12), none, none]) c_45_181 rfl rfl rfl ?_
        refine n_goto c_45_184 ?_
        refine n_fg (le_s (le_n (le_s (le_n (le_n (le_s (le_s (le_s (le_s (le_s (le_s (le_n (le_n (le_n (le_n le_0))))))))))))))) ?_
        exact ih.1 _ _ _ _ _ _ M hS (by omega) (by omega) (by omega) (by omega) (by omega) (by omega) (by omega) (by omega)
      · intro h2
        refine n_iload c_45_117 rfl ?_
        refine n_aload_n c_45_119 rfl ?_
        refine n_iload c_45_120 rfl ?_
        refine n_iload c_45_122 rfl ?_
        refine n_iadd c_45_124 rfl ?_
        refine n_ialoadV c_45_125 hp.c0.2.2.n rfl rfl rfl (by omega) (t_actr hS hd hp (Or.inr rfl) (by omega)) ?_
        intro z3 ez3 f4
        refine n_aload_n c_45_126 rfl ?_
        refine n_getV (bi := 2) c_45_127 sc_52.n rfl rfl rfl (t_52_2 hS) ?_
        intro z5 ez5 f6
        obtain rfl : z5 = 2 := by omega
        refine n_imul c_45_130 rfl ?_
        refine n_iadd c_45_131 rfl ?_
        refine n_istore (L2 := [some (2, 52), none, some (2, (p + 2)), none, none, some (0, x5), some (0, x6), some (0, x7), some (0, x8), some (0, x9), some (0, x10), some (0, x11), some (0, x12), some (0, (x11 + (z3 * 2))), none]) c_45_132 rfl rfl ?_
        refine n_iconst c_45_134 ?_
        refine n_istore (L2 := [some (2, 52), none, some (2, (p + 2)), none, none, some (0, x5), some (0, x6), some (0, x7), some (0, x8), some (0, x9), some (0, x10), some (0, x11), some (0, x12), some (0, (x11 + (z3 * 2))), some (0, 0)]) c_45_135 rfl rfl ?_
        refine n_fg (le_s (le_n (le_s (le_n (le_n (le_s (le_s (le_s (le_s (le_s (le_s (le_s (le_s (le_s (le_s le_0))))))))))))))) ?_
        exact ih.2.2 _ _ _ _ _ _ _ _ _ _ M hS (by omega) (by omega) (by omega) (by omega) (by omega) (by omega) (by omega) (by omega) (by omega) (by omega) (by omega) (by omega)
    · intro x5 x6 x7 x8 x9 x10 x11 x12 x13 x14 M hS k5 k6 k7 k8 k9 k10 k11 k12 k13 k14 v0 hnn
      refine n_iload c_45_137 rfl ?_
      refine n_iload c_45_139 rfl ?_
      refine n_if2_ge c_45_141 (by omega) (by omega) ?_ ?_
      · intro h1
        refine n_iinc (L2 := [some (2, 52), none, some (2, (p + 2)), none, none, some (0, x5), some (0, x6), some (0, x7), some (0, x8), some (0, x9), some (0, x10), some (0, x11), some (0, (x12 + 1)), some (0, x13), some (0, x14)]) c_45_175 rfl rfl rfl ?_
        refine n_goto c_45_178 ?_
        refine n_fg (le_s (le_n (le_s (le_n (le_n (le_s (le_s (le_s (le_s (le_s (le_s (le_s (le_s (le_n (le_n le_0))))))))))))))) ?_
        exact ih.2.1 _ _ _ _ _ _ _ _ M hS (by omega) (by omega) (by omega) (by omega) (by omega) (by omega) (by omega) (by omega) (by omega) (by omega)
      · intro h2
        refine n_aload_n c_45_144 rfl ?_
        refine n_getR c_45_145 sc_52.n rfl rfl rfl r_52_0 ?_
        refine n_iload c_45_148 rfl ?_
        refine n_iload c_45_150 rfl ?_
        refine n_aload_n c_45_152 rfl ?_
        refine n_iload c_45_153 rfl ?_
        refine n_iload c_45_155 rfl ?_
        refine n_iadd c_45_157 rfl ?_
        refine n_ialoadV c_45_158 hp.c0.2.2.n rfl rfl rfl (by omega) (t_actr hS hd hp (Or.inr rfl) (by omega)) ?_
        intro z3 ez3 f4
        refine n_aload_n c_45_159 rfl ?_
        refine n_getV (bi := 3) c_45_160 sc_52.n rfl rfl rfl (t_52_3 hS) ?_
        intro z5 ez5 f6
        obtain rfl : z5 = 1 := by omega
        refine n_imul c_45_163 rfl ?_
        refine n_iadd c_45_164 rfl ?_
        refine n_iastoreV hS c_45_165 sc_53.n rfl (by omega) (w_53 (by omega) (by omega)) ?_
        intro M7 eM7 hS7
        have g7_0 : M7 53 x9 = (x13 + (z3 * 1)) := by rw [eM7]; exact nu_s _ _ _ _
        refine n_iinc (L2 := [some (2, 52), none, some (2, (p + 2)), none, none, some (0, x5), some (0, x6), some (0, x7), some (0, x8), some (0, (x9 + 1)), some (0, x10), some (0, x11), some (0, x12), some (0, x13), some (0, x14)]) c_45_166 rfl rfl rfl ?_
        refine n_iinc (L2 := [some (2, 52), none, some (2, (p + 2)), none, none, some (0, x5), some (0, x6), some (0, x7), some (0, x8), some (0, (x9 + 1)), some (0, x10), some (0, x11), some (0, x12), some (0, x13), some (0, (x14 + 1))]) c_45_169 rfl rfl rfl ?_
        refine n_goto c_45_172 ?_
        refine n_fg (le_s (le_n (le_s (le_n (le_n (le_s (le_s (le_s (le_s (le_s (le_s (le_s (le_s (le_s (le_s le_0))))))))))))))) ?_
        exact ih.2.2 _ _ _ _ _ _ _ _ _ _ M7 hS7 (by omega) (by omega) (by omega) (by omega) (by omega) (by omega) (by omega) (by omega) (by omega) (by omega) (by omega) (by omega)
set_option maxHeartbeats 4000000 in
theorem fillLU_2 {xs : List Int32} {e : Nat} {ac : Int} {M0 M : nM} {p i j : Int} (hS : Sf 2 ac M0 M) (hp : ActAt p) (hpl : p < 55 + 3 * ac) (hi : 0 ≤ i ∧ i ≤ 26) (hj : 0 ≤ j ∧ j ≤ 26) : nW xs e 45 0 [some (2, 52), some (2, 4), some (2, (p + 2)), some (0, i), some (0, j), none, none, none, none, none, none, none, none, none, none] [] M (nPV fun M1 => Sf 2 ac M0 M1) := by
  have hd : (2 : Int) = 2 ∨ (2 : Int) = 3 := by decide
  have hac := hS.2.2.2.2
  refine n_aload_n c_45_0 rfl ?_
  refine n_getV (bi := 1) c_45_1 sc_52.n rfl rfl rfl (t_52_1 hS) ?_
  intro z1 ez1 f2
  obtain rfl : z1 = 4 := by omega
  refine n_if0_ne c_45_4 (by omega) ?_ ?_
  · intro h3
    refine n_aload_n c_45_8 rfl ?_
    refine n_getV (bi := 0) c_45_9 sc_4.n rfl rfl rfl (t_4_0 hS) ?_
    intro z4 ez4 f5
    obtain rfl : z4 = 2 := by omega
    refine n_istore (L2 := [some (2, 52), some (2, 4), some (2, (p + 2)), some (0, i), some (0, j), some (0, 2), none, none, none, none, none, none, none, none, none]) c_45_12 rfl rfl ?_
    refine n_aload_n c_45_14 rfl ?_
    refine n_getR c_45_15 sc_4.n rfl rfl rfl r_4_2 ?_
    refine n_iload_n c_45_18 rfl ?_
    refine n_ialoadV c_45_19 sc_5.n rfl rfl rfl (by omega) (t_5 hS hd (by omega)) ?_
    intro z6 ez6 f7
    refine n_iload c_45_20 rfl ?_
    refine n_imul c_45_22 rfl ?_
    refine n_aload_n c_45_23 rfl ?_
    refine n_getR c_45_24 sc_4.n rfl rfl rfl r_4_2 ?_
    refine n_iload c_45_27 rfl ?_
    refine n_ialoadV c_45_29 sc_5.n rfl rfl rfl (by omega) (t_5 hS hd (by omega)) ?_
    intro z8 ez8 f9
    refine n_iadd c_45_30 rfl ?_
    refine n_iload c_45_31 rfl ?_
    refine n_imul c_45_33 rfl ?_
    refine n_istore (L2 := [some (2, 52), some (2, 4), some (2, (p + 2)), some (0, i), some (0, j), some (0, 2), some (0, (((z6 * 2) + z8) * 2)), none, none, none, none, none, none, none, none]) c_45_34 rfl rfl ?_
    refine n_aload_n c_45_36 rfl ?_
    refine n_getR c_45_37 sc_4.n rfl rfl rfl r_4_3 ?_
    refine n_iload_n c_45_40 rfl ?_
    refine n_ialoadV c_45_41 sc_6.n rfl rfl rfl (by omega) (t_6 hS hd (by omega)) ?_
    intro z10 ez10 f11
    refine n_iload c_45_42 rfl ?_
    refine n_imul c_45_44 rfl ?_
    refine n_aload_n c_45_45 rfl ?_
    refine n_getR c_45_46 sc_4.n rfl rfl rfl r_4_3 ?_
    refine n_iload c_45_49 rfl ?_
    refine n_ialoadV c_45_51 sc_6.n rfl rfl rfl (by omega) (t_6 hS hd (by omega)) ?_
    intro z12 ez12 f13
    refine n_iadd c_45_52 rfl ?_
    refine n_iload c_45_53 rfl ?_
    refine n_imul c_45_55 rfl ?_
    refine n_istore (L2 := [some (2, 52), some (2, 4), some (2, (p + 2)), some (0, i), some (0, j), some (0, 2), some (0, (((z6 * 2) + z8) * 2)), some (0, (((z10 * 2) + z12) * 2)), none, none, none, none, none, none, none]) c_45_56 rfl rfl ?_
    refine n_aload_n c_45_58 rfl ?_
    refine n_getR c_45_59 sc_4.n rfl rfl rfl r_4_4 ?_
    refine n_iload_n c_45_62 rfl ?_
    refine n_ialoadV c_45_63 sc_7.n rfl rfl rfl (by omega) (t_7 hS hd (by omega)) ?_
    intro z14 ez14 f15
    refine n_iload c_45_64 rfl ?_
    refine n_imul c_45_66 rfl ?_
    refine n_aload_n c_45_67 rfl ?_
    refine n_getR c_45_68 sc_4.n rfl rfl rfl r_4_4 ?_
    refine n_iload c_45_71 rfl ?_
    refine n_ialoadV c_45_73 sc_7.n rfl rfl rfl (by omega) (t_7 hS hd (by omega)) ?_
    intro z16 ez16 f17
    refine n_iadd c_45_74 rfl ?_
    refine n_iload c_45_75 rfl ?_
    refine n_imul c_45_77 rfl ?_
    refine n_istore (L2 := [some (2, 52), some (2, 4), some (2, (p + 2)), some (0, i), some (0, j), some (0, 2), some (0, (((z6 * 2) + z8) * 2)), some (0, (((z10 * 2) + z12) * 2)), some (0, (((z14 * 2) + z16) * 2)), none, none, none, none, none, none]) c_45_78 rfl rfl ?_
    refine n_iconst c_45_80 ?_
    refine n_istore (L2 := [some (2, 52), some (2, 4), some (2, (p + 2)), some (0, i), some (0, j), some (0, 2), some (0, (((z6 * 2) + z8) * 2)), some (0, (((z10 * 2) + z12) * 2)), some (0, (((z14 * 2) + z16) * 2)), some (0, 0), none, none, none, none, none]) c_45_81 rfl rfl ?_
    refine n_iconst c_45_83 ?_
    refine n_istore (L2 := [some (2, 52), some (2, 4), some (2, (p + 2)), some (0, i), some (0, j), some (0, 2), some (0, (((z6 * 2) + z8) * 2)), some (0, (((z10 * 2) + z12) * 2)), some (0, (((z14 * 2) + z16) * 2)), some (0, 0), some (0, 0), none, none, none, none]) c_45_84 rfl rfl ?_
    refine n_fg (le_s (le_n (le_s (le_n (le_n (le_s (le_s (le_s (le_s (le_s (le_s (le_n (le_n (le_n (le_n le_0))))))))))))))) ?_
    exact (fillLU_2_c hS hp hpl hi hj 178).1 _ _ _ _ _ _ M hS (by omega) (by omega) (by omega) (by omega) (by omega) (by omega) (by omega) (by omega)
  · intro h18
    exfalso; omega

set_option maxHeartbeats 4000000 in
theorem addWide_2_c {xs : List Int32} {e : Nat} {ac : Int} {M0 M : nM} {r : Int} (hS : Sf 2 ac M0 M) (hr : 0 ≤ r ∧ r ≤ 26) : ∀ nn : Nat, (∀ (M : nM), Sf 2 ac M0 M → 1 < (nn : Int) → nW xs e 42 52 [none, none] [] M (nPV fun M1 => Sf 2 ac M0 M1)) := by
  have hd : (2 : Int) = 2 ∨ (2 : Int) = 3 := by decide
  have hac := hS.2.2.2.2
  intro nn
  induction nn with
  | zero => intros; omega
  | succ nn ih =>
    intro M hS hnn
    exact n_rV c_42_52 rfl hS
set_option maxHeartbeats 4000000 in
theorem addWide_2 {xs : List Int32} {e : Nat} {ac : Int} {M0 M : nM} {r : Int} (hS : Sf 2 ac M0 M) (hr : 0 ≤ r ∧ r ≤ 26) : nW xs e 42 0 [some (2, 50), some (0, r)] [] M (nPV fun M1 => Sf 2 ac M0 M1) := by
  have hd : (2 : Int) = 2 ∨ (2 : Int) = 3 := by decide
  have hac := hS.2.2.2.2
  refine n_aload_n c_42_0 rfl ?_
  refine n_getV (bi := 3) c_42_1 law50.c0.1.n rfl rfl rfl (t_law hS law50).2.2.2 ?_
  intro z1 ez1 f2
  refine n_bipush c_42_4 rfl ?_
  refine n_if2_ge c_42_6 (by omega) (by omega) ?_ ?_
  · intro h3
    refine n_fg (le_n (le_n le_0)) ?_
    exact (addWide_2_c hS hr 12)  M hS  (by omega)
  · intro h4
    refine n_aload_n c_42_9 rfl ?_
    refine n_getV (bi := 2) c_42_10 law50.c0.1.n rfl rfl rfl (t_law hS law50).2.2.1 ?_
    intro z5 ez5 f6
    refine n_iload_n c_42_13 rfl ?_
    refine n_i_ishr c_42_14 rfl ?_
    have f7 := n_shr_r z5 r
    generalize (n_shr z5 r) = z8 at f7 ⊢
    refine n_iconst c_42_15 ?_
    refine n_i_iand c_42_16 rfl ?_
    have f9 := n_and_y (x := z8) (y := 1) (by omega)
    generalize (n_and z8 1) = z10 at f9 ⊢
    refine n_if0_ne c_42_17 (by omega) ?_ ?_
    · intro h11
      refine n_fg (le_n (le_n le_0)) ?_
      exact (addWide_2_c hS hr 12)  M hS  (by omega)
    · intro h12
      refine n_aload_n c_42_20 rfl ?_
      refine n_getR c_42_21 law50.c0.1.n rfl rfl rfl law50.r ?_
      refine n_aload_n c_42_24 rfl ?_
      refine n_getV (bi := 3) c_42_25 law50.c0.1.n rfl rfl rfl (t_law hS law50).2.2.2 ?_
      intro z13 ez13 f14
      refine n_iload_n c_42_28 rfl ?_
      refine n_iastoreV hS c_42_29 law50.c0.2.n rfl (by omega) (w_51 (by omega) (by omega)) ?_
      intro M15 eM15 hS15
      have g15_0 : M15 50 3 = M 50 3 := by rw [eM15]; exact nu_a (by omega)
      have g15_1 : M15 (50 + 1) z13 = r := by rw [eM15]; exact nu_s _ _ _ _
      refine n_aload_n c_42_30 rfl ?_
      refine n_dup2 c_42_31 ?_
      refine n_getV (bi := 3) c_42_32 law50.c0.1.n rfl rfl rfl (t_law hS15 law50).2.2.2 ?_
      intro z16 ez16 f17
      refine n_iconst c_42_35 ?_
      refine n_iadd c_42_36 rfl ?_
      refine n_putV (bi := 3) hS15 c_42_37 law50.c0.1.n rfl rfl rfl rfl (w_50 (by omega) (by omega)) ?_
      intro M18 eM18 hS18
      have g18_0 : M18 (50 + 1) z13 = M15 (50 + 1) z13 := by rw [eM18]; exact nu_a (by omega)
      have g18_1 : M18 50 3 = (z16 + 1) := by rw [eM18]; exact nu_s _ _ _ _
      refine n_aload_n c_42_40 rfl ?_
      refine n_dup2 c_42_41 ?_
      refine n_getV (bi := 2) c_42_42 law50.c0.1.n rfl rfl rfl (t_law hS18 law50).2.2.1 ?_
      intro z19 ez19 f20
      refine n_iconst c_42_45 ?_
      refine n_iload_n c_42_46 rfl ?_
      refine n_i_ishl c_42_47 rfl ?_
      have f21 := n_shl_1 (y := r) (a := 0) (b := 26) (by decide) (by omega)
      generalize (n_shl 1 r) = z22 at f21 ⊢
      refine n_i_ior c_42_48 rfl ?_
      have f23 := n_or_r z19 z22
      generalize (n_or z19 z22) = z24 at f23 ⊢
      refine n_putV (bi := 2) hS18 c_42_49 law50.c0.1.n rfl rfl rfl rfl (w_50 (by omega) (by omega)) ?_
      intro M25 eM25 hS25
      have g25_0 : M25 (50 + 1) z13 = M18 (50 + 1) z13 := by rw [eM25]; exact nu_a (by omega)
      have g25_1 : M25 50 3 = M18 50 3 := by rw [eM25]; exact nu_i (by omega)
      have g25_2 : M25 50 2 = z24 := by rw [eM25]; exact nu_s _ _ _ _
      refine n_fg (le_n (le_n le_0)) ?_
      exact (addWide_2_c hS hr 12)  M25 hS25  (by omega)

set_option maxHeartbeats 4000000 in
theorem takeS0_2_c {xs : List Int32} {e : Nat} {ac : Int} {M0 M : nM} {s : Int} (hS : Sf 2 ac M0 M) (hs : -2147483648 ≤ s ∧ s ≤ 2147483647) : ∀ nn : Nat, (∀ (x4 x5 : Int) (M : nM), Sf 2 ac M0 M → (1 ≤ x4 ∧ x4 ≤ 1) → (0 ≤ x5 ∧ x5 ≤ 1) → (1 - x5) * 2 + 2 < (nn : Int) → nW xs (e + 1) 36 30 [some (2, 50), some (0, 0), some (0, s), some (2, 4), some (0, x4), some (0, x5)] [] M (nPV fun M1 => Sf 2 ac M0 M1)) ∧ (∀ (x4 x5 : Int) (M : nM), Sf 2 ac M0 M → (1 ≤ x4 ∧ x4 ≤ 1) → (0 ≤ x5 ∧ x5 ≤ 0) → (1 - x5) * 2 + 1 < (nn : Int) → nW xs (e + 1) 36 57 [some (2, 50), some (0, 0), some (0, s), some (2, 4), some (0, x4), some (0, x5)] [] M (nPV fun M1 => Sf 2 ac M0 M1)) := by
  have hd : (2 : Int) = 2 ∨ (2 : Int) = 3 := by decide
  have hac := hS.2.2.2.2
  intro nn
  induction nn with
  | zero => refine ⟨?_, ?_⟩ <;> (intros; omega)
  | succ nn ih =>
    refine ⟨?_, ?_⟩
    · intro x4 x5 M hS k4 k5 hnn
      refine n_iload c_36_30 rfl ?_
      refine n_iload c_36_32 rfl ?_
      refine n_if2_ge c_36_34 (by omega) (by omega) ?_ ?_
      · intro h1
        exact n_rV c_36_63 rfl hS
      · intro h2
        refine n_iload_n c_36_37 rfl ?_
        refine n_iload c_36_38 rfl ?_
        refine n_i_ishr c_36_40 rfl ?_
        have f3 := n_shr_r s x5
        generalize (n_shr s x5) = z4 at f3 ⊢
        refine n_iconst c_36_41 ?_
        refine n_i_iand c_36_42 rfl ?_
        have f5 := n_and_y (x := z4) (y := 1) (by omega)
        generalize (n_and z4 1) = z6 at f5 ⊢
        refine n_if0_eq c_36_43 (by omega) ?_ ?_
        · intro h7
          refine n_fg (le_s (le_s (le_s (le_s (le_s (le_s le_0)))))) ?_
          exact ih.2 _ _ M hS (by omega) (by omega) (by omega)
        · intro h8
          refine n_aload_n c_36_46 rfl ?_
          refine n_aload_n c_36_47 rfl ?_
          refine n_iload c_36_48 rfl ?_
          refine n_iload_n c_36_50 rfl ?_
          refine n_v2I c_36_51 rfl sc_4.n rfl rfl rfl rfl (widen0_2 (n := x5) hS (by omega)) ?_
          intro z9 M10 hP11
          obtain ⟨eM, f11⟩ := hP11
          subst eM
          refine n_v1V c_36_54 rfl law50.c0.1.n rfl rfl rfl rfl (addWide_2 (r := z9) hS (by omega)) ?_
          intro  M12 hP13
          have hS12 := hP13
          refine n_fg (le_s (le_s (le_s (le_s (le_s (le_s le_0)))))) ?_
          exact ih.2 _ _ M12 hS12 (by omega) (by omega) (by omega)
    · intro x4 x5 M hS k4 k5 hnn
      refine n_iinc (L2 := [some (2, 50), some (0, 0), some (0, s), some (2, 4), some (0, x4), some (0, (x5 + 1))]) c_36_57 rfl rfl rfl ?_
      refine n_goto c_36_60 ?_
      refine n_fg (le_s (le_s (le_s (le_s (le_s (le_s le_0)))))) ?_
      exact ih.1 _ _ M hS (by omega) (by omega) (by omega)
set_option maxHeartbeats 4000000 in
theorem takeS0_2 {xs : List Int32} {e : Nat} {ac : Int} {M0 M : nM} {s : Int} (hS : Sf 2 ac M0 M) (hs : -2147483648 ≤ s ∧ s ≤ 2147483647) : nW xs (e + 1) 36 0 [some (2, 50), some (0, 0), some (0, s), some (2, 4), none, none] [] M (nPV fun M1 => Sf 2 ac M0 M1) := by
  have hd : (2 : Int) = 2 ∨ (2 : Int) = 3 := by decide
  have hac := hS.2.2.2.2
  refine n_aload_n c_36_0 rfl ?_
  refine n_iload_n c_36_1 rfl ?_
  refine n_putV (bi := 0) hS c_36_2 law50.c0.1.n rfl rfl rfl rfl (w_50 (by omega) (by omega)) ?_
  intro M1 eM1 hS1
  have g1_0 : M1 50 0 = 0 := by rw [eM1]; exact nu_s _ _ _ _
  refine n_aload_n c_36_5 rfl ?_
  refine n_iload_n c_36_6 rfl ?_
  refine n_putV (bi := 1) hS1 c_36_7 law50.c0.1.n rfl rfl rfl rfl (w_50 (by omega) (by omega)) ?_
  intro M2 eM2 hS2
  have g2_0 : M2 50 0 = M1 50 0 := by rw [eM2]; exact nu_i (by omega)
  have g2_1 : M2 50 1 = s := by rw [eM2]; exact nu_s _ _ _ _
  refine n_aload_n c_36_10 rfl ?_
  refine n_iconst c_36_11 ?_
  refine n_putV (bi := 2) hS2 c_36_12 law50.c0.1.n rfl rfl rfl rfl (w_50 (by omega) (by omega)) ?_
  intro M3 eM3 hS3
  have g3_0 : M3 50 0 = M2 50 0 := by rw [eM3]; exact nu_i (by omega)
  have g3_1 : M3 50 1 = M2 50 1 := by rw [eM3]; exact nu_i (by omega)
  have g3_2 : M3 50 2 = 0 := by rw [eM3]; exact nu_s _ _ _ _
  refine n_aload_n c_36_15 rfl ?_
  refine n_iconst c_36_16 ?_
  refine n_putV (bi := 3) hS3 c_36_17 law50.c0.1.n rfl rfl rfl rfl (w_50 (by omega) (by omega)) ?_
  intro M4 eM4 hS4
  have g4_0 : M4 50 0 = M3 50 0 := by rw [eM4]; exact nu_i (by omega)
  have g4_1 : M4 50 1 = M3 50 1 := by rw [eM4]; exact nu_i (by omega)
  have g4_2 : M4 50 2 = M3 50 2 := by rw [eM4]; exact nu_i (by omega)
  have g4_3 : M4 50 3 = 0 := by rw [eM4]; exact nu_s _ _ _ _
  refine n_aload_n c_36_20 rfl ?_
  refine n_iload_n c_36_21 rfl ?_
  refine n_v1I c_36_22 rfl sc_4.n rfl rfl rfl rfl (power0_2  hS4 ) ?_
  intro z5 M6 hP7
  obtain ⟨eM, f7⟩ := hP7
  subst eM
  obtain rfl : z5 = 1 := by omega
  refine n_istore (L2 := [some (2, 50), some (0, 0), some (0, s), some (2, 4), some (0, 1), none]) c_36_25 rfl rfl ?_
  refine n_iconst c_36_27 ?_
  refine n_istore (L2 := [some (2, 50), some (0, 0), some (0, s), some (2, 4), some (0, 1), some (0, 0)]) c_36_28 rfl rfl ?_
  refine n_fg (le_s (le_s (le_s (le_s (le_s (le_s le_0)))))) ?_
  exact (takeS0_2_c hS hs 22).1 _ _ M4 hS4 (by omega) (by omega) (by omega)

set_option maxHeartbeats 4000000 in
theorem takeS1_2_c {xs : List Int32} {e : Nat} {ac : Int} {M0 M : nM} {s : Int} (hS : Sf 2 ac M0 M) (hs : -2147483648 ≤ s ∧ s ≤ 2147483647) : ∀ nn : Nat, (∀ (x4 x5 : Int) (M : nM), Sf 2 ac M0 M → (2 ≤ x4 ∧ x4 ≤ 2) → (0 ≤ x5 ∧ x5 ≤ 2) → (2 - x5) * 2 + 2 < (nn : Int) → nW xs (e + 1) 36 30 [some (2, 50), some (0, 1), some (0, s), some (2, 4), some (0, x4), some (0, x5)] [] M (nPV fun M1 => Sf 2 ac M0 M1)) ∧ (∀ (x4 x5 : Int) (M : nM), Sf 2 ac M0 M → (2 ≤ x4 ∧ x4 ≤ 2) → (0 ≤ x5 ∧ x5 ≤ 1) → (2 - x5) * 2 + 1 < (nn : Int) → nW xs (e + 1) 36 57 [some (2, 50), some (0, 1), some (0, s), some (2, 4), some (0, x4), some (0, x5)] [] M (nPV fun M1 => Sf 2 ac M0 M1)) := by
  have hd : (2 : Int) = 2 ∨ (2 : Int) = 3 := by decide
  have hac := hS.2.2.2.2
  intro nn
  induction nn with
  | zero => refine ⟨?_, ?_⟩ <;> (intros; omega)
  | succ nn ih =>
    refine ⟨?_, ?_⟩
    · intro x4 x5 M hS k4 k5 hnn
      refine n_iload c_36_30 rfl ?_
      refine n_iload c_36_32 rfl ?_
      refine n_if2_ge c_36_34 (by omega) (by omega) ?_ ?_
      · intro h1
        exact n_rV c_36_63 rfl hS
      · intro h2
        refine n_iload_n c_36_37 rfl ?_
        refine n_iload c_36_38 rfl ?_
        refine n_i_ishr c_36_40 rfl ?_
        have f3 := n_shr_r s x5
        generalize (n_shr s x5) = z4 at f3 ⊢
        refine n_iconst c_36_41 ?_
        refine n_i_iand c_36_42 rfl ?_
        have f5 := n_and_y (x := z4) (y := 1) (by omega)
        generalize (n_and z4 1) = z6 at f5 ⊢
        refine n_if0_eq c_36_43 (by omega) ?_ ?_
        · intro h7
          refine n_fg (le_s (le_s (le_s (le_s (le_s (le_s le_0)))))) ?_
          exact ih.2 _ _ M hS (by omega) (by omega) (by omega)
        · intro h8
          refine n_aload_n c_36_46 rfl ?_
          refine n_aload_n c_36_47 rfl ?_
          refine n_iload c_36_48 rfl ?_
          refine n_iload_n c_36_50 rfl ?_
          refine n_v2I c_36_51 rfl sc_4.n rfl rfl rfl rfl (widen1_2 (n := x5) hS (by omega)) ?_
          intro z9 M10 hP11
          obtain ⟨eM, f11⟩ := hP11
          subst eM
          refine n_v1V c_36_54 rfl law50.c0.1.n rfl rfl rfl rfl (addWide_2 (r := z9) hS (by omega)) ?_
          intro  M12 hP13
          have hS12 := hP13
          refine n_fg (le_s (le_s (le_s (le_s (le_s (le_s le_0)))))) ?_
          exact ih.2 _ _ M12 hS12 (by omega) (by omega) (by omega)
    · intro x4 x5 M hS k4 k5 hnn
      refine n_iinc (L2 := [some (2, 50), some (0, 1), some (0, s), some (2, 4), some (0, x4), some (0, (x5 + 1))]) c_36_57 rfl rfl rfl ?_
      refine n_goto c_36_60 ?_
      refine n_fg (le_s (le_s (le_s (le_s (le_s (le_s le_0)))))) ?_
      exact ih.1 _ _ M hS (by omega) (by omega) (by omega)
set_option maxHeartbeats 4000000 in
theorem takeS1_2 {xs : List Int32} {e : Nat} {ac : Int} {M0 M : nM} {s : Int} (hS : Sf 2 ac M0 M) (hs : -2147483648 ≤ s ∧ s ≤ 2147483647) : nW xs (e + 1) 36 0 [some (2, 50), some (0, 1), some (0, s), some (2, 4), none, none] [] M (nPV fun M1 => Sf 2 ac M0 M1) := by
  have hd : (2 : Int) = 2 ∨ (2 : Int) = 3 := by decide
  have hac := hS.2.2.2.2
  refine n_aload_n c_36_0 rfl ?_
  refine n_iload_n c_36_1 rfl ?_
  refine n_putV (bi := 0) hS c_36_2 law50.c0.1.n rfl rfl rfl rfl (w_50 (by omega) (by omega)) ?_
  intro M1 eM1 hS1
  have g1_0 : M1 50 0 = 1 := by rw [eM1]; exact nu_s _ _ _ _
  refine n_aload_n c_36_5 rfl ?_
  refine n_iload_n c_36_6 rfl ?_
  refine n_putV (bi := 1) hS1 c_36_7 law50.c0.1.n rfl rfl rfl rfl (w_50 (by omega) (by omega)) ?_
  intro M2 eM2 hS2
  have g2_0 : M2 50 0 = M1 50 0 := by rw [eM2]; exact nu_i (by omega)
  have g2_1 : M2 50 1 = s := by rw [eM2]; exact nu_s _ _ _ _
  refine n_aload_n c_36_10 rfl ?_
  refine n_iconst c_36_11 ?_
  refine n_putV (bi := 2) hS2 c_36_12 law50.c0.1.n rfl rfl rfl rfl (w_50 (by omega) (by omega)) ?_
  intro M3 eM3 hS3
  have g3_0 : M3 50 0 = M2 50 0 := by rw [eM3]; exact nu_i (by omega)
  have g3_1 : M3 50 1 = M2 50 1 := by rw [eM3]; exact nu_i (by omega)
  have g3_2 : M3 50 2 = 0 := by rw [eM3]; exact nu_s _ _ _ _
  refine n_aload_n c_36_15 rfl ?_
  refine n_iconst c_36_16 ?_
  refine n_putV (bi := 3) hS3 c_36_17 law50.c0.1.n rfl rfl rfl rfl (w_50 (by omega) (by omega)) ?_
  intro M4 eM4 hS4
  have g4_0 : M4 50 0 = M3 50 0 := by rw [eM4]; exact nu_i (by omega)
  have g4_1 : M4 50 1 = M3 50 1 := by rw [eM4]; exact nu_i (by omega)
  have g4_2 : M4 50 2 = M3 50 2 := by rw [eM4]; exact nu_i (by omega)
  have g4_3 : M4 50 3 = 0 := by rw [eM4]; exact nu_s _ _ _ _
  refine n_aload_n c_36_20 rfl ?_
  refine n_iload_n c_36_21 rfl ?_
  refine n_v1I c_36_22 rfl sc_4.n rfl rfl rfl rfl (power1_2  hS4 ) ?_
  intro z5 M6 hP7
  obtain ⟨eM, f7⟩ := hP7
  subst eM
  obtain rfl : z5 = 2 := by omega
  refine n_istore (L2 := [some (2, 50), some (0, 1), some (0, s), some (2, 4), some (0, 2), none]) c_36_25 rfl rfl ?_
  refine n_iconst c_36_27 ?_
  refine n_istore (L2 := [some (2, 50), some (0, 1), some (0, s), some (2, 4), some (0, 2), some (0, 0)]) c_36_28 rfl rfl ?_
  refine n_fg (le_s (le_s (le_s (le_s (le_s (le_s le_0)))))) ?_
  exact (takeS1_2_c hS hs 26).1 _ _ M4 hS4 (by omega) (by omega) (by omega)

set_option maxHeartbeats 4000000 in
theorem takeS2_2_c {xs : List Int32} {e : Nat} {ac : Int} {M0 M : nM} {s : Int} (hS : Sf 2 ac M0 M) (hs : -2147483648 ≤ s ∧ s ≤ 2147483647) : ∀ nn : Nat, (∀ (x4 x5 : Int) (M : nM), Sf 2 ac M0 M → (4 ≤ x4 ∧ x4 ≤ 4) → (0 ≤ x5 ∧ x5 ≤ 4) → (4 - x5) * 2 + 2 < (nn : Int) → nW xs (e + 1) 36 30 [some (2, 50), some (0, 2), some (0, s), some (2, 4), some (0, x4), some (0, x5)] [] M (nPV fun M1 => Sf 2 ac M0 M1)) ∧ (∀ (x4 x5 : Int) (M : nM), Sf 2 ac M0 M → (4 ≤ x4 ∧ x4 ≤ 4) → (0 ≤ x5 ∧ x5 ≤ 3) → (4 - x5) * 2 + 1 < (nn : Int) → nW xs (e + 1) 36 57 [some (2, 50), some (0, 2), some (0, s), some (2, 4), some (0, x4), some (0, x5)] [] M (nPV fun M1 => Sf 2 ac M0 M1)) := by
  have hd : (2 : Int) = 2 ∨ (2 : Int) = 3 := by decide
  have hac := hS.2.2.2.2
  intro nn
  induction nn with
  | zero => refine ⟨?_, ?_⟩ <;> (intros; omega)
  | succ nn ih =>
    refine ⟨?_, ?_⟩
    · intro x4 x5 M hS k4 k5 hnn
      refine n_iload c_36_30 rfl ?_
      refine n_iload c_36_32 rfl ?_
      refine n_if2_ge c_36_34 (by omega) (by omega) ?_ ?_
      · intro h1
        exact n_rV c_36_63 rfl hS
      · intro h2
        refine n_iload_n c_36_37 rfl ?_
        refine n_iload c_36_38 rfl ?_
        refine n_i_ishr c_36_40 rfl ?_
        have f3 := n_shr_r s x5
        generalize (n_shr s x5) = z4 at f3 ⊢
        refine n_iconst c_36_41 ?_
        refine n_i_iand c_36_42 rfl ?_
        have f5 := n_and_y (x := z4) (y := 1) (by omega)
        generalize (n_and z4 1) = z6 at f5 ⊢
        refine n_if0_eq c_36_43 (by omega) ?_ ?_
        · intro h7
          refine n_fg (le_s (le_s (le_s (le_s (le_s (le_s le_0)))))) ?_
          exact ih.2 _ _ M hS (by omega) (by omega) (by omega)
        · intro h8
          refine n_aload_n c_36_46 rfl ?_
          refine n_aload_n c_36_47 rfl ?_
          refine n_iload c_36_48 rfl ?_
          refine n_iload_n c_36_50 rfl ?_
          refine n_v2I c_36_51 rfl sc_4.n rfl rfl rfl rfl (widen2_2 (n := x5) hS (by omega)) ?_
          intro z9 M10 hP11
          obtain ⟨eM, f11⟩ := hP11
          subst eM
          refine n_v1V c_36_54 rfl law50.c0.1.n rfl rfl rfl rfl (addWide_2 (r := z9) hS (by omega)) ?_
          intro  M12 hP13
          have hS12 := hP13
          refine n_fg (le_s (le_s (le_s (le_s (le_s (le_s le_0)))))) ?_
          exact ih.2 _ _ M12 hS12 (by omega) (by omega) (by omega)
    · intro x4 x5 M hS k4 k5 hnn
      refine n_iinc (L2 := [some (2, 50), some (0, 2), some (0, s), some (2, 4), some (0, x4), some (0, (x5 + 1))]) c_36_57 rfl rfl rfl ?_
      refine n_goto c_36_60 ?_
      refine n_fg (le_s (le_s (le_s (le_s (le_s (le_s le_0)))))) ?_
      exact ih.1 _ _ M hS (by omega) (by omega) (by omega)
set_option maxHeartbeats 4000000 in
theorem takeS2_2 {xs : List Int32} {e : Nat} {ac : Int} {M0 M : nM} {s : Int} (hS : Sf 2 ac M0 M) (hs : -2147483648 ≤ s ∧ s ≤ 2147483647) : nW xs (e + 1) 36 0 [some (2, 50), some (0, 2), some (0, s), some (2, 4), none, none] [] M (nPV fun M1 => Sf 2 ac M0 M1) := by
  have hd : (2 : Int) = 2 ∨ (2 : Int) = 3 := by decide
  have hac := hS.2.2.2.2
  refine n_aload_n c_36_0 rfl ?_
  refine n_iload_n c_36_1 rfl ?_
  refine n_putV (bi := 0) hS c_36_2 law50.c0.1.n rfl rfl rfl rfl (w_50 (by omega) (by omega)) ?_
  intro M1 eM1 hS1
  have g1_0 : M1 50 0 = 2 := by rw [eM1]; exact nu_s _ _ _ _
  refine n_aload_n c_36_5 rfl ?_
  refine n_iload_n c_36_6 rfl ?_
  refine n_putV (bi := 1) hS1 c_36_7 law50.c0.1.n rfl rfl rfl rfl (w_50 (by omega) (by omega)) ?_
  intro M2 eM2 hS2
  have g2_0 : M2 50 0 = M1 50 0 := by rw [eM2]; exact nu_i (by omega)
  have g2_1 : M2 50 1 = s := by rw [eM2]; exact nu_s _ _ _ _
  refine n_aload_n c_36_10 rfl ?_
  refine n_iconst c_36_11 ?_
  refine n_putV (bi := 2) hS2 c_36_12 law50.c0.1.n rfl rfl rfl rfl (w_50 (by omega) (by omega)) ?_
  intro M3 eM3 hS3
  have g3_0 : M3 50 0 = M2 50 0 := by rw [eM3]; exact nu_i (by omega)
  have g3_1 : M3 50 1 = M2 50 1 := by rw [eM3]; exact nu_i (by omega)
  have g3_2 : M3 50 2 = 0 := by rw [eM3]; exact nu_s _ _ _ _
  refine n_aload_n c_36_15 rfl ?_
  refine n_iconst c_36_16 ?_
  refine n_putV (bi := 3) hS3 c_36_17 law50.c0.1.n rfl rfl rfl rfl (w_50 (by omega) (by omega)) ?_
  intro M4 eM4 hS4
  have g4_0 : M4 50 0 = M3 50 0 := by rw [eM4]; exact nu_i (by omega)
  have g4_1 : M4 50 1 = M3 50 1 := by rw [eM4]; exact nu_i (by omega)
  have g4_2 : M4 50 2 = M3 50 2 := by rw [eM4]; exact nu_i (by omega)
  have g4_3 : M4 50 3 = 0 := by rw [eM4]; exact nu_s _ _ _ _
  refine n_aload_n c_36_20 rfl ?_
  refine n_iload_n c_36_21 rfl ?_
  refine n_v1I c_36_22 rfl sc_4.n rfl rfl rfl rfl (power2_2  hS4 ) ?_
  intro z5 M6 hP7
  obtain ⟨eM, f7⟩ := hP7
  subst eM
  obtain rfl : z5 = 4 := by omega
  refine n_istore (L2 := [some (2, 50), some (0, 2), some (0, s), some (2, 4), some (0, 4), none]) c_36_25 rfl rfl ?_
  refine n_iconst c_36_27 ?_
  refine n_istore (L2 := [some (2, 50), some (0, 2), some (0, s), some (2, 4), some (0, 4), some (0, 0)]) c_36_28 rfl rfl ?_
  refine n_fg (le_s (le_s (le_s (le_s (le_s (le_s le_0)))))) ?_
  exact (takeS2_2_c hS hs 34).1 _ _ M4 hS4 (by omega) (by omega) (by omega)
