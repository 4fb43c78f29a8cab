/-! The methods, by program. -/
set_option maxHeartbeats 4000000 in
theorem threeOf6_3 {xs : List Int32} {e : Nat} {ac : Int} {M0 M : nM} {c : Int} (hS : Sf 3 ac M0 M) (hc : 0 ≤ c ∧ c ≤ 19682) : nW xs e 18 0 [some (2, 4), some (0, c), some (0, 6), none, none, none, none] [] M (nPI fun z M1 => M = M1 ∧ (0 ≤ z ∧ z ≤ 26)) := by
  have hd : (3 : Int) = 2 ∨ (3 : Int) = 3 := by decide
  have hac := hS.2.2.2.2
  refine n_iload_n c_18_0 rfl ?_
  refine n_istore_n (L2 := [some (2, 4), some (0, c), some (0, 6), some (0, c), none, none, none]) c_18_1 rfl rfl ?_
  refine n_iconst c_18_2 ?_
  refine n_istore (L2 := [some (2, 4), some (0, c), some (0, 6), some (0, c), some (0, 0), none, none]) c_18_3 rfl rfl ?_
  refine n_iconst c_18_5 ?_
  refine n_istore (L2 := [some (2, 4), some (0, c), some (0, 6), some (0, c), some (0, 0), some (0, 0), none]) c_18_6 rfl rfl ?_
  refine n_iload c_18_8 rfl ?_
  refine n_iload_n c_18_10 rfl ?_
  refine n_iconst c_18_11 ?_
  refine n_iadd c_18_12 rfl ?_
  refine n_if2_ge c_18_13 (by omega) (by omega) ?_ ?_
  · intro h1
    exfalso; omega
  · intro h2
    refine n_aload_n c_18_16 rfl ?_
    refine n_getV (bi := 0) c_18_17 sc_4.n rfl rfl rfl (t_4_0 hS) ?_
    intro z3 ez3 f4
    obtain rfl : z3 = 3 := by omega
    refine n_iconst c_18_20 ?_
    refine n_if2_ne c_18_21 (by omega) (by omega) ?_ ?_
    · intro h5
      refine n_iload_n c_18_30 rfl ?_
      refine n_iconst c_18_31 ?_
      refine n_iremV c_18_32 (by omega) (by omega) ?_
      intro z6 _ f7
      refine n_istore (L2 := [some (2, 4), some (0, c), some (0, 6), some (0, c), some (0, 0), some (0, 0), some (0, z6)]) c_18_33 rfl rfl ?_
      refine n_aload_n c_18_35 rfl ?_
      refine n_getV (bi := 0) c_18_36 sc_4.n rfl rfl rfl (t_4_0 hS) ?_
      intro z8 ez8 f9
      obtain rfl : z8 = 3 := by omega
      refine n_iconst c_18_39 ?_
      refine n_if2_ne c_18_40 (by omega) (by omega) ?_ ?_
      · intro h10
        refine n_iload_n c_18_49 rfl ?_
        refine n_iconst c_18_50 ?_
        refine n_idivV c_18_51 (by omega) (by omega) ?_
        intro z11 _ f12
        refine n_istore_n (L2 := [some (2, 4), some (0, c), some (0, 6), some (0, z11), some (0, 0), some (0, 0), some (0, z6)]) c_18_52 rfl rfl ?_
        refine n_iload c_18_53 rfl ?_
        refine n_iload_n c_18_55 rfl ?_
        refine n_if2_lt c_18_56 (by omega) (by omega) ?_ ?_
        · intro h13
          refine n_iinc (L2 := [some (2, 4), some (0, c), some (0, 6), some (0, z11), some (0, 0), some (0, (0 + 1)), some (0, z6)]) c_18_71 rfl rfl rfl ?_
          refine n_goto c_18_74 ?_
          refine n_iload c_18_8 rfl ?_
          refine n_iload_n c_18_10 rfl ?_
          refine n_iconst c_18_11 ?_
          refine n_iadd c_18_12 rfl ?_
          refine n_if2_ge c_18_13 (by omega) (by omega) ?_ ?_
          · intro h14
            exfalso; omega
          · intro h15
            refine n_aload_n c_18_16 rfl ?_
            refine n_getV (bi := 0) c_18_17 sc_4.n rfl rfl rfl (t_4_0 hS) ?_
            intro z16 ez16 f17
            obtain rfl : z16 = 3 := by omega
            refine n_iconst c_18_20 ?_
            refine n_if2_ne c_18_21 (by omega) (by omega) ?_ ?_
            · intro h18
              refine n_iload_n c_18_30 rfl ?_
              refine n_iconst c_18_31 ?_
              refine n_iremV c_18_32 (by omega) (by omega) ?_
              intro z19 _ f20
              refine n_istore (L2 := [some (2, 4), some (0, c), some (0, 6), some (0, z11), some (0, 0), some (0, (0 + 1)), some (0, z19)]) c_18_33 rfl rfl ?_
              refine n_aload_n c_18_35 rfl ?_
              refine n_getV (bi := 0) c_18_36 sc_4.n rfl rfl rfl (t_4_0 hS) ?_
              intro z21 ez21 f22
              obtain rfl : z21 = 3 := by omega
              refine n_iconst c_18_39 ?_
              refine n_if2_ne c_18_40 (by omega) (by omega) ?_ ?_
              · intro h23
                refine n_iload_n c_18_49 rfl ?_
                refine n_iconst c_18_50 ?_
                refine n_idivV c_18_51 (by omega) (by omega) ?_
                intro z24 _ f25
                refine n_istore_n (L2 := [some (2, 4), some (0, c), some (0, 6), some (0, z24), some (0, 0), some (0, (0 + 1)), some (0, z19)]) c_18_52 rfl rfl ?_
                refine n_iload c_18_53 rfl ?_
                refine n_iload_n c_18_55 rfl ?_
                refine n_if2_lt c_18_56 (by omega) (by omega) ?_ ?_
                · intro h26
                  refine n_iinc (L2 := [some (2, 4), some (0, c), some (0, 6), some (0, z24), some (0, 0), some (0, ((0 + 1) + 1)), some (0, z19)]) c_18_71 rfl rfl rfl ?_
                  refine n_goto c_18_74 ?_
                  refine n_iload c_18_8 rfl ?_
                  refine n_iload_n c_18_10 rfl ?_
                  refine n_iconst c_18_11 ?_
                  refine n_iadd c_18_12 rfl ?_
                  refine n_if2_ge c_18_13 (by omega) (by omega) ?_ ?_
                  · intro h27
                    exfalso; omega
                  · intro h28
                    refine n_aload_n c_18_16 rfl ?_
                    refine n_getV (bi := 0) c_18_17 sc_4.n rfl rfl rfl (t_4_0 hS) ?_
                    intro z29 ez29 f30
                    obtain rfl : z29 = 3 := by omega
                    refine n_iconst c_18_20 ?_
                    refine n_if2_ne c_18_21 (by omega) (by omega) ?_ ?_
                    · intro h31
                      refine n_iload_n c_18_30 rfl ?_
                      refine n_iconst c_18_31 ?_
                      refine n_iremV c_18_32 (by omega) (by omega) ?_
                      intro z32 _ f33
                      refine n_istore (L2 := [some (2, 4), some (0, c), some (0, 6), some (0, z24), some (0, 0), some (0, ((0 + 1) + 1)), some (0, z32)]) c_18_33 rfl rfl ?_
                      refine n_aload_n c_18_35 rfl ?_
                      refine n_getV (bi := 0) c_18_36 sc_4.n rfl rfl rfl (t_4_0 hS) ?_
                      intro z34 ez34 f35
                      obtain rfl : z34 = 3 := by omega
                      refine n_iconst c_18_39 ?_
                      refine n_if2_ne c_18_40 (by omega) (by omega) ?_ ?_
                      · intro h36
                        refine n_iload_n c_18_49 rfl ?_
                        refine n_iconst c_18_50 ?_
                        refine n_idivV c_18_51 (by omega) (by omega) ?_
                        intro z37 _ f38
                        refine n_istore_n (L2 := [some (2, 4), some (0, c), some (0, 6), some (0, z37), some (0, 0), some (0, ((0 + 1) + 1)), some (0, z32)]) c_18_52 rfl rfl ?_
                        refine n_iload c_18_53 rfl ?_
                        refine n_iload_n c_18_55 rfl ?_
                        refine n_if2_lt c_18_56 (by omega) (by omega) ?_ ?_
                        · intro h39
                          refine n_iinc (L2 := [some (2, 4), some (0, c), some (0, 6), some (0, z37), some (0, 0), some (0, (((0 + 1) + 1) + 1)), some (0, z32)]) c_18_71 rfl rfl rfl ?_
                          refine n_goto c_18_74 ?_
                          refine n_iload c_18_8 rfl ?_
                          refine n_iload_n c_18_10 rfl ?_
                          refine n_iconst c_18_11 ?_
                          refine n_iadd c_18_12 rfl ?_
                          refine n_if2_ge c_18_13 (by omega) (by omega) ?_ ?_
                          · intro h40
                            exfalso; omega
                          · intro h41
                            refine n_aload_n c_18_16 rfl ?_
                            refine n_getV (bi := 0) c_18_17 sc_4.n rfl rfl rfl (t_4_0 hS) ?_
                            intro z42 ez42 f43
                            obtain rfl : z42 = 3 := by omega
                            refine n_iconst c_18_20 ?_
                            refine n_if2_ne c_18_21 (by omega) (by omega) ?_ ?_
                            · intro h44
                              refine n_iload_n c_18_30 rfl ?_
                              refine n_iconst c_18_31 ?_
                              refine n_iremV c_18_32 (by omega) (by omega) ?_
                              intro z45 _ f46
                              refine n_istore (L2 := [some (2, 4), some (0, c), some (0, 6), some (0, z37), some (0, 0), some (0, (((0 + 1) + 1) + 1)), some (0, z45)]) c_18_33 rfl rfl ?_
                              refine n_aload_n c_18_35 rfl ?_
                              refine n_getV (bi := 0) c_18_36 sc_4.n rfl rfl rfl (t_4_0 hS) ?_
                              intro z47 ez47 f48
                              obtain rfl : z47 = 3 := by omega
                              refine n_iconst c_18_39 ?_
                              refine n_if2_ne c_18_40 (by omega) (by omega) ?_ ?_
                              · intro h49
                                refine n_iload_n c_18_49 rfl ?_
                                refine n_iconst c_18_50 ?_
                                refine n_idivV c_18_51 (by omega) (by omega) ?_
                                intro z50 _ f51
                                refine n_istore_n (L2 := [some (2, 4), some (0, c), some (0, 6), some (0, z50), some (0, 0), some (0, (((0 + 1) + 1) + 1)), some (0, z45)]) c_18_52 rfl rfl ?_
                                refine n_iload c_18_53 rfl ?_
                                refine n_iload_n c_18_55 rfl ?_
                                refine n_if2_lt c_18_56 (by omega) (by omega) ?_ ?_
                                · intro h52
                                  refine n_iinc (L2 := [some (2, 4), some (0, c), some (0, 6), some (0, z50), some (0, 0), some (0, ((((0 + 1) + 1) + 1) + 1)), some (0, z45)]) c_18_71 rfl rfl rfl ?_
                                  refine n_goto c_18_74 ?_
                                  refine n_iload c_18_8 rfl ?_
                                  refine n_iload_n c_18_10 rfl ?_
                                  refine n_iconst c_18_11 ?_
                                  refine n_iadd c_18_12 rfl ?_
                                  refine n_if2_ge c_18_13 (by omega) (by omega) ?_ ?_
                                  · intro h53
                                    exfalso; omega
                                  · intro h54
                                    refine n_aload_n c_18_16 rfl ?_
                                    refine n_getV (bi := 0) c_18_17 sc_4.n rfl rfl rfl (t_4_0 hS) ?_
                                    intro z55 ez55 f56
                                    obtain rfl : z55 = 3 := by omega
                                    refine n_iconst c_18_20 ?_
                                    refine n_if2_ne c_18_21 (by omega) (by omega) ?_ ?_
                                    · intro h57
                                      refine n_iload_n c_18_30 rfl ?_
                                      refine n_iconst c_18_31 ?_
                                      refine n_iremV c_18_32 (by omega) (by omega) ?_
                                      intro z58 _ f59
                                      refine n_istore (L2 := [some (2, 4), some (0, c), some (0, 6), some (0, z50), some (0, 0), some (0, ((((0 + 1) + 1) + 1) + 1)), some (0, z58)]) c_18_33 rfl rfl ?_
                                      refine n_aload_n c_18_35 rfl ?_
                                      refine n_getV (bi := 0) c_18_36 sc_4.n rfl rfl rfl (t_4_0 hS) ?_
                                      intro z60 ez60 f61
                                      obtain rfl : z60 = 3 := by omega
                                      refine n_iconst c_18_39 ?_
                                      refine n_if2_ne c_18_40 (by omega) (by omega) ?_ ?_
                                      · intro h62
                                        refine n_iload_n c_18_49 rfl ?_
                                        refine n_iconst c_18_50 ?_
                                        refine n_idivV c_18_51 (by omega) (by omega) ?_
                                        intro z63 _ f64
                                        refine n_istore_n (L2 := [some (2, 4), some (0, c), some (0, 6), some (0, z63), some (0, 0), some (0, ((((0 + 1) + 1) + 1) + 1)), some (0, z58)]) c_18_52 rfl rfl ?_
                                        refine n_iload c_18_53 rfl ?_
                                        refine n_iload_n c_18_55 rfl ?_
                                        refine n_if2_lt c_18_56 (by omega) (by omega) ?_ ?_
                                        · intro h65
                                          refine n_iinc (L2 := [some (2, 4), some (0, c), some (0, 6), some (0, z63), some (0, 0), some (0, (((((0 + 1) + 1) + 1) + 1) + 1)), some (0, z58)]) c_18_71 rfl rfl rfl ?_
                                          refine n_goto c_18_74 ?_
                                          refine n_iload c_18_8 rfl ?_
                                          refine n_iload_n c_18_10 rfl ?_
                                          refine n_iconst c_18_11 ?_
                                          refine n_iadd c_18_12 rfl ?_
                                          refine n_if2_ge c_18_13 (by omega) (by omega) ?_ ?_
                                          · intro h66
                                            exfalso; omega
                                          · intro h67
                                            refine n_aload_n c_18_16 rfl ?_
                                            refine n_getV (bi := 0) c_18_17 sc_4.n rfl rfl rfl (t_4_0 hS) ?_
                                            intro z68 ez68 f69
                                            obtain rfl : z68 = 3 := by omega
                                            refine n_iconst c_18_20 ?_
                                            refine n_if2_ne c_18_21 (by omega) (by omega) ?_ ?_
                                            · intro h70
                                              refine n_iload_n c_18_30 rfl ?_
                                              refine n_iconst c_18_31 ?_
                                              refine n_iremV c_18_32 (by omega) (by omega) ?_
                                              intro z71 _ f72
                                              refine n_istore (L2 := [some (2, 4), some (0, c), some (0, 6), some (0, z63), some (0, 0), some (0, (((((0 + 1) + 1) + 1) + 1) + 1)), some (0, z71)]) c_18_33 rfl rfl ?_
                                              refine n_aload_n c_18_35 rfl ?_
                                              refine n_getV (bi := 0) c_18_36 sc_4.n rfl rfl rfl (t_4_0 hS) ?_
                                              intro z73 ez73 f74
                                              obtain rfl : z73 = 3 := by omega
                                              refine n_iconst c_18_39 ?_
                                              refine n_if2_ne c_18_40 (by omega) (by omega) ?_ ?_
                                              · intro h75
                                                refine n_iload_n c_18_49 rfl ?_
                                                refine n_iconst c_18_50 ?_
                                                refine n_idivV c_18_51 (by omega) (by omega) ?_
                                                intro z76 _ f77
                                                refine n_istore_n (L2 := [some (2, 4), some (0, c), some (0, 6), some (0, z76), some (0, 0), some (0, (((((0 + 1) + 1) + 1) + 1) + 1)), some (0, z71)]) c_18_52 rfl rfl ?_
                                                refine n_iload c_18_53 rfl ?_
                                                refine n_iload_n c_18_55 rfl ?_
                                                refine n_if2_lt c_18_56 (by omega) (by omega) ?_ ?_
                                                · intro h78
                                                  refine n_iinc (L2 := [some (2, 4), some (0, c), some (0, 6), some (0, z76), some (0, 0), some (0, ((((((0 + 1) + 1) + 1) + 1) + 1) + 1)), some (0, z71)]) c_18_71 rfl rfl rfl ?_
                                                  refine n_goto c_18_74 ?_
                                                  refine n_iload c_18_8 rfl ?_
                                                  refine n_iload_n c_18_10 rfl ?_
                                                  refine n_iconst c_18_11 ?_
                                                  refine n_iadd c_18_12 rfl ?_
                                                  refine n_if2_ge c_18_13 (by omega) (by omega) ?_ ?_
                                                  · intro h79
                                                    exfalso; omega
                                                  · intro h80
                                                    refine n_aload_n c_18_16 rfl ?_
                                                    refine n_getV (bi := 0) c_18_17 sc_4.n rfl rfl rfl (t_4_0 hS) ?_
                                                    intro z81 ez81 f82
                                                    obtain rfl : z81 = 3 := by omega
                                                    refine n_iconst c_18_20 ?_
                                                    refine n_if2_ne c_18_21 (by omega) (by omega) ?_ ?_
                                                    · intro h83
                                                      refine n_iload_n c_18_30 rfl ?_
                                                      refine n_iconst c_18_31 ?_
                                                      refine n_iremV c_18_32 (by omega) (by omega) ?_
                                                      intro z84 _ f85
                                                      refine n_istore (L2 := [some (2, 4), some (0, c), some (0, 6), some (0, z76), some (0, 0), some (0, ((((((0 + 1) + 1) + 1) + 1) + 1) + 1)), some (0, z84)]) c_18_33 rfl rfl ?_
                                                      refine n_aload_n c_18_35 rfl ?_
                                                      refine n_getV (bi := 0) c_18_36 sc_4.n rfl rfl rfl (t_4_0 hS) ?_
                                                      intro z86 ez86 f87
                                                      obtain rfl : z86 = 3 := by omega
                                                      refine n_iconst c_18_39 ?_
                                                      refine n_if2_ne c_18_40 (by omega) (by omega) ?_ ?_
                                                      · intro h88
                                                        refine n_iload_n c_18_49 rfl ?_
                                                        refine n_iconst c_18_50 ?_
                                                        refine n_idivV c_18_51 (by omega) (by omega) ?_
                                                        intro z89 _ f90
                                                        refine n_istore_n (L2 := [some (2, 4), some (0, c), some (0, 6), some (0, z89), some (0, 0), some (0, ((((((0 + 1) + 1) + 1) + 1) + 1) + 1)), some (0, z84)]) c_18_52 rfl rfl ?_
                                                        refine n_iload c_18_53 rfl ?_
                                                        refine n_iload_n c_18_55 rfl ?_
                                                        refine n_if2_lt c_18_56 (by omega) (by omega) ?_ ?_
                                                        · intro h91
                                                          exfalso; omega
                                                        · intro h92
                                                          refine n_iload c_18_59 rfl ?_
                                                          refine n_aload_n c_18_61 rfl ?_
                                                          refine n_getV (bi := 0) c_18_62 sc_4.n rfl rfl rfl (t_4_0 hS) ?_
                                                          intro z93 ez93 f94
                                                          obtain rfl : z93 = 3 := by omega
                                                          refine n_imul c_18_65 rfl ?_
                                                          refine n_iload c_18_66 rfl ?_
                                                          refine n_iadd c_18_68 rfl ?_
                                                          refine n_istore (L2 := [some (2, 4), some (0, c), some (0, 6), some (0, z89), some (0, ((0 * 3) + z84)), some (0, ((((((0 + 1) + 1) + 1) + 1) + 1) + 1)), some (0, z84)]) c_18_69 rfl rfl ?_
                                                          refine n_iinc (L2 := [some (2, 4), some (0, c), some (0, 6), some (0, z89), some (0, ((0 * 3) + z84)), some (0, (((((((0 + 1) + 1) + 1) + 1) + 1) + 1) + 1)), some (0, z84)]) c_18_71 rfl rfl rfl ?_
                                                          refine n_goto c_18_74 ?_
                                                          refine n_iload c_18_8 rfl ?_
                                                          refine n_iload_n c_18_10 rfl ?_
                                                          refine n_iconst c_18_11 ?_
                                                          refine n_iadd c_18_12 rfl ?_
                                                          refine n_if2_ge c_18_13 (by omega) (by omega) ?_ ?_
                                                          · intro h95
                                                            exfalso; omega
                                                          · intro h96
                                                            refine n_aload_n c_18_16 rfl ?_
                                                            refine n_getV (bi := 0) c_18_17 sc_4.n rfl rfl rfl (t_4_0 hS) ?_
                                                            intro z97 ez97 f98
                                                            obtain rfl : z97 = 3 := by omega
                                                            refine n_iconst c_18_20 ?_
                                                            refine n_if2_ne c_18_21 (by omega) (by omega) ?_ ?_
                                                            · intro h99
                                                              refine n_iload_n c_18_30 rfl ?_
                                                              refine n_iconst c_18_31 ?_
                                                              refine n_iremV c_18_32 (by omega) (by omega) ?_
                                                              intro z100 _ f101
                                                              refine n_istore (L2 := [some (2, 4), some (0, c), some (0, 6), some (0, z89), some (0, ((0 * 3) + z84)), some (0, (((((((0 + 1) + 1) + 1) + 1) + 1) + 1) + 1)), some (0, z100)]) c_18_33 rfl rfl ?_
                                                              refine n_aload_n c_18_35 rfl ?_
                                                              refine n_getV (bi := 0) c_18_36 sc_4.n rfl rfl rfl (t_4_0 hS) ?_
                                                              intro z102 ez102 f103
                                                              obtain rfl : z102 = 3 := by omega
                                                              refine n_iconst c_18_39 ?_
                                                              refine n_if2_ne c_18_40 (by omega) (by omega) ?_ ?_
                                                              · intro h104
                                                                refine n_iload_n c_18_49 rfl ?_
                                                                refine n_iconst c_18_50 ?_
                                                                refine n_idivV c_18_51 (by omega) (by omega) ?_
                                                                intro z105 _ f106
                                                                refine n_istore_n (L2 := [some (2, 4), some (0, c), some (0, 6), some (0, z105), some (0, ((0 * 3) + z84)), some (0, (((((((0 + 1) + 1) + 1) + 1) + 1) + 1) + 1)), some (0, z100)]) c_18_52 rfl rfl ?_
                                                                refine n_iload c_18_53 rfl ?_
                                                                refine n_iload_n c_18_55 rfl ?_
                                                                refine n_if2_lt c_18_56 (by omega) (by omega) ?_ ?_
                                                                · intro h107
                                                                  exfalso; omega
                                                                · intro h108
                                                                  refine n_iload c_18_59 rfl ?_
                                                                  refine n_aload_n c_18_61 rfl ?_
                                                                  refine n_getV (bi := 0) c_18_62 sc_4.n rfl rfl rfl (t_4_0 hS) ?_
                                                                  intro z109 ez109 f110
                                                                  obtain rfl : z109 = 3 := by omega
                                                                  refine n_imul c_18_65 rfl ?_
                                                                  refine n_iload c_18_66 rfl ?_
                                                                  refine n_iadd c_18_68 rfl ?_
                                                                  refine n_istore (L2 := [some (2, 4), some (0, c), some (0, 6), some (0, z105), some (0, ((((0 * 3) + z84) * 3) + z100)), some (0, (((((((0 + 1) + 1) + 1) + 1) + 1) + 1) + 1)), some (0, z100)]) c_18_69 rfl rfl ?_
                                                                  refine n_iinc (L2 := [some (2, 4), some (0, c), some (0, 6), some (0, z105), some (0, ((((0 * 3) + z84) * 3) + z100)), some (0, ((((((((0 + 1) + 1) + 1) + 1) + 1) + 1) + 1) + 1)), some (0, z100)]) c_18_71 rfl rfl rfl ?_
                                                                  refine n_goto c_18_74 ?_
                                                                  refine n_iload c_18_8 rfl ?_
                                                                  refine n_iload_n c_18_10 rfl ?_
                                                                  refine n_iconst c_18_11 ?_
                                                                  refine n_iadd c_18_12 rfl ?_
                                                                  refine n_if2_ge c_18_13 (by omega) (by omega) ?_ ?_
                                                                  · intro h111
                                                                    exfalso; omega
                                                                  · intro h112
                                                                    refine n_aload_n c_18_16 rfl ?_
                                                                    refine n_getV (bi := 0) c_18_17 sc_4.n rfl rfl rfl (t_4_0 hS) ?_
                                                                    intro z113 ez113 f114
                                                                    obtain rfl : z113 = 3 := by omega
                                                                    refine n_iconst c_18_20 ?_
                                                                    refine n_if2_ne c_18_21 (by omega) (by omega) ?_ ?_
                                                                    · intro h115
                                                                      refine n_iload_n c_18_30 rfl ?_
                                                                      refine n_iconst c_18_31 ?_
                                                                      refine n_iremV c_18_32 (by omega) (by omega) ?_
                                                                      intro z116 _ f117
                                                                      refine n_istore (L2 := [some (2, 4), some (0, c), some (0, 6), some (0, z105), some (0, ((((0 * 3) + z84) * 3) + z100)), some (0, ((((((((0 + 1) + 1) + 1) + 1) + 1) + 1) + 1) + 1)), some (0, z116)]) c_18_33 rfl rfl ?_
                                                                      refine n_aload_n c_18_35 rfl ?_
                                                                      refine n_getV (bi := 0) c_18_36 sc_4.n rfl rfl rfl (t_4_0 hS) ?_
                                                                      intro z118 ez118 f119
                                                                      obtain rfl : z118 = 3 := by omega
                                                                      refine n_iconst c_18_39 ?_
                                                                      refine n_if2_ne c_18_40 (by omega) (by omega) ?_ ?_
                                                                      · intro h120
                                                                        refine n_iload_n c_18_49 rfl ?_
                                                                        refine n_iconst c_18_50 ?_
                                                                        refine n_idivV c_18_51 (by omega) (by omega) ?_
                                                                        intro z121 _ f122
                                                                        refine n_istore_n (L2 := [some (2, 4), some (0, c), some (0, 6), some (0, z121), some (0, ((((0 * 3) + z84) * 3) + z100)), some (0, ((((((((0 + 1) + 1) + 1) + 1) + 1) + 1) + 1) + 1)), some (0, z116)]) c_18_52 rfl rfl ?_
                                                                        refine n_iload c_18_53 rfl ?_
                                                                        refine n_iload_n c_18_55 rfl ?_
                                                                        refine n_if2_lt c_18_56 (by omega) (by omega) ?_ ?_
                                                                        · intro h123
                                                                          exfalso; omega
                                                                        · intro h124
                                                                          refine n_iload c_18_59 rfl ?_
                                                                          refine n_aload_n c_18_61 rfl ?_
                                                                          refine n_getV (bi := 0) c_18_62 sc_4.n rfl rfl rfl (t_4_0 hS) ?_
                                                                          intro z125 ez125 f126
                                                                          obtain rfl : z125 = 3 := by omega
                                                                          refine n_imul c_18_65 rfl ?_
                                                                          refine n_iload c_18_66 rfl ?_
                                                                          refine n_iadd c_18_68 rfl ?_
                                                                          refine n_istore (L2 := [some (2, 4), some (0, c), some (0, 6), some (0, z121), some (0, ((((((0 * 3) + z84) * 3) + z100) * 3) + z116)), some (0, ((((((((0 + 1) + 1) + 1) + 1) + 1) + 1) + 1) + 1)), some (0, z116)]) c_18_69 rfl rfl ?_
                                                                          refine n_iinc (L2 := [some (2, 4), some (0, c), some (0, 6), some (0, z121), some (0, ((((((0 * 3) + z84) * 3) + z100) * 3) + z116)), some (0, (((((((((0 + 1) + 1) + 1) + 1) + 1) + 1) + 1) + 1) + 1)), some (0, z116)]) c_18_71 rfl rfl rfl ?_
                                                                          refine n_goto c_18_74 ?_
                                                                          refine n_iload c_18_8 rfl ?_
                                                                          refine n_iload_n c_18_10 rfl ?_
                                                                          refine n_iconst c_18_11 ?_
                                                                          refine n_iadd c_18_12 rfl ?_
                                                                          refine n_if2_ge c_18_13 (by omega) (by omega) ?_ ?_
                                                                          · intro h127
                                                                            refine n_iload c_18_77 rfl ?_
                                                                            exact n_rI c_18_79 rfl ⟨rfl, by omega⟩
                                                                          · intro h128
                                                                            exfalso; omega
                                                                      · intro h129
                                                                        exfalso; omega
                                                                    · intro h130
                                                                      exfalso; omega
                                                              · intro h131
                                                                exfalso; omega
                                                            · intro h132
                                                              exfalso; omega
                                                      · intro h133
                                                        exfalso; omega
                                                    · intro h134
                                                      exfalso; omega
                                                · intro h135
                                                  exfalso; omega
                                              · intro h136
                                                exfalso; omega
                                            · intro h137
                                              exfalso; omega
                                        · intro h138
                                          exfalso; omega
                                      · intro h139
                                        exfalso; omega
                                    · intro h140
                                      exfalso; omega
                                · intro h141
                                  exfalso; omega
                              · intro h142
                                exfalso; omega
                            · intro h143
                              exfalso; omega
                        · intro h144
                          exfalso; omega
                      · intro h145
                        exfalso; omega
                    · intro h146
                      exfalso; omega
                · intro h147
                  exfalso; omega
              · intro h148
                exfalso; omega
            · intro h149
              exfalso; omega
        · intro h150
          exfalso; omega
      · intro h151
        exfalso; omega
    · intro h152
      exfalso; omega

set_option maxHeartbeats 4000000 in
theorem isSlot_3_c {xs : List Int32} {e : Nat} {ac : Int} {M0 M : nM} {s : Int} (hS : Sf 3 ac M0 M) (hs : -2147483648 ≤ s ∧ s ≤ 2147483647) : ∀ nn : Nat, (1 < (nn : Int) → nW xs e 84 14 [none, none] [] M (nPI fun z M1 => M = M1 ∧ (0 ≤ z ∧ z ≤ 1) ∧ (z = 0 ∨ (0 ≤ s ∧ s ≤ 7)))) := by
  have hd : (3 : Int) = 2 ∨ (3 : Int) = 3 := by decide
  have hac := hS.2.2.2.2
  intro nn
  induction nn with
  | zero => intros; omega
  | succ nn ih =>
    intro hnn
    refine n_iconst c_84_14 ?_
    exact n_rZ c_84_15 rfl (by omega) ⟨rfl, by omega, by omega⟩
set_option maxHeartbeats 4000000 in
theorem isSlot_3 {xs : List Int32} {e : Nat} {ac : Int} {M0 M : nM} {s : Int} (hS : Sf 3 ac M0 M) (hs : -2147483648 ≤ s ∧ s ≤ 2147483647) : nW xs e 84 0 [some (2, 8), some (0, s)] [] M (nPI fun z M1 => M = M1 ∧ (0 ≤ z ∧ z ≤ 1) ∧ (z = 0 ∨ (0 ≤ s ∧ s ≤ 7))) := by
  have hd : (3 : Int) = 2 ∨ (3 : Int) = 3 := by decide
  have hac := hS.2.2.2.2
  refine n_iload_n c_84_0 rfl ?_
  refine n_if0_lt c_84_1 (by omega) ?_ ?_
  · intro h1
    refine n_fg (le_n (le_n le_0)) ?_
    exact (isSlot_3_c hS hs 12)   (by omega)
  · intro h2
    refine n_iload_n c_84_4 rfl ?_
    refine n_bipush c_84_5 rfl ?_
    refine n_if2_ge c_84_7 (by omega) (by omega) ?_ ?_
    · intro h3
      refine n_fg (le_n (le_n le_0)) ?_
      exact (isSlot_3_c hS hs 12)   (by omega)
    · intro h4
      refine n_iconst c_84_10 ?_
      refine n_goto c_84_11 ?_
      exact n_rZ c_84_15 rfl (by omega) ⟨rfl, by omega, by omega⟩

set_option maxHeartbeats 4000000 in
theorem hasRow_3_c {xs : List Int32} {e : Nat} {ac : Int} {M0 M : nM} {s : Int} (hS : Sf 3 ac M0 M) (hs : -2147483648 ≤ s ∧ s ≤ 2147483647) : ∀ nn : Nat, (1 < (nn : Int) → nW xs (e + 1) 85 21 [none, none] [] M (nPI fun z M1 => M = M1 ∧ (0 ≤ z ∧ z ≤ 1) ∧ (z = 0 ∨ (0 ≤ s ∧ s ≤ 7)))) := by
  have hd : (3 : Int) = 2 ∨ (3 : Int) = 3 := by decide
  have hac := hS.2.2.2.2
  intro nn
  induction nn with
  | zero => intros; omega
  | succ nn ih =>
    intro hnn
    refine n_iconst c_85_21 ?_
    exact n_rZ c_85_22 rfl (by omega) ⟨rfl, by omega, by omega⟩
set_option maxHeartbeats 4000000 in
theorem hasRow_3 {xs : List Int32} {e : Nat} {ac : Int} {M0 M : nM} {s : Int} (hS : Sf 3 ac M0 M) (hs : -2147483648 ≤ s ∧ s ≤ 2147483647) : nW xs (e + 1) 85 0 [some (2, 8), some (0, s)] [] M (nPI fun z M1 => M = M1 ∧ (0 ≤ z ∧ z ≤ 1) ∧ (z = 0 ∨ (0 ≤ s ∧ s ≤ 7))) := by
  have hd : (3 : Int) = 2 ∨ (3 : Int) = 3 := by decide
  have hac := hS.2.2.2.2
  refine n_aload_n c_85_0 rfl ?_
  refine n_iload_n c_85_1 rfl ?_
  refine n_v1I c_85_2 rfl sc_8.n rfl rfl rfl rfl (isSlot_3 (s := s) hS (by omega)) ?_
  intro z1 M2 hP3
  obtain ⟨eM, f3, f3p0⟩ := hP3
  subst eM
  refine n_if0_eq c_85_5 (by omega) ?_ ?_
  · intro h4
    refine n_fg (le_n (le_n le_0)) ?_
    exact (hasRow_3_c hS hs 12)   (by omega)
  · intro h5
    refine n_aload_n c_85_8 rfl ?_
    refine n_getR c_85_9 sc_8.n rfl rfl rfl r_8_2 ?_
    refine n_iload_n c_85_12 rfl ?_
    refine n_ialoadV c_85_13 sc_11.n rfl rfl rfl (by omega) (t_11 hS (by omega)) ?_
    intro z6 ez6 f7
    refine n_if0_lt c_85_14 (by omega) ?_ ?_
    · intro h8
      refine n_fg (le_n (le_n le_0)) ?_
      exact (hasRow_3_c hS hs 12)   (by omega)
    · intro h9
      refine n_iconst c_85_17 ?_
      refine n_goto c_85_18 ?_
      exact n_rZ c_85_22 rfl (by omega) ⟨rfl, by omega, by omega⟩

set_option maxHeartbeats 4000000 in
theorem read2_3_c {xs : List Int32} {e : Nat} {ac : Int} {M0 M : nM} {s i : Int} (hS : Sf 3 ac M0 M) (hs : 0 ≤ s ∧ s ≤ 7) (hi : -2147483648 ≤ i ∧ i ≤ 2147483647) : ∀ nn : Nat, (2 < (nn : Int) → nW xs e 89 14 [none, none, none, none, none, none] [] M (nPI fun z M1 => M = M1 ∧ (-6 ≤ z ∧ z ≤ 2))) ∧ (1 < (nn : Int) → nW xs e 89 45 [none, none, none, none, none, none] [] M (nPI fun z M1 => M = M1 ∧ (-6 ≤ z ∧ z ≤ 2))) := by
  have hd : (3 : Int) = 2 ∨ (3 : Int) = 3 := by decide
  have hac := hS.2.2.2.2
  intro nn
  induction nn with
  | zero => refine ⟨?_, ?_⟩ <;> (intros; omega)
  | succ nn ih =>
    refine ⟨?_, ?_⟩
    · intro hnn
      refine n_bipush c_89_14 rfl ?_
      exact n_rI c_89_16 rfl ⟨rfl, by omega⟩
    · intro hnn
      refine n_bipush c_89_45 rfl ?_
      exact n_rI c_89_47 rfl ⟨rfl, by omega⟩
set_option maxHeartbeats 4000000 in
theorem read2_3 {xs : List Int32} {e : Nat} {ac : Int} {M0 M : nM} {s i : Int} (hS : Sf 3 ac M0 M) (hs : 0 ≤ s ∧ s ≤ 7) (hi : -2147483648 ≤ i ∧ i ≤ 2147483647) : nW xs e 89 0 [some (2, 8), some (0, s), some (0, i), some (0, 2), none, none] [] M (nPI fun z M1 => M = M1 ∧ (-6 ≤ z ∧ z ≤ 2)) := by
  have hd : (3 : Int) = 2 ∨ (3 : Int) = 3 := by decide
  have hac := hS.2.2.2.2
  refine n_iload_n c_89_0 rfl ?_
  refine n_if0_lt c_89_1 (by omega) ?_ ?_
  · intro h1
    refine n_fg (le_n (le_n (le_n (le_n (le_n (le_n le_0)))))) ?_
    exact (read2_3_c hS hs hi 14).1   (by omega)
  · intro h2
    refine n_iload_n c_89_4 rfl ?_
    refine n_aload_n c_89_5 rfl ?_
    refine n_getR c_89_6 sc_8.n rfl rfl rfl r_8_2 ?_
    refine n_iload_n c_89_9 rfl ?_
    refine n_ialoadV c_89_10 sc_11.n rfl rfl rfl (by omega) (t_11 hS (by omega)) ?_
    intro z3 ez3 f4
    refine n_if2_lt c_89_11 (by omega) (by omega) ?_ ?_
    · intro h5
      refine n_aload_n c_89_17 rfl ?_
      refine n_getR c_89_18 sc_8.n rfl rfl rfl r_8_0 ?_
      refine n_iload_n c_89_21 rfl ?_
      refine n_bipush c_89_22 rfl ?_
      refine n_imul c_89_24 rfl ?_
      refine n_iload_n c_89_25 rfl ?_
      refine n_iadd c_89_26 rfl ?_
      refine n_laloadV c_89_27 sc_9.n rfl rfl rfl (by omega) (t_9 hS (by omega)) ?_
      intro z6 ez6 f7
      refine n_lstore (L2 := [some (2, 8), some (0, s), some (0, i), some (0, 2), some (1, z6), none]) c_89_28 rfl rfl ?_
      refine n_lload c_89_30 rfl ?_
      refine n_lconst (n := 0) c_89_32 rfl ?_
      refine n_lcmp c_89_33 ?_
      refine n_lif_lt c_89_34 (by omega) (by omega) ?_ ?_
      · intro h8
        refine n_fg (le_n (le_n (le_n (le_n (le_n (le_n le_0)))))) ?_
        exact (read2_3_c hS hs hi 14).2   (by omega)
      · intro h9
        refine n_lload c_89_37 rfl ?_
        refine n_iload_n c_89_39 rfl ?_
        refine n_i2l c_89_40 (by omega) ?_
        refine n_lcmp c_89_41 ?_
        refine n_lif_le c_89_42 (by omega) (by omega) ?_ ?_
        · intro h10
          refine n_lload c_89_48 rfl ?_
          refine n_l2i c_89_50 ?_
          exact n_rI c_89_51 rfl ⟨rfl, by omega⟩
        · intro h11
          refine n_fg (le_n (le_n (le_n (le_n (le_n (le_n le_0)))))) ?_
          exact (read2_3_c hS hs hi 14).2   (by omega)
    · intro h12
      refine n_fg (le_n (le_n (le_n (le_n (le_n (le_n le_0)))))) ?_
      exact (read2_3_c hS hs hi 14).1   (by omega)

set_option maxHeartbeats 4000000 in
theorem read27_3_c {xs : List Int32} {e : Nat} {ac : Int} {M0 M : nM} {s i : Int} (hS : Sf 3 ac M0 M) (hs : 0 ≤ s ∧ s ≤ 7) (hi : -2147483648 ≤ i ∧ i ≤ 2147483647) : ∀ nn : Nat, (2 < (nn : Int) → nW xs e 89 14 [none, none, none, none, none, none] [] M (nPI fun z M1 => M = M1 ∧ (-6 ≤ z ∧ z ≤ 27))) ∧ (1 < (nn : Int) → nW xs e 89 45 [none, none, none, none, none, none] [] M (nPI fun z M1 => M = M1 ∧ (-6 ≤ z ∧ z ≤ 27))) := by
  have hd : (3 : Int) = 2 ∨ (3 : Int) = 3 := by decide
  have hac := hS.2.2.2.2
  intro nn
  induction nn with
  | zero => refine ⟨?_, ?_⟩ <;> (intros; omega)
  | succ nn ih =>
    refine ⟨?_, ?_⟩
    · intro hnn
      refine n_bipush c_89_14 rfl ?_
      exact n_rI c_89_16 rfl ⟨rfl, by omega⟩
    · intro hnn
      refine n_bipush c_89_45 rfl ?_
      exact n_rI c_89_47 rfl ⟨rfl, by omega⟩
set_option maxHeartbeats 4000000 in
theorem read27_3 {xs : List Int32} {e : Nat} {ac : Int} {M0 M : nM} {s i : Int} (hS : Sf 3 ac M0 M) (hs : 0 ≤ s ∧ s ≤ 7) (hi : -2147483648 ≤ i ∧ i ≤ 2147483647) : nW xs e 89 0 [some (2, 8), some (0, s), some (0, i), some (0, 27), none, none] [] M (nPI fun z M1 => M = M1 ∧ (-6 ≤ z ∧ z ≤ 27)) := by
  have hd : (3 : Int) = 2 ∨ (3 : Int) = 3 := by decide
  have hac := hS.2.2.2.2
  refine n_iload_n c_89_0 rfl ?_
  refine n_if0_lt c_89_1 (by omega) ?_ ?_
  · intro h1
    refine n_fg (le_n (le_n (le_n (le_n (le_n (le_n le_0)))))) ?_
    exact (read27_3_c hS hs hi 14).1   (by omega)
  · intro h2
    refine n_iload_n c_89_4 rfl ?_
    refine n_aload_n c_89_5 rfl ?_
    refine n_getR c_89_6 sc_8.n rfl rfl rfl r_8_2 ?_
    refine n_iload_n c_89_9 rfl ?_
    refine n_ialoadV c_89_10 sc_11.n rfl rfl rfl (by omega) (t_11 hS (by omega)) ?_
    intro z3 ez3 f4
    refine n_if2_lt c_89_11 (by omega) (by omega) ?_ ?_
    · intro h5
      refine n_aload_n c_89_17 rfl ?_
      refine n_getR c_89_18 sc_8.n rfl rfl rfl r_8_0 ?_
      refine n_iload_n c_89_21 rfl ?_
      refine n_bipush c_89_22 rfl ?_
      refine n_imul c_89_24 rfl ?_
      refine n_iload_n c_89_25 rfl ?_
      refine n_iadd c_89_26 rfl ?_
      refine n_laloadV c_89_27 sc_9.n rfl rfl rfl (by omega) (t_9 hS (by omega)) ?_
      intro z6 ez6 f7
      refine n_lstore (L2 := [some (2, 8), some (0, s), some (0, i), some (0, 27), some (1, z6), none]) c_89_28 rfl rfl ?_
      refine n_lload c_89_30 rfl ?_
      refine n_lconst (n := 0) c_89_32 rfl ?_
      refine n_lcmp c_89_33 ?_
      refine n_lif_lt c_89_34 (by omega) (by omega) ?_ ?_
      · intro h8
        refine n_fg (le_n (le_n (le_n (le_n (le_n (le_n le_0)))))) ?_
        exact (read27_3_c hS hs hi 14).2   (by omega)
      · intro h9
        refine n_lload c_89_37 rfl ?_
        refine n_iload_n c_89_39 rfl ?_
        refine n_i2l c_89_40 (by omega) ?_
        refine n_lcmp c_89_41 ?_
        refine n_lif_le c_89_42 (by omega) (by omega) ?_ ?_
        · intro h10
          refine n_lload c_89_48 rfl ?_
          refine n_l2i c_89_50 ?_
          exact n_rI c_89_51 rfl ⟨rfl, by omega⟩
        · intro h11
          refine n_fg (le_n (le_n (le_n (le_n (le_n (le_n le_0)))))) ?_
          exact (read27_3_c hS hs hi 14).2   (by omega)
    · intro h12
      refine n_fg (le_n (le_n (le_n (le_n (le_n (le_n le_0)))))) ?_
      exact (read27_3_c hS hs hi 14).1   (by omega)

set_option maxHeartbeats 4000000 in
theorem filled_3_c {xs : List Int32} {e : Nat} {ac : Int} {M0 M : nM} (hS : Sf 3 ac M0 M)  : ∀ nn : Nat, (∀ (x1 x2 : Int), (0 ≤ x1 ∧ x1 ≤ 8) → (0 ≤ x2 ∧ x2 ≤ 8) → (x1 ≤ x2) → (8 - x2) * 2 + 2 < (nn : Int) → nW xs e 90 4 [some (2, 8), some (0, x1), some (0, x2)] [] M (nPI fun z M1 => M = M1 ∧ (0 ≤ z ∧ z ≤ 8))) ∧ (∀ (x1 x2 : Int), (0 ≤ x1 ∧ x1 ≤ 8) → (0 ≤ x2 ∧ x2 ≤ 7) → (x1 ≤ x2 + 1) → (8 - x2) * 2 + 1 < (nn : Int) → nW xs e 90 22 [some (2, 8), some (0, x1), some (0, x2)] [] M (nPI fun z M1 => M = M1 ∧ (0 ≤ z ∧ z ≤ 8))) := by
  have hd : (3 : Int) = 2 ∨ (3 : Int) = 3 := by decide
  have hac := hS.2.2.2.2
  intro nn
  induction nn with
  | zero => refine ⟨?_, ?_⟩ <;> (intros; omega)
  | succ nn ih =>
    refine ⟨?_, ?_⟩
    · intro x1 x2 k1 k2 v0 hnn
      refine n_iload_n c_90_4 rfl ?_
      refine n_bipush c_90_5 rfl ?_
      refine n_if2_ge c_90_7 (by omega) (by omega) ?_ ?_
      · intro h1
        refine n_iload_n c_90_28 rfl ?_
        exact n_rI c_90_29 rfl ⟨rfl, by omega⟩
      · intro h2
        refine n_aload_n c_90_10 rfl ?_
        refine n_getR c_90_11 sc_8.n rfl rfl rfl r_8_2 ?_
        refine n_iload_n c_90_14 rfl ?_
        refine n_ialoadV c_90_15 sc_11.n rfl rfl rfl (by omega) (t_11 hS (by omega)) ?_
        intro z3 ez3 f4
        refine n_if0_lt c_90_16 (by omega) ?_ ?_
        · intro h5
          refine n_fg (le_s (le_s (le_s le_0))) ?_
          exact ih.2 _ _ (by omega) (by omega) (by omega) (by omega)
        · intro h6
          refine n_iinc (L2 := [some (2, 8), some (0, (x1 + 1)), some (0, x2)]) c_90_19 rfl rfl rfl ?_
          refine n_fg (le_s (le_s (le_s le_0))) ?_
          exact ih.2 _ _ (by omega) (by omega) (by omega) (by omega)
    · intro x1 x2 k1 k2 v0 hnn
      refine n_iinc (L2 := [some (2, 8), some (0, x1), some (0, (x2 + 1))]) c_90_22 rfl rfl rfl ?_
      refine n_goto c_90_25 ?_
      refine n_fg (le_s (le_s (le_s le_0))) ?_
      exact ih.1 _ _ (by omega) (by omega) (by omega) (by omega)
set_option maxHeartbeats 4000000 in
theorem filled_3 {xs : List Int32} {e : Nat} {ac : Int} {M0 M : nM} (hS : Sf 3 ac M0 M)  : nW xs e 90 0 [some (2, 8), none, none] [] M (nPI fun z M1 => M = M1 ∧ (0 ≤ z ∧ z ≤ 8)) := by
  have hd : (3 : Int) = 2 ∨ (3 : Int) = 3 := by decide
  have hac := hS.2.2.2.2
  refine n_iconst c_90_0 ?_
  refine n_istore_n (L2 := [some (2, 8), some (0, 0), none]) c_90_1 rfl rfl ?_
  refine n_iconst c_90_2 ?_
  refine n_istore_n (L2 := [some (2, 8), some (0, 0), some (0, 0)]) c_90_3 rfl rfl ?_
  refine n_fg (le_s (le_s (le_s le_0))) ?_
  exact (filled_3_c hS  50).1 _ _ (by omega) (by omega) (by omega) (by omega)

set_option maxHeartbeats 4000000 in
theorem staysIn_3_c {xs : List Int32} {e : Nat} {ac : Int} {M0 M : nM} {p s : Int} (hS : Sf 3 ac M0 M) (hp : ActAt p) (hpl : p < 55 + 3 * ac) (hs : -2147483648 ≤ s ∧ s ≤ 2147483647) : ∀ nn : Nat, (∀ (x3 : Int), (0 ≤ x3 ∧ x3 ≤ 27) → (27 - x3) * 2 + 2 < (nn : Int) → nW xs (e + 1) 3 2 [some (2, p), some (0, s), some (2, 4), some (0, x3), none] [] M (nPI fun z M1 => M = M1 ∧ (0 ≤ z ∧ z ≤ 1))) ∧ (∀ (x3 : Int), (0 ≤ x3 ∧ x3 ≤ 26) → (27 - x3) * 2 + 1 < (nn : Int) → nW xs (e + 1) 3 45 [some (2, p), some (0, s), some (2, 4), some (0, x3), none] [] M (nPI fun z M1 => M = M1 ∧ (0 ≤ z ∧ z ≤ 1))) := by
  have hd : (3 : Int) = 2 ∨ (3 : Int) = 3 := by decide
  have hac := hS.2.2.2.2
  intro nn
  induction nn with
  | zero => refine ⟨?_, ?_⟩ <;> (intros; omega)
  | succ nn ih =>
    refine ⟨?_, ?_⟩
    · intro x3 k3 hnn
      refine n_iload_n c_3_2 rfl ?_
      refine n_aload_n c_3_3 rfl ?_
      refine n_getV (bi := 1) c_3_4 hp.c0.1.n rfl rfl rfl (t_actl hS hp hpl).2 ?_
      intro z1 ez1 f2
      refine n_if2_ge c_3_7 (by omega) (by omega) ?_ ?_
      · intro h3
        refine n_iconst c_3_51 ?_
        exact n_rZ c_3_52 rfl (by omega) ⟨rfl, by omega⟩
      · intro h4
        refine n_aload_n c_3_10 rfl ?_
        refine n_iload_n c_3_11 rfl ?_
        refine n_aload_n c_3_12 rfl ?_
        refine n_getV (bi := 0) c_3_13 hp.c0.1.n rfl rfl rfl (t_actl hS hp hpl).1 ?_
        intro z5 ez5 f6
        refine n_v2I c_3_16 rfl sc_4.n rfl rfl rfl rfl (thingsOf_3 (r := x3) (p := z5) hS (by omega) (by omega)) ?_
        intro z7 M8 hP9
        obtain ⟨eM, f9⟩ := hP9
        subst eM
        refine n_istore (L2 := [some (2, p), some (0, s), some (2, 4), some (0, x3), some (0, z7)]) c_3_19 rfl rfl ?_
        refine n_iload c_3_21 rfl ?_
        refine n_iload_n c_3_23 rfl ?_
        refine n_i_iand c_3_24 rfl ?_
        have f10 := n_and_r z7 s
        generalize (n_and z7 s) = z11 at f10 ⊢
        refine n_iload c_3_25 rfl ?_
        refine n_if2_ne c_3_27 (by omega) (by omega) ?_ ?_
        · intro h12
          refine n_fg (le_s (le_s (le_s (le_s (le_n le_0))))) ?_
          exact ih.2 _ (by omega) (by omega)
        · intro h13
          refine n_iload_n c_3_30 rfl ?_
          refine n_aload_n c_3_31 rfl ?_
          refine n_getR c_3_32 hp.c0.1.n rfl rfl rfl hp.r.1 ?_
          refine n_iload_n c_3_35 rfl ?_
          refine n_ialoadV c_3_36 hp.c0.2.1.n rfl rfl rfl (by omega) (t_actrl hS hp hpl (Or.inl rfl) (by omega) (by omega)) ?_
          intro z14 ez14 f15
          refine n_i_ishr c_3_37 rfl ?_
          have f16 := n_shr_r s z14
          generalize (n_shr s z14) = z17 at f16 ⊢
          refine n_iconst c_3_38 ?_
          refine n_i_iand c_3_39 rfl ?_
          have f18 := n_and_y (x := z17) (y := 1) (by omega)
          generalize (n_and z17 1) = z19 at f18 ⊢
          refine n_if0_ne c_3_40 (by omega) ?_ ?_
          · intro h20
            refine n_fg (le_s (le_s (le_s (le_s (le_n le_0))))) ?_
            exact ih.2 _ (by omega) (by omega)
          · intro h21
            refine n_iconst c_3_43 ?_
            exact n_rZ c_3_44 rfl (by omega) ⟨rfl, by omega⟩
    · intro x3 k3 hnn
      refine n_iinc (L2 := [some (2, p), some (0, s), some (2, 4), some (0, (x3 + 1)), none]) c_3_45 rfl rfl rfl ?_
      refine n_goto c_3_48 ?_
      refine n_fg (le_s (le_s (le_s (le_s (le_n le_0))))) ?_
      exact ih.1 _ (by omega) (by omega)
set_option maxHeartbeats 4000000 in
theorem staysIn_3 {xs : List Int32} {e : Nat} {ac : Int} {M0 M : nM} {p s : Int} (hS : Sf 3 ac M0 M) (hp : ActAt p) (hpl : p < 55 + 3 * ac) (hs : -2147483648 ≤ s ∧ s ≤ 2147483647) : nW xs (e + 1) 3 0 [some (2, p), some (0, s), some (2, 4), none, none] [] M (nPI fun z M1 => M = M1 ∧ (0 ≤ z ∧ z ≤ 1)) := by
  have hd : (3 : Int) = 2 ∨ (3 : Int) = 3 := by decide
  have hac := hS.2.2.2.2
  refine n_iconst c_3_0 ?_
  refine n_istore_n (L2 := [some (2, p), some (0, s), some (2, 4), some (0, 0), none]) c_3_1 rfl rfl ?_
  refine n_fg (le_s (le_s (le_s (le_s (le_n le_0))))) ?_
  exact (staysIn_3_c hS hp hpl hs 126).1 _ (by omega) (by omega)

set_option maxHeartbeats 4000000 in
theorem part0_0_3 {xs : List Int32} {e : Nat} {ac : Int} {M0 M : nM} (hS : Sf 3 ac M0 M)  : nW xs e 6 0 [some (0, 0), some (0, 0)] [] M (nPI fun z M1 => M = M1 ∧ (0 ≤ z ∧ z ≤ 0)) := by
  have hd : (3 : Int) = 2 ∨ (3 : Int) = 3 := by decide
  have hac := hS.2.2.2.2
  refine n_iload_n c_6_0 rfl ?_
  refine n_iconst c_6_1 ?_
  refine n_iload_n c_6_2 rfl ?_
  refine n_imul c_6_3 rfl ?_
  refine n_i_ishr (z := 0) c_6_4 (by decide) ?_
  refine n_iconst c_6_5 ?_
  refine n_i_iand (z := 0) c_6_6 (by decide) ?_
  exact n_rI c_6_7 rfl ⟨rfl, by omega⟩

set_option maxHeartbeats 4000000 in
theorem part0_1_3 {xs : List Int32} {e : Nat} {ac : Int} {M0 M : nM} (hS : Sf 3 ac M0 M)  : nW xs e 6 0 [some (0, 0), some (0, 1)] [] M (nPI fun z M1 => M = M1 ∧ (0 ≤ z ∧ z ≤ 0)) := by
  have hd : (3 : Int) = 2 ∨ (3 : Int) = 3 := by decide
  have hac := hS.2.2.2.2
  refine n_iload_n c_6_0 rfl ?_
  refine n_iconst c_6_1 ?_
  refine n_iload_n c_6_2 rfl ?_
  refine n_imul c_6_3 rfl ?_
  refine n_i_ishr (z := 0) c_6_4 (by decide) ?_
  refine n_iconst c_6_5 ?_
  refine n_i_iand (z := 0) c_6_6 (by decide) ?_
  exact n_rI c_6_7 rfl ⟨rfl, by omega⟩

set_option maxHeartbeats 4000000 in
theorem part0_2_3 {xs : List Int32} {e : Nat} {ac : Int} {M0 M : nM} (hS : Sf 3 ac M0 M)  : nW xs e 6 0 [some (0, 0), some (0, 2)] [] M (nPI fun z M1 => M = M1 ∧ (0 ≤ z ∧ z ≤ 0)) := by
  have hd : (3 : Int) = 2 ∨ (3 : Int) = 3 := by decide
  have hac := hS.2.2.2.2
  refine n_iload_n c_6_0 rfl ?_
  refine n_iconst c_6_1 ?_
  refine n_iload_n c_6_2 rfl ?_
  refine n_imul c_6_3 rfl ?_
  refine n_i_ishr (z := 0) c_6_4 (by decide) ?_
  refine n_iconst c_6_5 ?_
  refine n_i_iand (z := 0) c_6_6 (by decide) ?_
  exact n_rI c_6_7 rfl ⟨rfl, by omega⟩

set_option maxHeartbeats 4000000 in
theorem part0_3 {xs : List Int32} {e : Nat} {ac : Int} {M0 M : nM} {t : Int} (hS : Sf 3 ac M0 M) (ht : 0 ≤ t ∧ t ≤ 2) : nW xs e 6 0 [some (0, 0), some (0, t)] [] M (nPI fun z M1 => M = M1 ∧ (0 ≤ z ∧ z ≤ 2)) := by
  rcases (show t = 0 ∨ t = 1 ∨ t = 2 by omega) with rfl | rfl | rfl
  · exact n_post (part0_0_3 hS ) (fun w M1 h => by obtain ⟨z, rfl, h1, h2⟩ := h; exact ⟨z, rfl, h1, by omega⟩)
  · exact n_post (part0_1_3 hS ) (fun w M1 h => by obtain ⟨z, rfl, h1, h2⟩ := h; exact ⟨z, rfl, h1, by omega⟩)
  · exact n_post (part0_2_3 hS ) (fun w M1 h => by obtain ⟨z, rfl, h1, h2⟩ := h; exact ⟨z, rfl, h1, by omega⟩)

set_option maxHeartbeats 4000000 in
theorem keepsParts0_3_c {xs : List Int32} {e : Nat} {ac : Int} {M0 M : nM} {p : Int} (hS : Sf 3 ac M0 M) (hp : ActAt p) (hpl : p < 55 + 3 * ac) : ∀ nn : Nat, (∀ (x3 : Int), (0 ≤ x3 ∧ x3 ≤ 27) → (27 - x3) * 1 + 1 < (nn : Int) → nW xs (e + 1) 4 2 [some (2, p), some (0, 0), some (2, 4), some (0, x3), none] [] M (nPI fun z M1 => M = M1 ∧ (0 ≤ z ∧ z ≤ 1))) := by
  have hd : (3 : Int) = 2 ∨ (3 : Int) = 3 := by decide
  have hac := hS.2.2.2.2
  intro nn
  induction nn with
  | zero => intros; omega
  | succ nn ih =>
    intro x3 k3 hnn
    refine n_iload_n c_4_2 rfl ?_
    refine n_aload_n c_4_3 rfl ?_
    refine n_getV (bi := 1) c_4_4 hp.c0.1.n rfl rfl rfl (t_actl hS hp hpl).2 ?_
    intro z1 ez1 f2
    refine n_if2_ge c_4_7 (by omega) (by omega) ?_ ?_
    · intro h3
      refine n_iconst c_4_90 ?_
      exact n_rZ c_4_91 rfl (by omega) ⟨rfl, by omega⟩
    · intro h4
      refine n_iload_n c_4_10 rfl ?_
      refine n_aload_n c_4_11 rfl ?_
      refine n_getR c_4_12 sc_4.n rfl rfl rfl r_4_2 ?_
      refine n_iload_n c_4_15 rfl ?_
      refine n_ialoadV c_4_16 sc_5.n rfl rfl rfl (by omega) (t_5d hS hd (by omega) (by omega)) ?_
      intro z5 ez5 f6
      refine n_s2I c_4_17 rfl rfl rfl rfl (part0_3 (t := z5) hS (by omega)) ?_
      intro z7 M8 hP9
      obtain ⟨eM, f9⟩ := hP9
      subst eM
      refine n_aload_n c_4_20 rfl ?_
      refine n_getV (bi := 0) c_4_21 sc_4.n rfl rfl rfl (t_4_0 hS) ?_
      intro z10 ez10 f11
      obtain rfl : z10 = 3 := by omega
      refine n_imul c_4_24 rfl ?_
      refine n_iload_n c_4_25 rfl ?_
      refine n_aload_n c_4_26 rfl ?_
      refine n_getR c_4_27 sc_4.n rfl rfl rfl r_4_3 ?_
      refine n_iload_n c_4_30 rfl ?_
      refine n_ialoadV c_4_31 sc_6.n rfl rfl rfl (by omega) (t_6d hS hd (by omega) (by omega)) ?_
      intro z12 ez12 f13
      refine n_s2I c_4_32 rfl rfl rfl rfl (part0_3 (t := z12) hS (by omega)) ?_
      intro z14 M15 hP16
      obtain ⟨eM, f16⟩ := hP16
      subst eM
      refine n_iadd c_4_35 rfl ?_
      refine n_istore (L2 := [some (2, p), some (0, 0), some (2, 4), some (0, x3), some (0, ((z7 * 3) + z14))]) c_4_36 rfl rfl ?_
      refine n_iload c_4_38 rfl ?_
      refine n_aload_n c_4_40 rfl ?_
      refine n_getV (bi := 0) c_4_41 sc_4.n rfl rfl rfl (t_4_0 hS) ?_
      intro z17 ez17 f18
      obtain rfl : z17 = 3 := by omega
      refine n_imul c_4_44 rfl ?_
      refine n_iload_n c_4_45 rfl ?_
      refine n_aload_n c_4_46 rfl ?_
      refine n_getR c_4_47 sc_4.n rfl rfl rfl r_4_4 ?_
      refine n_iload_n c_4_50 rfl ?_
      refine n_ialoadV c_4_51 sc_7.n rfl rfl rfl (by omega) (t_7d hS hd (by omega) (by omega)) ?_
      intro z19 ez19 f20
      refine n_s2I c_4_52 rfl rfl rfl rfl (part0_3 (t := z19) hS (by omega)) ?_
      intro z21 M22 hP23
      obtain ⟨eM, f23⟩ := hP23
      subst eM
      refine n_iadd c_4_55 rfl ?_
      refine n_istore (L2 := [some (2, p), some (0, 0), some (2, 4), some (0, x3), some (0, ((((z7 * 3) + z14) * 3) + z21))]) c_4_56 rfl rfl ?_
      refine n_iload_n c_4_58 rfl ?_
      refine n_aload_n c_4_59 rfl ?_
      refine n_getR c_4_60 hp.c0.1.n rfl rfl rfl hp.r.1 ?_
      refine n_iload_n c_4_63 rfl ?_
      refine n_ialoadV c_4_64 hp.c0.2.1.n rfl rfl rfl (by omega) (t_actrl hS hp hpl (Or.inl rfl) (by omega) (by omega)) ?_
      intro z24 ez24 f25
      refine n_s2I c_4_65 rfl rfl rfl rfl (part0_3 (t := z24) hS (by omega)) ?_
      intro z26 M27 hP28
      obtain ⟨eM, f28⟩ := hP28
      subst eM
      refine n_iload_n c_4_68 rfl ?_
      refine n_aload_n c_4_69 rfl ?_
      refine n_getR c_4_70 hp.c0.1.n rfl rfl rfl hp.r.1 ?_
      refine n_iload c_4_73 rfl ?_
      refine n_ialoadV c_4_75 hp.c0.2.1.n rfl rfl rfl (by omega) (t_actrl hS hp hpl (Or.inl rfl) (by omega) (by omega)) ?_
      intro z29 ez29 f30
      refine n_s2I c_4_76 rfl rfl rfl rfl (part0_3 (t := z29) hS (by omega)) ?_
      intro z31 M32 hP33
      obtain ⟨eM, f33⟩ := hP33
      subst eM
      refine n_if2_eq c_4_79 (by omega) (by omega) ?_ ?_
      · intro h34
        refine n_iinc (L2 := [some (2, p), some (0, 0), some (2, 4), some (0, (x3 + 1)), some (0, ((((z7 * 3) + z14) * 3) + z21))]) c_4_84 rfl rfl rfl ?_
        refine n_goto c_4_87 ?_
        refine n_fg (le_s (le_s (le_s (le_s (le_n le_0))))) ?_
        exact ih _ (by omega) (by omega)
      · intro h35
        refine n_iconst c_4_82 ?_
        exact n_rZ c_4_83 rfl (by omega) ⟨rfl, by omega⟩
set_option maxHeartbeats 4000000 in
theorem keepsParts0_3 {xs : List Int32} {e : Nat} {ac : Int} {M0 M : nM} {p : Int} (hS : Sf 3 ac M0 M) (hp : ActAt p) (hpl : p < 55 + 3 * ac) : nW xs (e + 1) 4 0 [some (2, p), some (0, 0), some (2, 4), none, none] [] M (nPI fun z M1 => M = M1 ∧ (0 ≤ z ∧ z ≤ 1)) := by
  have hd : (3 : Int) = 2 ∨ (3 : Int) = 3 := by decide
  have hac := hS.2.2.2.2
  refine n_iconst c_4_0 ?_
  refine n_istore_n (L2 := [some (2, p), some (0, 0), some (2, 4), some (0, 0), none]) c_4_1 rfl rfl ?_
  refine n_fg (le_s (le_s (le_s (le_s (le_n le_0))))) ?_
  exact (keepsParts0_3_c hS hp hpl 68) _ (by omega) (by omega)

set_option maxHeartbeats 4000000 in
theorem part4_0_3 {xs : List Int32} {e : Nat} {ac : Int} {M0 M : nM} (hS : Sf 3 ac M0 M)  : nW xs e 6 0 [some (0, 4), some (0, 0)] [] M (nPI fun z M1 => M = M1 ∧ (0 ≤ z ∧ z ≤ 0)) := by
  have hd : (3 : Int) = 2 ∨ (3 : Int) = 3 := by decide
  have hac := hS.2.2.2.2
  refine n_iload_n c_6_0 rfl ?_
  refine n_iconst c_6_1 ?_
  refine n_iload_n c_6_2 rfl ?_
  refine n_imul c_6_3 rfl ?_
  refine n_i_ishr (z := 4) c_6_4 (by decide) ?_
  refine n_iconst c_6_5 ?_
  refine n_i_iand (z := 0) c_6_6 (by decide) ?_
  exact n_rI c_6_7 rfl ⟨rfl, by omega⟩

set_option maxHeartbeats 4000000 in
theorem part4_1_3 {xs : List Int32} {e : Nat} {ac : Int} {M0 M : nM} (hS : Sf 3 ac M0 M)  : nW xs e 6 0 [some (0, 4), some (0, 1)] [] M (nPI fun z M1 => M = M1 ∧ (1 ≤ z ∧ z ≤ 1)) := by
  have hd : (3 : Int) = 2 ∨ (3 : Int) = 3 := by decide
  have hac := hS.2.2.2.2
  refine n_iload_n c_6_0 rfl ?_
  refine n_iconst c_6_1 ?_
  refine n_iload_n c_6_2 rfl ?_
  refine n_imul c_6_3 rfl ?_
  refine n_i_ishr (z := 1) c_6_4 (by decide) ?_
  refine n_iconst c_6_5 ?_
  refine n_i_iand (z := 1) c_6_6 (by decide) ?_
  exact n_rI c_6_7 rfl ⟨rfl, by omega⟩

set_option maxHeartbeats 4000000 in
theorem part4_2_3 {xs : List Int32} {e : Nat} {ac : Int} {M0 M : nM} (hS : Sf 3 ac M0 M)  : nW xs e 6 0 [some (0, 4), some (0, 2)] [] M (nPI fun z M1 => M = M1 ∧ (0 ≤ z ∧ z ≤ 0)) := by
  have hd : (3 : Int) = 2 ∨ (3 : Int) = 3 := by decide
  have hac := hS.2.2.2.2
  refine n_iload_n c_6_0 rfl ?_
  refine n_iconst c_6_1 ?_
  refine n_iload_n c_6_2 rfl ?_
  refine n_imul c_6_3 rfl ?_
  refine n_i_ishr (z := 0) c_6_4 (by decide) ?_
  refine n_iconst c_6_5 ?_
  refine n_i_iand (z := 0) c_6_6 (by decide) ?_
  exact n_rI c_6_7 rfl ⟨rfl, by omega⟩

set_option maxHeartbeats 4000000 in
theorem part4_3 {xs : List Int32} {e : Nat} {ac : Int} {M0 M : nM} {t : Int} (hS : Sf 3 ac M0 M) (ht : 0 ≤ t ∧ t ≤ 2) : nW xs e 6 0 [some (0, 4), some (0, t)] [] M (nPI fun z M1 => M = M1 ∧ (0 ≤ z ∧ z ≤ 2)) := by
  rcases (show t = 0 ∨ t = 1 ∨ t = 2 by omega) with rfl | rfl | rfl
  · exact n_post (part4_0_3 hS ) (fun w M1 h => by obtain ⟨z, rfl, h1, h2⟩ := h; exact ⟨z, rfl, h1, by omega⟩)
  · exact n_post (part4_1_3 hS ) (fun w M1 h => by obtain ⟨z, rfl, h1, h2⟩ := h; exact ⟨z, rfl, h1, by omega⟩)
  · exact n_post (part4_2_3 hS ) (fun w M1 h => by obtain ⟨z, rfl, h1, h2⟩ := h; exact ⟨z, rfl, h1, by omega⟩)

set_option maxHeartbeats 4000000 in
theorem keepsParts4_3_c {xs : List Int32} {e : Nat} {ac : Int} {M0 M : nM} {p : Int} (hS : Sf 3 ac M0 M) (hp : ActAt p) (hpl : p < 55 + 3 * ac) : ∀ nn : Nat, (∀ (x3 : Int), (0 ≤ x3 ∧ x3 ≤ 27) → (27 - x3) * 1 + 1 < (nn : Int) → nW xs (e + 1) 4 2 [some (2, p), some (0, 4), some (2, 4), some (0, x3), none] [] M (nPI fun z M1 => M = M1 ∧ (0 ≤ z ∧ z ≤ 1))) := by
  have hd : (3 : Int) = 2 ∨ (3 : Int) = 3 := by decide
  have hac := hS.2.2.2.2
  intro nn
  induction nn with
  | zero => intros; omega
  | succ nn ih =>
    intro x3 k3 hnn
    refine n_iload_n c_4_2 rfl ?_
    refine n_aload_n c_4_3 rfl ?_
    refine n_getV (bi := 1) c_4_4 hp.c0.1.n rfl rfl rfl (t_actl hS hp hpl).2 ?_
    intro z1 ez1 f2
    refine n_if2_ge c_4_7 (by omega) (by omega) ?_ ?_
    · intro h3
      refine n_iconst c_4_90 ?_
      exact n_rZ c_4_91 rfl (by omega) ⟨rfl, by omega⟩
    · intro h4
      refine n_iload_n c_4_10 rfl ?_
      refine n_aload_n c_4_11 rfl ?_
      refine n_getR c_4_12 sc_4.n rfl rfl rfl r_4_2 ?_
      refine n_iload_n c_4_15 rfl ?_
      refine n_ialoadV c_4_16 sc_5.n rfl rfl rfl (by omega) (t_5d hS hd (by omega) (by omega)) ?_
      intro z5 ez5 f6
      refine n_s2I c_4_17 rfl rfl rfl rfl (part4_3 (t := z5) hS (by omega)) ?_
      intro z7 M8 hP9
      obtain ⟨eM, f9⟩ := hP9
      subst eM
      refine n_aload_n c_4_20 rfl ?_
      refine n_getV (bi := 0) c_4_21 sc_4.n rfl rfl rfl (t_4_0 hS) ?_
      intro z10 ez10 f11
      obtain rfl : z10 = 3 := by omega
      refine n_imul c_4_24 rfl ?_
      refine n_iload_n c_4_25 rfl ?_
      refine n_aload_n c_4_26 rfl ?_
      refine n_getR c_4_27 sc_4.n rfl rfl rfl r_4_3 ?_
      refine n_iload_n c_4_30 rfl ?_
      refine n_ialoadV c_4_31 sc_6.n rfl rfl rfl (by omega) (t_6d hS hd (by omega) (by omega)) ?_
      intro z12 ez12 f13
      refine n_s2I c_4_32 rfl rfl rfl rfl (part4_3 (t := z12) hS (by omega)) ?_
      intro z14 M15 hP16
      obtain ⟨eM, f16⟩ := hP16
      subst eM
      refine n_iadd c_4_35 rfl ?_
      refine n_istore (L2 := [some (2, p), some (0, 4), some (2, 4), some (0, x3), some (0, ((z7 * 3) + z14))]) c_4_36 rfl rfl ?_
      refine n_iload c_4_38 rfl ?_
      refine n_aload_n c_4_40 rfl ?_
      refine n_getV (bi := 0) c_4_41 sc_4.n rfl rfl rfl (t_4_0 hS) ?_
      intro z17 ez17 f18
      obtain rfl : z17 = 3 := by omega
      refine n_imul c_4_44 rfl ?_
      refine n_iload_n c_4_45 rfl ?_
      refine n_aload_n c_4_46 rfl ?_
      refine n_getR c_4_47 sc_4.n rfl rfl rfl r_4_4 ?_
      refine n_iload_n c_4_50 rfl ?_
      refine n_ialoadV c_4_51 sc_7.n rfl rfl rfl (by omega) (t_7d hS hd (by omega) (by omega)) ?_
      intro z19 ez19 f20
      refine n_s2I c_4_52 rfl rfl rfl rfl (part4_3 (t := z19) hS (by omega)) ?_
      intro z21 M22 hP23
      obtain ⟨eM, f23⟩ := hP23
      subst eM
      refine n_iadd c_4_55 rfl ?_
      refine n_istore (L2 := [some (2, p), some (0, 4), some (2, 4), some (0, x3), some (0, ((((z7 * 3) + z14) * 3) + z21))]) c_4_56 rfl rfl ?_
      refine n_iload_n c_4_58 rfl ?_
      refine n_aload_n c_4_59 rfl ?_
      refine n_getR c_4_60 hp.c0.1.n rfl rfl rfl hp.r.1 ?_
      refine n_iload_n c_4_63 rfl ?_
      refine n_ialoadV c_4_64 hp.c0.2.1.n rfl rfl rfl (by omega) (t_actrl hS hp hpl (Or.inl rfl) (by omega) (by omega)) ?_
      intro z24 ez24 f25
      refine n_s2I c_4_65 rfl rfl rfl rfl (part4_3 (t := z24) hS (by omega)) ?_
      intro z26 M27 hP28
      obtain ⟨eM, f28⟩ := hP28
      subst eM
      refine n_iload_n c_4_68 rfl ?_
      refine n_aload_n c_4_69 rfl ?_
      refine n_getR c_4_70 hp.c0.1.n rfl rfl rfl hp.r.1 ?_
      refine n_iload c_4_73 rfl ?_
      refine n_ialoadV c_4_75 hp.c0.2.1.n rfl rfl rfl (by omega) (t_actrl hS hp hpl (Or.inl rfl) (by omega) (by omega)) ?_
      intro z29 ez29 f30
      refine n_s2I c_4_76 rfl rfl rfl rfl (part4_3 (t := z29) hS (by omega)) ?_
      intro z31 M32 hP33
      obtain ⟨eM, f33⟩ := hP33
      subst eM
      refine n_if2_eq c_4_79 (by omega) (by omega) ?_ ?_
      · intro h34
        refine n_iinc (L2 := [some (2, p), some (0, 4), some (2, 4), some (0, (x3 + 1)), some (0, ((((z7 * 3) + z14) * 3) + z21))]) c_4_84 rfl rfl rfl ?_
        refine n_goto c_4_87 ?_
        refine n_fg (le_s (le_s (le_s (le_s (le_n le_0))))) ?_
        exact ih _ (by omega) (by omega)
      · intro h35
        refine n_iconst c_4_82 ?_
        exact n_rZ c_4_83 rfl (by omega) ⟨rfl, by omega⟩
set_option maxHeartbeats 4000000 in
theorem keepsParts4_3 {xs : List Int32} {e : Nat} {ac : Int} {M0 M : nM} {p : Int} (hS : Sf 3 ac M0 M) (hp : ActAt p) (hpl : p < 55 + 3 * ac) : nW xs (e + 1) 4 0 [some (2, p), some (0, 4), some (2, 4), none, none] [] M (nPI fun z M1 => M = M1 ∧ (0 ≤ z ∧ z ≤ 1)) := by
  have hd : (3 : Int) = 2 ∨ (3 : Int) = 3 := by decide
  have hac := hS.2.2.2.2
  refine n_iconst c_4_0 ?_
  refine n_istore_n (L2 := [some (2, p), some (0, 4), some (2, 4), some (0, 0), none]) c_4_1 rfl rfl ?_
  refine n_fg (le_s (le_s (le_s (le_s (le_n le_0))))) ?_
  exact (keepsParts4_3_c hS hp hpl 68) _ (by omega) (by omega)

set_option maxHeartbeats 4000000 in
theorem part20_0_3 {xs : List Int32} {e : Nat} {ac : Int} {M0 M : nM} (hS : Sf 3 ac M0 M)  : nW xs e 6 0 [some (0, 20), some (0, 0)] [] M (nPI fun z M1 => M = M1 ∧ (0 ≤ z ∧ z ≤ 0)) := by
  have hd : (3 : Int) = 2 ∨ (3 : Int) = 3 := by decide
  have hac := hS.2.2.2.2
  refine n_iload_n c_6_0 rfl ?_
  refine n_iconst c_6_1 ?_
  refine n_iload_n c_6_2 rfl ?_
  refine n_imul c_6_3 rfl ?_
  refine n_i_ishr (z := 20) c_6_4 (by decide) ?_
  refine n_iconst c_6_5 ?_
  refine n_i_iand (z := 0) c_6_6 (by decide) ?_
  exact n_rI c_6_7 rfl ⟨rfl, by omega⟩

set_option maxHeartbeats 4000000 in
theorem part20_1_3 {xs : List Int32} {e : Nat} {ac : Int} {M0 M : nM} (hS : Sf 3 ac M0 M)  : nW xs e 6 0 [some (0, 20), some (0, 1)] [] M (nPI fun z M1 => M = M1 ∧ (1 ≤ z ∧ z ≤ 1)) := by
  have hd : (3 : Int) = 2 ∨ (3 : Int) = 3 := by decide
  have hac := hS.2.2.2.2
  refine n_iload_n c_6_0 rfl ?_
  refine n_iconst c_6_1 ?_
  refine n_iload_n c_6_2 rfl ?_
  refine n_imul c_6_3 rfl ?_
  refine n_i_ishr (z := 5) c_6_4 (by decide) ?_
  refine n_iconst c_6_5 ?_
  refine n_i_iand (z := 1) c_6_6 (by decide) ?_
  exact n_rI c_6_7 rfl ⟨rfl, by omega⟩

set_option maxHeartbeats 4000000 in
theorem part20_2_3 {xs : List Int32} {e : Nat} {ac : Int} {M0 M : nM} (hS : Sf 3 ac M0 M)  : nW xs e 6 0 [some (0, 20), some (0, 2)] [] M (nPI fun z M1 => M = M1 ∧ (1 ≤ z ∧ z ≤ 1)) := by
  have hd : (3 : Int) = 2 ∨ (3 : Int) = 3 := by decide
  have hac := hS.2.2.2.2
  refine n_iload_n c_6_0 rfl ?_
  refine n_iconst c_6_1 ?_
  refine n_iload_n c_6_2 rfl ?_
  refine n_imul c_6_3 rfl ?_
  refine n_i_ishr (z := 1) c_6_4 (by decide) ?_
  refine n_iconst c_6_5 ?_
  refine n_i_iand (z := 1) c_6_6 (by decide) ?_
  exact n_rI c_6_7 rfl ⟨rfl, by omega⟩

set_option maxHeartbeats 4000000 in
theorem part20_3 {xs : List Int32} {e : Nat} {ac : Int} {M0 M : nM} {t : Int} (hS : Sf 3 ac M0 M) (ht : 0 ≤ t ∧ t ≤ 2) : nW xs e 6 0 [some (0, 20), some (0, t)] [] M (nPI fun z M1 => M = M1 ∧ (0 ≤ z ∧ z ≤ 2)) := by
  rcases (show t = 0 ∨ t = 1 ∨ t = 2 by omega) with rfl | rfl | rfl
  · exact n_post (part20_0_3 hS ) (fun w M1 h => by obtain ⟨z, rfl, h1, h2⟩ := h; exact ⟨z, rfl, h1, by omega⟩)
  · exact n_post (part20_1_3 hS ) (fun w M1 h => by obtain ⟨z, rfl, h1, h2⟩ := h; exact ⟨z, rfl, h1, by omega⟩)
  · exact n_post (part20_2_3 hS ) (fun w M1 h => by obtain ⟨z, rfl, h1, h2⟩ := h; exact ⟨z, rfl, h1, by omega⟩)

set_option maxHeartbeats 4000000 in
theorem keepsParts20_3_c {xs : List Int32} {e : Nat} {ac : Int} {M0 M : nM} {p : Int} (hS : Sf 3 ac M0 M) (hp : ActAt p) (hpl : p < 55 + 3 * ac) : ∀ nn : Nat, (∀ (x3 : Int), (0 ≤ x3 ∧ x3 ≤ 27) → (27 - x3) * 1 + 1 < (nn : Int) → nW xs (e + 1) 4 2 [some (2, p), some (0, 20), some (2, 4), some (0, x3), none] [] M (nPI fun z M1 => M = M1 ∧ (0 ≤ z ∧ z ≤ 1))) := by
  have hd : (3 : Int) = 2 ∨ (3 : Int) = 3 := by decide
  have hac := hS.2.2.2.2
  intro nn
  induction nn with
  | zero => intros; omega
  | succ nn ih =>
    intro x3 k3 hnn
    refine n_iload_n c_4_2 rfl ?_
    refine n_aload_n c_4_3 rfl ?_
    refine n_getV (bi := 1) c_4_4 hp.c0.1.n rfl rfl rfl (t_actl hS hp hpl).2 ?_
    intro z1 ez1 f2
    refine n_if2_ge c_4_7 (by omega) (by omega) ?_ ?_
    · intro h3
      refine n_iconst c_4_90 ?_
      exact n_rZ c_4_91 rfl (by omega) ⟨rfl, by omega⟩
    · intro h4
      refine n_iload_n c_4_10 rfl ?_
      refine n_aload_n c_4_11 rfl ?_
      refine n_getR c_4_12 sc_4.n rfl rfl rfl r_4_2 ?_
      refine n_iload_n c_4_15 rfl ?_
      refine n_ialoadV c_4_16 sc_5.n rfl rfl rfl (by omega) (t_5d hS hd (by omega) (by omega)) ?_
      intro z5 ez5 f6
      refine n_s2I c_4_17 rfl rfl rfl rfl (part20_3 (t := z5) hS (by omega)) ?_
      intro z7 M8 hP9
      obtain ⟨eM, f9⟩ := hP9
      subst eM
      refine n_aload_n c_4_20 rfl ?_
      refine n_getV (bi := 0) c_4_21 sc_4.n rfl rfl rfl (t_4_0 hS) ?_
      intro z10 ez10 f11
      obtain rfl : z10 = 3 := by omega
      refine n_imul c_4_24 rfl ?_
      refine n_iload_n c_4_25 rfl ?_
      refine n_aload_n c_4_26 rfl ?_
      refine n_getR c_4_27 sc_4.n rfl rfl rfl r_4_3 ?_
      refine n_iload_n c_4_30 rfl ?_
      refine n_ialoadV c_4_31 sc_6.n rfl rfl rfl (by omega) (t_6d hS hd (by omega) (by omega)) ?_
      intro z12 ez12 f13
      refine n_s2I c_4_32 rfl rfl rfl rfl (part20_3 (t := z12) hS (by omega)) ?_
      intro z14 M15 hP16
      obtain ⟨eM, f16⟩ := hP16
      subst eM
      refine n_iadd c_4_35 rfl ?_
      refine n_istore (L2 := [some (2, p), some (0, 20), some (2, 4), some (0, x3), some (0, ((z7 * 3) + z14))]) c_4_36 rfl rfl ?_
      refine n_iload c_4_38 rfl ?_
      refine n_aload_n c_4_40 rfl ?_
      refine n_getV (bi := 0) c_4_41 sc_4.n rfl rfl rfl (t_4_0 hS) ?_
      intro z17 ez17 f18
      obtain rfl : z17 = 3 := by omega
      refine n_imul c_4_44 rfl ?_
      refine n_iload_n c_4_45 rfl ?_
      refine n_aload_n c_4_46 rfl ?_
      refine n_getR c_4_47 sc_4.n rfl rfl rfl r_4_4 ?_
      refine n_iload_n c_4_50 rfl ?_
      refine n_ialoadV c_4_51 sc_7.n rfl rfl rfl (by omega) (t_7d hS hd (by omega) (by omega)) ?_
      intro z19 ez19 f20
      refine n_s2I c_4_52 rfl rfl rfl rfl (part20_3 (t := z19) hS (by omega)) ?_
      intro z21 M22 hP23
      obtain ⟨eM, f23⟩ := hP23
      subst eM
      refine n_iadd c_4_55 rfl ?_
      refine n_istore (L2 := [some (2, p), some (0, 20), some (2, 4), some (0, x3), some (0, ((((z7 * 3) + z14) * 3) + z21))]) c_4_56 rfl rfl ?_
      refine n_iload_n c_4_58 rfl ?_
      refine n_aload_n c_4_59 rfl ?_
      refine n_getR c_4_60 hp.c0.1.n rfl rfl rfl hp.r.1 ?_
      refine n_iload_n c_4_63 rfl ?_
      refine n_ialoadV c_4_64 hp.c0.2.1.n rfl rfl rfl (by omega) (t_actrl hS hp hpl (Or.inl rfl) (by omega) (by omega)) ?_
      intro z24 ez24 f25
      refine n_s2I c_4_65 rfl rfl rfl rfl (part20_3 (t := z24) hS (by omega)) ?_
      intro z26 M27 hP28
      obtain ⟨eM, f28⟩ := hP28
      subst eM
      refine n_iload_n c_4_68 rfl ?_
      refine n_aload_n c_4_69 rfl ?_
      refine n_getR c_4_70 hp.c0.1.n rfl rfl rfl hp.r.1 ?_
      refine n_iload c_4_73 rfl ?_
      refine n_ialoadV c_4_75 hp.c0.2.1.n rfl rfl rfl (by omega) (t_actrl hS hp hpl (Or.inl rfl) (by omega) (by omega)) ?_
      intro z29 ez29 f30
      refine n_s2I c_4_76 rfl rfl rfl rfl (part20_3 (t := z29) hS (by omega)) ?_
      intro z31 M32 hP33
      obtain ⟨eM, f33⟩ := hP33
      subst eM
      refine n_if2_eq c_4_79 (by omega) (by omega) ?_ ?_
      · intro h34
        refine n_iinc (L2 := [some (2, p), some (0, 20), some (2, 4), some (0, (x3 + 1)), some (0, ((((z7 * 3) + z14) * 3) + z21))]) c_4_84 rfl rfl rfl ?_
        refine n_goto c_4_87 ?_
        refine n_fg (le_s (le_s (le_s (le_s (le_n le_0))))) ?_
        exact ih _ (by omega) (by omega)
      · intro h35
        refine n_iconst c_4_82 ?_
        exact n_rZ c_4_83 rfl (by omega) ⟨rfl, by omega⟩
set_option maxHeartbeats 4000000 in
theorem keepsParts20_3 {xs : List Int32} {e : Nat} {ac : Int} {M0 M : nM} {p : Int} (hS : Sf 3 ac M0 M) (hp : ActAt p) (hpl : p < 55 + 3 * ac) : nW xs (e + 1) 4 0 [some (2, p), some (0, 20), some (2, 4), none, none] [] M (nPI fun z M1 => M = M1 ∧ (0 ≤ z ∧ z ≤ 1)) := by
  have hd : (3 : Int) = 2 ∨ (3 : Int) = 3 := by decide
  have hac := hS.2.2.2.2
  refine n_iconst c_4_0 ?_
  refine n_istore_n (L2 := [some (2, p), some (0, 20), some (2, 4), some (0, 0), none]) c_4_1 rfl rfl ?_
  refine n_fg (le_s (le_s (le_s (le_s (le_n le_0))))) ?_
  exact (keepsParts20_3_c hS hp hpl 68) _ (by omega) (by omega)

set_option maxHeartbeats 4000000 in
theorem part32_0_3 {xs : List Int32} {e : Nat} {ac : Int} {M0 M : nM} (hS : Sf 3 ac M0 M)  : nW xs e 6 0 [some (0, 32), some (0, 0)] [] M (nPI fun z M1 => M = M1 ∧ (0 ≤ z ∧ z ≤ 0)) := by
  have hd : (3 : Int) = 2 ∨ (3 : Int) = 3 := by decide
  have hac := hS.2.2.2.2
  refine n_iload_n c_6_0 rfl ?_
  refine n_iconst c_6_1 ?_
  refine n_iload_n c_6_2 rfl ?_
  refine n_imul c_6_3 rfl ?_
  refine n_i_ishr (z := 32) c_6_4 (by decide) ?_
  refine n_iconst c_6_5 ?_
  refine n_i_iand (z := 0) c_6_6 (by decide) ?_
  exact n_rI c_6_7 rfl ⟨rfl, by omega⟩

set_option maxHeartbeats 4000000 in
theorem part32_1_3 {xs : List Int32} {e : Nat} {ac : Int} {M0 M : nM} (hS : Sf 3 ac M0 M)  : nW xs e 6 0 [some (0, 32), some (0, 1)] [] M (nPI fun z M1 => M = M1 ∧ (0 ≤ z ∧ z ≤ 0)) := by
  have hd : (3 : Int) = 2 ∨ (3 : Int) = 3 := by decide
  have hac := hS.2.2.2.2
  refine n_iload_n c_6_0 rfl ?_
  refine n_iconst c_6_1 ?_
  refine n_iload_n c_6_2 rfl ?_
  refine n_imul c_6_3 rfl ?_
  refine n_i_ishr (z := 8) c_6_4 (by decide) ?_
  refine n_iconst c_6_5 ?_
  refine n_i_iand (z := 0) c_6_6 (by decide) ?_
  exact n_rI c_6_7 rfl ⟨rfl, by omega⟩

set_option maxHeartbeats 4000000 in
theorem part32_2_3 {xs : List Int32} {e : Nat} {ac : Int} {M0 M : nM} (hS : Sf 3 ac M0 M)  : nW xs e 6 0 [some (0, 32), some (0, 2)] [] M (nPI fun z M1 => M = M1 ∧ (2 ≤ z ∧ z ≤ 2)) := by
  have hd : (3 : Int) = 2 ∨ (3 : Int) = 3 := by decide
  have hac := hS.2.2.2.2
  refine n_iload_n c_6_0 rfl ?_
  refine n_iconst c_6_1 ?_
  refine n_iload_n c_6_2 rfl ?_
  refine n_imul c_6_3 rfl ?_
  refine n_i_ishr (z := 2) c_6_4 (by decide) ?_
  refine n_iconst c_6_5 ?_
  refine n_i_iand (z := 2) c_6_6 (by decide) ?_
  exact n_rI c_6_7 rfl ⟨rfl, by omega⟩

set_option maxHeartbeats 4000000 in
theorem part32_3 {xs : List Int32} {e : Nat} {ac : Int} {M0 M : nM} {t : Int} (hS : Sf 3 ac M0 M) (ht : 0 ≤ t ∧ t ≤ 2) : nW xs e 6 0 [some (0, 32), some (0, t)] [] M (nPI fun z M1 => M = M1 ∧ (0 ≤ z ∧ z ≤ 2)) := by
  rcases (show t = 0 ∨ t = 1 ∨ t = 2 by omega) with rfl | rfl | rfl
  · exact n_post (part32_0_3 hS ) (fun w M1 h => by obtain ⟨z, rfl, h1, h2⟩ := h; exact ⟨z, rfl, h1, by omega⟩)
  · exact n_post (part32_1_3 hS ) (fun w M1 h => by obtain ⟨z, rfl, h1, h2⟩ := h; exact ⟨z, rfl, h1, by omega⟩)
  · exact n_post (part32_2_3 hS ) (fun w M1 h => by obtain ⟨z, rfl, h1, h2⟩ := h; exact ⟨z, rfl, h1, by omega⟩)

set_option maxHeartbeats 4000000 in
theorem keepsParts32_3_c {xs : List Int32} {e : Nat} {ac : Int} {M0 M : nM} {p : Int} (hS : Sf 3 ac M0 M) (hp : ActAt p) (hpl : p < 55 + 3 * ac) : ∀ nn : Nat, (∀ (x3 : Int), (0 ≤ x3 ∧ x3 ≤ 27) → (27 - x3) * 1 + 1 < (nn : Int) → nW xs (e + 1) 4 2 [some (2, p), some (0, 32), some (2, 4), some (0, x3), none] [] M (nPI fun z M1 => M = M1 ∧ (0 ≤ z ∧ z ≤ 1))) := by
  have hd : (3 : Int) = 2 ∨ (3 : Int) = 3 := by decide
  have hac := hS.2.2.2.2
  intro nn
  induction nn with
  | zero => intros; omega
  | succ nn ih =>
    intro x3 k3 hnn
    refine n_iload_n c_4_2 rfl ?_
    refine n_aload_n c_4_3 rfl ?_
    refine n_getV (bi := 1) c_4_4 hp.c0.1.n rfl rfl rfl (t_actl hS hp hpl).2 ?_
    intro z1 ez1 f2
    refine n_if2_ge c_4_7 (by omega) (by omega) ?_ ?_
    · intro h3
      refine n_iconst c_4_90 ?_
      exact n_rZ c_4_91 rfl (by omega) ⟨rfl, by omega⟩
    · intro h4
      refine n_iload_n c_4_10 rfl ?_
      refine n_aload_n c_4_11 rfl ?_
      refine n_getR c_4_12 sc_4.n rfl rfl rfl r_4_2 ?_
      refine n_iload_n c_4_15 rfl ?_
      refine n_ialoadV c_4_16 sc_5.n rfl rfl rfl (by omega) (t_5d hS hd (by omega) (by omega)) ?_
      intro z5 ez5 f6
      refine n_s2I c_4_17 rfl rfl rfl rfl (part32_3 (t := z5) hS (by omega)) ?_
      intro z7 M8 hP9
      obtain ⟨eM, f9⟩ := hP9
      subst eM
      refine n_aload_n c_4_20 rfl ?_
      refine n_getV (bi := 0) c_4_21 sc_4.n rfl rfl rfl (t_4_0 hS) ?_
      intro z10 ez10 f11
      obtain rfl : z10 = 3 := by omega
      refine n_imul c_4_24 rfl ?_
      refine n_iload_n c_4_25 rfl ?_
      refine n_aload_n c_4_26 rfl ?_
      refine n_getR c_4_27 sc_4.n rfl rfl rfl r_4_3 ?_
      refine n_iload_n c_4_30 rfl ?_
      refine n_ialoadV c_4_31 sc_6.n rfl rfl rfl (by omega) (t_6d hS hd (by omega) (by omega)) ?_
      intro z12 ez12 f13
      refine n_s2I c_4_32 rfl rfl rfl rfl (part32_3 (t := z12) hS (by omega)) ?_
      intro z14 M15 hP16
      obtain ⟨eM, f16⟩ := hP16
      subst eM
      refine n_iadd c_4_35 rfl ?_
      refine n_istore (L2 := [some (2, p), some (0, 32), some (2, 4), some (0, x3), some (0, ((z7 * 3) + z14))]) c_4_36 rfl rfl ?_
      refine n_iload c_4_38 rfl ?_
      refine n_aload_n c_4_40 rfl ?_
      refine n_getV (bi := 0) c_4_41 sc_4.n rfl rfl rfl (t_4_0 hS) ?_
      intro z17 ez17 f18
      obtain rfl : z17 = 3 := by omega
      refine n_imul c_4_44 rfl ?_
      refine n_iload_n c_4_45 rfl ?_
      refine n_aload_n c_4_46 rfl ?_
      refine n_getR c_4_47 sc_4.n rfl rfl rfl r_4_4 ?_
      refine n_iload_n c_4_50 rfl ?_
      refine n_ialoadV c_4_51 sc_7.n rfl rfl rfl (by omega) (t_7d hS hd (by omega) (by omega)) ?_
      intro z19 ez19 f20
      refine n_s2I c_4_52 rfl rfl rfl rfl (part32_3 (t := z19) hS (by omega)) ?_
      intro z21 M22 hP23
      obtain ⟨eM, f23⟩ := hP23
      subst eM
      refine n_iadd c_4_55 rfl ?_
      refine n_istore (L2 := [some (2, p), some (0, 32), some (2, 4), some (0, x3), some (0, ((((z7 * 3) + z14) * 3) + z21))]) c_4_56 rfl rfl ?_
      refine n_iload_n c_4_58 rfl ?_
      refine n_aload_n c_4_59 rfl ?_
      refine n_getR c_4_60 hp.c0.1.n rfl rfl rfl hp.r.1 ?_
      refine n_iload_n c_4_63 rfl ?_
      refine n_ialoadV c_4_64 hp.c0.2.1.n rfl rfl rfl (by omega) (t_actrl hS hp hpl (Or.inl rfl) (by omega) (by omega)) ?_
      intro z24 ez24 f25
      refine n_s2I c_4_65 rfl rfl rfl rfl (part32_3 (t := z24) hS (by omega)) ?_
      intro z26 M27 hP28
      obtain ⟨eM, f28⟩ := hP28
      subst eM
      refine n_iload_n c_4_68 rfl ?_
      refine n_aload_n c_4_69 rfl ?_
      refine n_getR c_4_70 hp.c0.1.n rfl rfl rfl hp.r.1 ?_
      refine n_iload c_4_73 rfl ?_
      refine n_ialoadV c_4_75 hp.c0.2.1.n rfl rfl rfl (by omega) (t_actrl hS hp hpl (Or.inl rfl) (by omega) (by omega)) ?_
      intro z29 ez29 f30
      refine n_s2I c_4_76 rfl rfl rfl rfl (part32_3 (t := z29) hS (by omega)) ?_
      intro z31 M32 hP33
      obtain ⟨eM, f33⟩ := hP33
      subst eM
      refine n_if2_eq c_4_79 (by omega) (by omega) ?_ ?_
      · intro h34
        refine n_iinc (L2 := [some (2, p), some (0, 32), some (2, 4), some (0, (x3 + 1)), some (0, ((((z7 * 3) + z14) * 3) + z21))]) c_4_84 rfl rfl rfl ?_
        refine n_goto c_4_87 ?_
        refine n_fg (le_s (le_s (le_s (le_s (le_n le_0))))) ?_
        exact ih _ (by omega) (by omega)
      · intro h35
        refine n_iconst c_4_82 ?_
        exact n_rZ c_4_83 rfl (by omega) ⟨rfl, by omega⟩
set_option maxHeartbeats 4000000 in
theorem keepsParts32_3 {xs : List Int32} {e : Nat} {ac : Int} {M0 M : nM} {p : Int} (hS : Sf 3 ac M0 M) (hp : ActAt p) (hpl : p < 55 + 3 * ac) : nW xs (e + 1) 4 0 [some (2, p), some (0, 32), some (2, 4), none, none] [] M (nPI fun z M1 => M = M1 ∧ (0 ≤ z ∧ z ≤ 1)) := by
  have hd : (3 : Int) = 2 ∨ (3 : Int) = 3 := by decide
  have hac := hS.2.2.2.2
  refine n_iconst c_4_0 ?_
  refine n_istore_n (L2 := [some (2, p), some (0, 32), some (2, 4), some (0, 0), none]) c_4_1 rfl rfl ?_
  refine n_fg (le_s (le_s (le_s (le_s (le_n le_0))))) ?_
  exact (keepsParts32_3_c hS hp hpl 68) _ (by omega) (by omega)

set_option maxHeartbeats 4000000 in
theorem part36_0_3 {xs : List Int32} {e : Nat} {ac : Int} {M0 M : nM} (hS : Sf 3 ac M0 M)  : nW xs e 6 0 [some (0, 36), some (0, 0)] [] M (nPI fun z M1 => M = M1 ∧ (0 ≤ z ∧ z ≤ 0)) := by
  have hd : (3 : Int) = 2 ∨ (3 : Int) = 3 := by decide
  have hac := hS.2.2.2.2
  refine n_iload_n c_6_0 rfl ?_
  refine n_iconst c_6_1 ?_
  refine n_iload_n c_6_2 rfl ?_
  refine n_imul c_6_3 rfl ?_
  refine n_i_ishr (z := 36) c_6_4 (by decide) ?_
  refine n_iconst c_6_5 ?_
  refine n_i_iand (z := 0) c_6_6 (by decide) ?_
  exact n_rI c_6_7 rfl ⟨rfl, by omega⟩

set_option maxHeartbeats 4000000 in
theorem part36_1_3 {xs : List Int32} {e : Nat} {ac : Int} {M0 M : nM} (hS : Sf 3 ac M0 M)  : nW xs e 6 0 [some (0, 36), some (0, 1)] [] M (nPI fun z M1 => M = M1 ∧ (1 ≤ z ∧ z ≤ 1)) := by
  have hd : (3 : Int) = 2 ∨ (3 : Int) = 3 := by decide
  have hac := hS.2.2.2.2
  refine n_iload_n c_6_0 rfl ?_
  refine n_iconst c_6_1 ?_
  refine n_iload_n c_6_2 rfl ?_
  refine n_imul c_6_3 rfl ?_
  refine n_i_ishr (z := 9) c_6_4 (by decide) ?_
  refine n_iconst c_6_5 ?_
  refine n_i_iand (z := 1) c_6_6 (by decide) ?_
  exact n_rI c_6_7 rfl ⟨rfl, by omega⟩

set_option maxHeartbeats 4000000 in
theorem part36_2_3 {xs : List Int32} {e : Nat} {ac : Int} {M0 M : nM} (hS : Sf 3 ac M0 M)  : nW xs e 6 0 [some (0, 36), some (0, 2)] [] M (nPI fun z M1 => M = M1 ∧ (2 ≤ z ∧ z ≤ 2)) := by
  have hd : (3 : Int) = 2 ∨ (3 : Int) = 3 := by decide
  have hac := hS.2.2.2.2
  refine n_iload_n c_6_0 rfl ?_
  refine n_iconst c_6_1 ?_
  refine n_iload_n c_6_2 rfl ?_
  refine n_imul c_6_3 rfl ?_
  refine n_i_ishr (z := 2) c_6_4 (by decide) ?_
  refine n_iconst c_6_5 ?_
  refine n_i_iand (z := 2) c_6_6 (by decide) ?_
  exact n_rI c_6_7 rfl ⟨rfl, by omega⟩

set_option maxHeartbeats 4000000 in
theorem part36_3 {xs : List Int32} {e : Nat} {ac : Int} {M0 M : nM} {t : Int} (hS : Sf 3 ac M0 M) (ht : 0 ≤ t ∧ t ≤ 2) : nW xs e 6 0 [some (0, 36), some (0, t)] [] M (nPI fun z M1 => M = M1 ∧ (0 ≤ z ∧ z ≤ 2)) := by
  rcases (show t = 0 ∨ t = 1 ∨ t = 2 by omega) with rfl | rfl | rfl
  · exact n_post (part36_0_3 hS ) (fun w M1 h => by obtain ⟨z, rfl, h1, h2⟩ := h; exact ⟨z, rfl, h1, by omega⟩)
  · exact n_post (part36_1_3 hS ) (fun w M1 h => by obtain ⟨z, rfl, h1, h2⟩ := h; exact ⟨z, rfl, h1, by omega⟩)
  · exact n_post (part36_2_3 hS ) (fun w M1 h => by obtain ⟨z, rfl, h1, h2⟩ := h; exact ⟨z, rfl, h1, by omega⟩)

set_option maxHeartbeats 4000000 in
theorem keepsParts36_3_c {xs : List Int32} {e : Nat} {ac : Int} {M0 M : nM} {p : Int} (hS : Sf 3 ac M0 M) (hp : ActAt p) (hpl : p < 55 + 3 * ac) : ∀ nn : Nat, (∀ (x3 : Int), (0 ≤ x3 ∧ x3 ≤ 27) → (27 - x3) * 1 + 1 < (nn : Int) → nW xs (e + 1) 4 2 [some (2, p), some (0, 36), some (2, 4), some (0, x3), none] [] M (nPI fun z M1 => M = M1 ∧ (0 ≤ z ∧ z ≤ 1))) := by
  have hd : (3 : Int) = 2 ∨ (3 : Int) = 3 := by decide
  have hac := hS.2.2.2.2
  intro nn
  induction nn with
  | zero => intros; omega
  | succ nn ih =>
    intro x3 k3 hnn
    refine n_iload_n c_4_2 rfl ?_
    refine n_aload_n c_4_3 rfl ?_
    refine n_getV (bi := 1) c_4_4 hp.c0.1.n rfl rfl rfl (t_actl hS hp hpl).2 ?_
    intro z1 ez1 f2
    refine n_if2_ge c_4_7 (by omega) (by omega) ?_ ?_
    · intro h3
      refine n_iconst c_4_90 ?_
      exact n_rZ c_4_91 rfl (by omega) ⟨rfl, by omega⟩
    · intro h4
      refine n_iload_n c_4_10 rfl ?_
      refine n_aload_n c_4_11 rfl ?_
      refine n_getR c_4_12 sc_4.n rfl rfl rfl r_4_2 ?_
      refine n_iload_n c_4_15 rfl ?_
      refine n_ialoadV c_4_16 sc_5.n rfl rfl rfl (by omega) (t_5d hS hd (by omega) (by omega)) ?_
      intro z5 ez5 f6
      refine n_s2I c_4_17 rfl rfl rfl rfl (part36_3 (t := z5) hS (by omega)) ?_
      intro z7 M8 hP9
      obtain ⟨eM, f9⟩ := hP9
      subst eM
      refine n_aload_n c_4_20 rfl ?_
      refine n_getV (bi := 0) c_4_21 sc_4.n rfl rfl rfl (t_4_0 hS) ?_
      intro z10 ez10 f11
      obtain rfl : z10 = 3 := by omega
      refine n_imul c_4_24 rfl ?_
      refine n_iload_n c_4_25 rfl ?_
      refine n_aload_n c_4_26 rfl ?_
      refine n_getR c_4_27 sc_4.n rfl rfl rfl r_4_3 ?_
      refine n_iload_n c_4_30 rfl ?_
      refine n_ialoadV c_4_31 sc_6.n rfl rfl rfl (by omega) (t_6d hS hd (by omega) (by omega)) ?_
      intro z12 ez12 f13
      refine n_s2I c_4_32 rfl rfl rfl rfl (part36_3 (t := z12) hS (by omega)) ?_
      intro z14 M15 hP16
      obtain ⟨eM, f16⟩ := hP16
      subst eM
      refine n_iadd c_4_35 rfl ?_
      refine n_istore (L2 := [some (2, p), some (0, 36), some (2, 4), some (0, x3), some (0, ((z7 * 3) + z14))]) c_4_36 rfl rfl ?_
      refine n_iload c_4_38 rfl ?_
      refine n_aload_n c_4_40 rfl ?_
      refine n_getV (bi := 0) c_4_41 sc_4.n rfl rfl rfl (t_4_0 hS) ?_
      intro z17 ez17 f18
      obtain rfl : z17 = 3 := by omega
      refine n_imul c_4_44 rfl ?_
      refine n_iload_n c_4_45 rfl ?_
      refine n_aload_n c_4_46 rfl ?_
      refine n_getR c_4_47 sc_4.n rfl rfl rfl r_4_4 ?_
      refine n_iload_n c_4_50 rfl ?_
      refine n_ialoadV c_4_51 sc_7.n rfl rfl rfl (by omega) (t_7d hS hd (by omega) (by omega)) ?_
      intro z19 ez19 f20
      refine n_s2I c_4_52 rfl rfl rfl rfl (part36_3 (t := z19) hS (by omega)) ?_
      intro z21 M22 hP23
      obtain ⟨eM, f23⟩ := hP23
      subst eM
      refine n_iadd c_4_55 rfl ?_
      refine n_istore (L2 := [some (2, p), some (0, 36), some (2, 4), some (0, x3), some (0, ((((z7 * 3) + z14) * 3) + z21))]) c_4_56 rfl rfl ?_
      refine n_iload_n c_4_58 rfl ?_
      refine n_aload_n c_4_59 rfl ?_
      refine n_getR c_4_60 hp.c0.1.n rfl rfl rfl hp.r.1 ?_
      refine n_iload_n c_4_63 rfl ?_
      refine n_ialoadV c_4_64 hp.c0.2.1.n rfl rfl rfl (by omega) (t_actrl hS hp hpl (Or.inl rfl) (by omega) (by omega)) ?_
      intro z24 ez24 f25
      refine n_s2I c_4_65 rfl rfl rfl rfl (part36_3 (t := z24) hS (by omega)) ?_
      intro z26 M27 hP28
      obtain ⟨eM, f28⟩ := hP28
      subst eM
      refine n_iload_n c_4_68 rfl ?_
      refine n_aload_n c_4_69 rfl ?_
      refine n_getR c_4_70 hp.c0.1.n rfl rfl rfl hp.r.1 ?_
      refine n_iload c_4_73 rfl ?_
      refine n_ialoadV c_4_75 hp.c0.2.1.n rfl rfl rfl (by omega) (t_actrl hS hp hpl (Or.inl rfl) (by omega) (by omega)) ?_
      intro z29 ez29 f30
      refine n_s2I c_4_76 rfl rfl rfl rfl (part36_3 (t := z29) hS (by omega)) ?_
      intro z31 M32 hP33
      obtain ⟨eM, f33⟩ := hP33
      subst eM
      refine n_if2_eq c_4_79 (by omega) (by omega) ?_ ?_
      · intro h34
        refine n_iinc (L2 := [some (2, p), some (0, 36), some (2, 4), some (0, (x3 + 1)), some (0, ((((z7 * 3) + z14) * 3) + z21))]) c_4_84 rfl rfl rfl ?_
        refine n_goto c_4_87 ?_
        refine n_fg (le_s (le_s (le_s (le_s (le_n le_0))))) ?_
        exact ih _ (by omega) (by omega)
      · intro h35
        refine n_iconst c_4_82 ?_
        exact n_rZ c_4_83 rfl (by omega) ⟨rfl, by omega⟩
set_option maxHeartbeats 4000000 in
theorem keepsParts36_3 {xs : List Int32} {e : Nat} {ac : Int} {M0 M : nM} {p : Int} (hS : Sf 3 ac M0 M) (hp : ActAt p) (hpl : p < 55 + 3 * ac) : nW xs (e + 1) 4 0 [some (2, p), some (0, 36), some (2, 4), none, none] [] M (nPI fun z M1 => M = M1 ∧ (0 ≤ z ∧ z ≤ 1)) := by
  have hd : (3 : Int) = 2 ∨ (3 : Int) = 3 := by decide
  have hac := hS.2.2.2.2
  refine n_iconst c_4_0 ?_
  refine n_istore_n (L2 := [some (2, p), some (0, 36), some (2, 4), some (0, 0), none]) c_4_1 rfl rfl ?_
  refine n_fg (le_s (le_s (le_s (le_s (le_n le_0))))) ?_
  exact (keepsParts36_3_c hS hp hpl 68) _ (by omega) (by omega)

set_option maxHeartbeats 4000000 in
theorem fillLT_3_c {xs : List Int32} {e : Nat} {ac : Int} {M0 M : nM} {p i j : Int} (hS : Sf 3 ac M0 M) (hp : ActAt p) (hpl : p < 55 + 3 * ac) (hi : 0 ≤ i ∧ i ≤ 26) (hj : 0 ≤ j ∧ j ≤ 26) : ∀ nn : Nat, (∀ (x5 x6 x7 x8 x9 x10 : Int) (M : nM), Sf 3 ac M0 M → (3 ≤ x5 ∧ x5 ≤ 3) → (0 ≤ x6 ∧ x6 ≤ 24) → (0 ≤ x7 ∧ x7 ≤ 24) → (0 ≤ x8 ∧ x8 ≤ 24) → (0 ≤ x9 ∧ x9 ≤ 27) → (0 ≤ x10 ∧ x10 ≤ 3) → (x9 = 9 * x10) → (3 - x10) * 31 + 31 < (nn : Int) → nW xs e 45 86 [some (2, 52), none, some (2, (p + 1)), none, none, some (0, x5), some (0, x6), some (0, x7), some (0, x8), some (0, x9), some (0, x10), none, none, none, none] [] M (nPV fun M1 => Sf 3 ac M0 M1)) ∧ (∀ (x5 x6 x7 x8 x9 x10 x11 x12 : Int) (M : nM), Sf 3 ac M0 M → (3 ≤ x5 ∧ x5 ≤ 3) → (0 ≤ x6 ∧ x6 ≤ 24) → (0 ≤ x7 ∧ x7 ≤ 24) → (0 ≤ x8 ∧ x8 ≤ 24) → (0 ≤ x9 ∧ x9 ≤ 27) → (0 ≤ x10 ∧ x10 ≤ 2) → (0 ≤ x11 ∧ x11 ≤ 18) → (0 ≤ x12 ∧ x12 ≤ 3) → (x9 = 9 * x10 + 3 * x12) → (3 - x10) * 31 + (3 - x12) * 6 + 6 < (nn : Int) → nW xs e 45 110 [some (2, 52), none, some (2, (p + 1)), none, none, some (0, x5), some (0, x6), some (0, x7), some (0, x8), some (0, x9), some (0, x10), some (0, x11), some (0, x12), none, none] [] M (nPV fun M1 => Sf 3 ac M0 M1)) ∧ (∀ (x5 x6 x7 x8 x9 x10 x11 x12 x13 x14 : Int) (M : nM), Sf 3 ac M0 M → (3 ≤ x5 ∧ x5 ≤ 3) → (0 ≤ x6 ∧ x6 ≤ 24) → (0 ≤ x7 ∧ x7 ≤ 24) → (0 ≤ x8 ∧ x8 ≤ 24) → (0 ≤ x9 ∧ x9 ≤ 27) → (0 ≤ x10 ∧ x10 ≤ 2) → (0 ≤ x11 ∧ x11 ≤ 18) → (0 ≤ x12 ∧ x12 ≤ 2) → (0 ≤ x13 ∧ x13 ≤ 24) → (0 ≤ x14 ∧ x14 ≤ 3) → (x9 = 9 * x10 + 3 * x12 + x14) → (3 - x10) * 31 + (3 - x12) * 6 + (3 - x14) * 1 + 1 < (nn : Int) → nW xs e 45 137 [some (2, 52), none, some (2, (p + 1)), none, none, some (0, x5), some (0, x6), some (0, x7), some (0, x8), some (0, x9), some (0, x10), some (0, x11), some (0, x12), some (0, x13), some (0, x14)] [] M (nPV fun M1 => Sf 3 ac M0 M1)) := by
  have hd : (3 : Int) = 2 ∨ (3 : Int) = 3 := by decide
  have hac := hS.2.2.2.2
  intro nn
  induction nn with
  | zero => refine ⟨?_, ?_, ?_⟩ <;> (intros; omega)
  | succ nn ih =>
    refine ⟨?_, ?_, ?_⟩
    · intro x5 x6 x7 x8 x9 x10 M hS k5 k6 k7 k8 k9 k10 v0 hnn
      refine n_iload c_45_86 rfl ?_
      refine n_iload c_45_88 rfl ?_
      refine n_if2_ge c_45_90 (by omega) (by omega) ?_ ?_
      · intro h1
        exact n_rV c_45_187 rfl hS
      · intro h2
        refine n_aload_n c_45_93 rfl ?_
        refine n_iload c_45_94 rfl ?_
        refine n_iload c_45_96 rfl ?_
        refine n_iadd c_45_98 rfl ?_
        refine n_ialoadV c_45_99 hp.c0.2.1.n rfl rfl rfl (by omega) (t_actrl hS hp hpl (Or.inl rfl) (by omega) (by omega)) ?_
        intro z3 ez3 f4
        refine n_aload_n c_45_100 rfl ?_
        refine n_getV (bi := 1) c_45_101 sc_52.n rfl rfl rfl (t_52_1 hS) ?_
        intro z5 ez5 f6
        obtain rfl : z5 = 9 := by omega
        refine n_imul c_45_104 rfl ?_
        refine n_istore (L2 := [some (2, 52), none, some (2, (p + 1)), none, none, some (0, x5), some (0, x6), some (0, x7), some (0, x8), some (0, x9), some (0, x10), some (0, (z3 * 9)), none, none, none]) c_45_105 rfl rfl ?_
        refine n_iconst c_45_107 ?_
        refine n_istore (L2 := [some (2, 52), none, some (2, (p + 1)), none, none, some (0, x5), some (0, x6), some (0, x7), some (0, x8), some (0, x9), some (0, x10), some (0, (z3 * 9)), some (0, 0), none, none]) c_45_108 rfl rfl ?_
        refine n_fg (le_s (le_n (le_s (le_n (le_n (le_s (le_s (le_s (le_s (le_s (le_s (le_s (le_s (le_n (le_n le_0))))))))))))))) ?_
        exact ih.2.1 _ _ _ _ _ _ _ _ M hS (by omega) (by omega) (by omega) (by omega) (by omega) (by omega) (by omega) (by omega) (by omega) (by omega)
    · intro x5 x6 x7 x8 x9 x10 x11 x12 M hS k5 k6 k7 k8 k9 k10 k11 k12 v0 hnn
      refine n_iload c_45_110 rfl ?_
      refine n_iload c_45_112 rfl ?_
      refine n_if2_ge c_45_114 (by omega) (by omega) ?_ ?_
      · intro h1
        refine n_iinc (L2 := [some (2, 52), none, some (2, (p + 1)), none, none, some (0, x5), some (0, x6), some (0, x7), some (0, x8), some (0, x9), some (0, (x10 + 1)), some (0, x11), some (0, x12), none, none]) c_45_181 rfl rfl rfl ?_
        refine n_goto c_45_184 ?_
        refine n_fg (le_s (le_n (le_s (le_n (le_n (le_s (le_s (le_s (le_s (le_s (le_s (le_n (le_n (le_n (le_n le_0))))))))))))))) ?_
        exact ih.1 _ _ _ _ _ _ M hS (by omega) (by omega) (by omega) (by omega) (by omega) (by omega) (by omega) (by omega)
      · intro h2
        refine n_iload c_45_117 rfl ?_
        refine n_aload_n c_45_119 rfl ?_
        refine n_iload c_45_120 rfl ?_
        refine n_iload c_45_122 rfl ?_
        refine n_iadd c_45_124 rfl ?_
        refine n_ialoadV c_45_125 hp.c0.2.1.n rfl rfl rfl (by omega) (t_actrl hS hp hpl (Or.inl rfl) (by omega) (by omega)) ?_
        intro z3 ez3 f4
        refine n_aload_n c_45_126 rfl ?_
        refine n_getV (bi := 2) c_45_127 sc_52.n rfl rfl rfl (t_52_2 hS) ?_
        intro z5 ez5 f6
        obtain rfl : z5 = 3 := by omega
        refine n_imul c_45_130 rfl ?_
        refine n_iadd c_45_131 rfl ?_
        refine n_istore (L2 := [some (2, 52), none, some (2, (p + 1)), none, none, some (0, x5), some (0, x6), some (0, x7), some (0, x8), some (0, x9), some (0, x10), some (0, x11), some (0, x12), some (0, (x11 + (z3 * 3))), none]) c_45_132 rfl rfl ?_
        refine n_iconst c_45_134 ?_
        refine n_istore (L2 := [some (2, 52), none, some (2, (p + 1)), none, none, some (0, x5), some (0, x6), some (0, x7), some (0, x8), some (0, x9), some (0, x10), some (0, x11), some (0, x12), some (0, (x11 + (z3 * 3))), some (0, 0)]) c_45_135 rfl rfl ?_
        refine n_fg (le_s (le_n (le_s (le_n (le_n (le_s (le_s (le_s (le_s (le_s (le_s (le_s (le_s (le_s (le_s le_0))))))))))))))) ?_
        exact ih.2.2 _ _ _ _ _ _ _ _ _ _ M hS (by omega) (by omega) (by omega) (by omega) (by omega) (by omega) (by omega) (by omega) (by omega) (by omega) (by omega) (by omega)
    · intro x5 x6 x7 x8 x9 x10 x11 x12 x13 x14 M hS k5 k6 k7 k8 k9 k10 k11 k12 k13 k14 v0 hnn
      refine n_iload c_45_137 rfl ?_
      refine n_iload c_45_139 rfl ?_
      refine n_if2_ge c_45_141 (by omega) (by omega) ?_ ?_
      · intro h1
        refine n_iinc (L2 := [some (2, 52), none, some (2, (p + 1)), none, none, some (0, x5), some (0, x6), some (0, x7), some (0, x8), some (0, x9), some (0, x10), some (0, x11), some (0, (x12 + 1)), some (0, x13), some (0, x14)]) c_45_175 rfl rfl rfl ?_
        refine n_goto c_45_178 ?_
        refine n_fg (le_s (le_n (le_s (le_n (le_n (le_s (le_s (le_s (le_s (le_s (le_s (le_s (le_s (le_n (le_n le_0))))))))))))))) ?_
        exact ih.2.1 _ _ _ _ _ _ _ _ M hS (by omega) (by omega) (by omega) (by omega) (by omega) (by omega) (by omega) (by omega) (by omega) (by omega)
      · intro h2
        refine n_aload_n c_45_144 rfl ?_
        refine n_getR c_45_145 sc_52.n rfl rfl rfl r_52_0 ?_
        refine n_iload c_45_148 rfl ?_
        refine n_iload c_45_150 rfl ?_
        refine n_aload_n c_45_152 rfl ?_
        refine n_iload c_45_153 rfl ?_
        refine n_iload c_45_155 rfl ?_
        refine n_iadd c_45_157 rfl ?_
        refine n_ialoadV c_45_158 hp.c0.2.1.n rfl rfl rfl (by omega) (t_actrl hS hp hpl (Or.inl rfl) (by omega) (by omega)) ?_
        intro z3 ez3 f4
        refine n_aload_n c_45_159 rfl ?_
        refine n_getV (bi := 3) c_45_160 sc_52.n rfl rfl rfl (t_52_3 hS) ?_
        intro z5 ez5 f6
        obtain rfl : z5 = 1 := by omega
        refine n_imul c_45_163 rfl ?_
        refine n_iadd c_45_164 rfl ?_
        refine n_iastoreV hS c_45_165 sc_53.n rfl (by omega) (w_53 (by omega) (by omega)) ?_
        intro M7 eM7 hS7
        refine n_iinc (L2 := [some (2, 52), none, some (2, (p + 1)), none, none, some (0, x5), some (0, x6), some (0, x7), some (0, x8), some (0, (x9 + 1)), some (0, x10), some (0, x11), some (0, x12), some (0, x13), some (0, x14)]) c_45_166 rfl rfl rfl ?_
        refine n_iinc (L2 := [some (2, 52), none, some (2, (p + 1)), none, none, some (0, x5), some (0, x6), some (0, x7), some (0, x8), some (0, (x9 + 1)), some (0, x10), some (0, x11), some (0, x12), some (0, x13), some (0, (x14 + 1))]) c_45_169 rfl rfl rfl ?_
        refine n_goto c_45_172 ?_
        refine n_fg (le_s (le_n (le_s (le_n (le_n (le_s (le_s (le_s (le_s (le_s (le_s (le_s (le_s (le_s (le_s le_0))))))))))))))) ?_
        exact ih.2.2 _ _ _ _ _ _ _ _ _ _ M7 hS7 (by omega) (by omega) (by omega) (by omega) (by omega) (by omega) (by omega) (by omega) (by omega) (by omega) (by omega) (by omega)
set_option maxHeartbeats 4000000 in
theorem fillLT_3 {xs : List Int32} {e : Nat} {ac : Int} {M0 M : nM} {p i j : Int} (hS : Sf 3 ac M0 M) (hp : ActAt p) (hpl : p < 55 + 3 * ac) (hi : 0 ≤ i ∧ i ≤ 26) (hj : 0 ≤ j ∧ j ≤ 26) : nW xs e 45 0 [some (2, 52), some (2, 4), some (2, (p + 1)), some (0, i), some (0, j), none, none, none, none, none, none, none, none, none, none] [] M (nPV fun M1 => Sf 3 ac M0 M1) := by
  have hd : (3 : Int) = 2 ∨ (3 : Int) = 3 := by decide
  have hac := hS.2.2.2.2
  refine n_aload_n c_45_0 rfl ?_
  refine n_getV (bi := 1) c_45_1 sc_52.n rfl rfl rfl (t_52_1 hS) ?_
  intro z1 ez1 f2
  obtain rfl : z1 = 9 := by omega
  refine n_if0_ne c_45_4 (by omega) ?_ ?_
  · intro h3
    refine n_aload_n c_45_8 rfl ?_
    refine n_getV (bi := 0) c_45_9 sc_4.n rfl rfl rfl (t_4_0 hS) ?_
    intro z4 ez4 f5
    obtain rfl : z4 = 3 := by omega
    refine n_istore (L2 := [some (2, 52), some (2, 4), some (2, (p + 1)), some (0, i), some (0, j), some (0, 3), none, none, none, none, none, none, none, none, none]) c_45_12 rfl rfl ?_
    refine n_aload_n c_45_14 rfl ?_
    refine n_getR c_45_15 sc_4.n rfl rfl rfl r_4_2 ?_
    refine n_iload_n c_45_18 rfl ?_
    refine n_ialoadV c_45_19 sc_5.n rfl rfl rfl (by omega) (t_5d hS hd (by omega) (by omega)) ?_
    intro z6 ez6 f7
    refine n_iload c_45_20 rfl ?_
    refine n_imul c_45_22 rfl ?_
    refine n_aload_n c_45_23 rfl ?_
    refine n_getR c_45_24 sc_4.n rfl rfl rfl r_4_2 ?_
    refine n_iload c_45_27 rfl ?_
    refine n_ialoadV c_45_29 sc_5.n rfl rfl rfl (by omega) (t_5d hS hd (by omega) (by omega)) ?_
    intro z8 ez8 f9
    refine n_iadd c_45_30 rfl ?_
    refine n_iload c_45_31 rfl ?_
    refine n_imul c_45_33 rfl ?_
    refine n_istore (L2 := [some (2, 52), some (2, 4), some (2, (p + 1)), some (0, i), some (0, j), some (0, 3), some (0, (((z6 * 3) + z8) * 3)), none, none, none, none, none, none, none, none]) c_45_34 rfl rfl ?_
    refine n_aload_n c_45_36 rfl ?_
    refine n_getR c_45_37 sc_4.n rfl rfl rfl r_4_3 ?_
    refine n_iload_n c_45_40 rfl ?_
    refine n_ialoadV c_45_41 sc_6.n rfl rfl rfl (by omega) (t_6d hS hd (by omega) (by omega)) ?_
    intro z10 ez10 f11
    refine n_iload c_45_42 rfl ?_
    refine n_imul c_45_44 rfl ?_
    refine n_aload_n c_45_45 rfl ?_
    refine n_getR c_45_46 sc_4.n rfl rfl rfl r_4_3 ?_
    refine n_iload c_45_49 rfl ?_
    refine n_ialoadV c_45_51 sc_6.n rfl rfl rfl (by omega) (t_6d hS hd (by omega) (by omega)) ?_
    intro z12 ez12 f13
    refine n_iadd c_45_52 rfl ?_
    refine n_iload c_45_53 rfl ?_
    refine n_imul c_45_55 rfl ?_
    refine n_istore (L2 := [some (2, 52), some (2, 4), some (2, (p + 1)), some (0, i), some (0, j), some (0, 3), some (0, (((z6 * 3) + z8) * 3)), some (0, (((z10 * 3) + z12) * 3)), none, none, none, none, none, none, none]) c_45_56 rfl rfl ?_
    refine n_aload_n c_45_58 rfl ?_
    refine n_getR c_45_59 sc_4.n rfl rfl rfl r_4_4 ?_
    refine n_iload_n c_45_62 rfl ?_
    refine n_ialoadV c_45_63 sc_7.n rfl rfl rfl (by omega) (t_7d hS hd (by omega) (by omega)) ?_
    intro z14 ez14 f15
    refine n_iload c_45_64 rfl ?_
    refine n_imul c_45_66 rfl ?_
    refine n_aload_n c_45_67 rfl ?_
    refine n_getR c_45_68 sc_4.n rfl rfl rfl r_4_4 ?_
    refine n_iload c_45_71 rfl ?_
    refine n_ialoadV c_45_73 sc_7.n rfl rfl rfl (by omega) (t_7d hS hd (by omega) (by omega)) ?_
    intro z16 ez16 f17
    refine n_iadd c_45_74 rfl ?_
    refine n_iload c_45_75 rfl ?_
    refine n_imul c_45_77 rfl ?_
    refine n_istore (L2 := [some (2, 52), some (2, 4), some (2, (p + 1)), some (0, i), some (0, j), some (0, 3), some (0, (((z6 * 3) + z8) * 3)), some (0, (((z10 * 3) + z12) * 3)), some (0, (((z14 * 3) + z16) * 3)), none, none, none, none, none, none]) c_45_78 rfl rfl ?_
    refine n_iconst c_45_80 ?_
    refine n_istore (L2 := [some (2, 52), some (2, 4), some (2, (p + 1)), some (0, i), some (0, j), some (0, 3), some (0, (((z6 * 3) + z8) * 3)), some (0, (((z10 * 3) + z12) * 3)), some (0, (((z14 * 3) + z16) * 3)), some (0, 0), none, none, none, none, none]) c_45_81 rfl rfl ?_
    refine n_iconst c_45_83 ?_
    refine n_istore (L2 := [some (2, 52), some (2, 4), some (2, (p + 1)), some (0, i), some (0, j), some (0, 3), some (0, (((z6 * 3) + z8) * 3)), some (0, (((z10 * 3) + z12) * 3)), some (0, (((z14 * 3) + z16) * 3)), some (0, 0), some (0, 0), none, none, none, none]) c_45_84 rfl rfl ?_
    refine n_fg (le_s (le_n (le_s (le_n (le_n (le_s (le_s (le_s (le_s (le_s (le_s (le_n (le_n (le_n (le_n le_0))))))))))))))) ?_
    exact (fillLT_3_c hS hp hpl hi hj 320).1 _ _ _ _ _ _ M hS (by omega) (by omega) (by omega) (by omega) (by omega) (by omega) (by omega) (by omega)
  · intro h18
    exfalso; omega

set_option maxHeartbeats 4000000 in
theorem fillLU_3_c {xs : List Int32} {e : Nat} {ac : Int} {M0 M : nM} {p i j : Int} (hS : Sf 3 ac M0 M) (hp : ActAt p) (hpl : p < 55 + 3 * ac) (hi : 0 ≤ i ∧ i ≤ 26) (hj : 0 ≤ j ∧ j ≤ 26) : ∀ nn : Nat, (∀ (x5 x6 x7 x8 x9 x10 : Int) (M : nM), Sf 3 ac M0 M → (3 ≤ x5 ∧ x5 ≤ 3) → (0 ≤ x6 ∧ x6 ≤ 24) → (0 ≤ x7 ∧ x7 ≤ 24) → (0 ≤ x8 ∧ x8 ≤ 24) → (0 ≤ x9 ∧ x9 ≤ 27) → (0 ≤ x10 ∧ x10 ≤ 3) → (x9 = 9 * x10) → (3 - x10) * 31 + 31 < (nn : Int) → nW xs e 45 86 [some (2, 52), none, some (2, (p + 2)), none, none, some (0, x5), some (0, x6), some (0, x7), some (0, x8), some (0, x9), some (0, x10), none, none, none, none] [] M (nPV fun M1 => Sf 3 ac M0 M1)) ∧ (∀ (x5 x6 x7 x8 x9 x10 x11 x12 : Int) (M : nM), Sf 3 ac M0 M → (3 ≤ x5 ∧ x5 ≤ 3) → (0 ≤ x6 ∧ x6 ≤ 24) → (0 ≤ x7 ∧ x7 ≤ 24) → (0 ≤ x8 ∧ x8 ≤ 24) → (0 ≤ x9 ∧ x9 ≤ 27) → (0 ≤ x10 ∧ x10 ≤ 2) → (0 ≤ x11 ∧ x11 ≤ 18) → (0 ≤ x12 ∧ x12 ≤ 3) → (x9 = 9 * x10 + 3 * x12) → (3 - x10) * 31 + (3 - x12) * 6 + 6 < (nn : Int) → nW xs e 45 110 [some (2, 52), none, some (2, (p + 2)), none, none, some (0, x5), some (0, x6), some (0, x7), some (0, x8), some (0, x9), some (0, x10), some (0, x11), some (0, x12), none, none] [] M (nPV fun M1 => Sf 3 ac M0 M1)) ∧ (∀ (x5 x6 x7 x8 x9 x10 x11 x12 x13 x14 : Int) (M : nM), Sf 3 ac M0 M → (3 ≤ x5 ∧ x5 ≤ 3) → (0 ≤ x6 ∧ x6 ≤ 24) → (0 ≤ x7 ∧ x7 ≤ 24) → (0 ≤ x8 ∧ x8 ≤ 24) → (0 ≤ x9 ∧ x9 ≤ 27) → (0 ≤ x10 ∧ x10 ≤ 2) → (0 ≤ x11 ∧ x11 ≤ 18) → (0 ≤ x12 ∧ x12 ≤ 2) → (0 ≤ x13 ∧ x13 ≤ 24) → (0 ≤ x14 ∧ x14 ≤ 3) → (x9 = 9 * x10 + 3 * x12 + x14) → (3 - x10) * 31 + (3 - x12) * 6 + (3 - x14) * 1 + 1 < (nn : Int) → nW xs e 45 137 [some (2, 52), none, some (2, (p + 2)), none, none, some (0, x5), some (0, x6), some (0, x7), some (0, x8), some (0, x9), some (0, x10), some (0, x11), some (0, x12), some (0, x13), some (0, x14)] [] M (nPV fun M1 => Sf 3 ac M0 M1)) := by
  have hd : (3 : Int) = 2 ∨ (3 : Int) = 3 := by decide
  have hac := hS.2.2.2.2
  intro nn
  induction nn with
  | zero => refine ⟨?_, ?_, ?_⟩ <;> (intros; omega)
  | succ nn ih =>
    refine ⟨?_, ?_, ?_⟩
    · intro x5 x6 x7 x8 x9 x10 M hS k5 k6 k7 k8 k9 k10 v0 hnn
      refine n_iload c_45_86 rfl ?_
      refine n_iload c_45_88 rfl ?_
      refine n_if2_ge c_45_90 (by omega) (by omega) ?_ ?_
      · intro h1
        exact n_rV c_45_187 rfl hS
      · intro h2
        refine n_aload_n c_45_93 rfl ?_
        refine n_iload c_45_94 rfl ?_
        refine n_iload c_45_96 rfl ?_
        refine n_iadd c_45_98 rfl ?_
        refine n_ialoadV c_45_99 hp.c0.2.2.n rfl rfl rfl (by omega) (t_actrl hS hp hpl (Or.inr rfl) (by omega) (by omega)) ?_
        intro z3 ez3 f4
        refine n_aload_n c_45_100 rfl ?_
        refine n_getV (bi := 1) c_45_101 sc_52.n rfl rfl rfl (t_52_1 hS) ?_
        intro z5 ez5 f6
        obtain rfl : z5 = 9 := by omega
        refine n_imul c_45_104 rfl ?_
        refine n_istore (L2 := [some (2, 52), none, some (2, (p + 2)), none, none, some (0, x5), some (0, x6), some (0, x7), some (0, x8), some (0, x9), some (0, x10), some (0, (z3 * 9)), none, none, none]) c_45_105 rfl rfl ?_
        refine n_iconst c_45_107 ?_
        refine n_istore (L2 := [some (2, 52), none, some (2, (p + 2)), none, none, some (0, x5), some (0, x6), some (0, x7), some (0, x8), some (0, x9), some (0, x10), some (0, (z3 * 9)), some (0, 0), none, none]) c_45_108 rfl rfl ?_
        refine n_fg (le_s (le_n (le_s (le_n (le_n (le_s (le_s (le_s (le_s (le_s (le_s (le_s (le_s (le_n (le_n le_0))))))))))))))) ?_
        exact ih.2.1 _ _ _ _ _ _ _ _ M hS (by omega) (by omega) (by omega) (by omega) (by omega) (by omega) (by omega) (by omega) (by omega) (by omega)
    · intro x5 x6 x7 x8 x9 x10 x11 x12 M hS k5 k6 k7 k8 k9 k10 k11 k12 v0 hnn
      refine n_iload c_45_110 rfl ?_
      refine n_iload c_45_112 rfl ?_
      refine n_if2_ge c_45_114 (by omega) (by omega) ?_ ?_
      · intro h1
        refine n_iinc (L2 := [some (2, 52), none, some (2, (p + 2)), none, none, some (0, x5), some (0, x6), some (0, x7), some (0, x8), some (0, x9), some (0, (x10 + 1)), some (0, x11), some (0, x12), none, none]) c_45_181 rfl rfl rfl ?_
        refine n_goto c_45_184 ?_
        refine n_fg (le_s (le_n (le_s (le_n (le_n (le_s (le_s (le_s (le_s (le_s (le_s (le_n (le_n (le_n (le_n le_0))))))))))))))) ?_
        exact ih.1 _ _ _ _ _ _ M hS (by omega) (by omega) (by omega) (by omega) (by omega) (by omega) (by omega) (by omega)
      · intro h2
        refine n_iload c_45_117 rfl ?_
        refine n_aload_n c_45_119 rfl ?_
        refine n_iload c_45_120 rfl ?_
        refine n_iload c_45_122 rfl ?_
        refine n_iadd c_45_124 rfl ?_
        refine n_ialoadV c_45_125 hp.c0.2.2.n rfl rfl rfl (by omega) (t_actrl hS hp hpl (Or.inr rfl) (by omega) (by omega)) ?_
        intro z3 ez3 f4
        refine n_aload_n c_45_126 rfl ?_
        refine n_getV (bi := 2) c_45_127 sc_52.n rfl rfl rfl (t_52_2 hS) ?_
        intro z5 ez5 f6
        obtain rfl : z5 = 3 := by omega
        refine n_imul c_45_130 rfl ?_
        refine n_iadd c_45_131 rfl ?_
        refine n_istore (L2 := [some (2, 52), none, some (2, (p + 2)), none, none, some (0, x5), some (0, x6), some (0, x7), some (0, x8), some (0, x9), some (0, x10), some (0, x11), some (0, x12), some (0, (x11 + (z3 * 3))), none]) c_45_132 rfl rfl ?_
        refine n_iconst c_45_134 ?_
        refine n_istore (L2 := [some (2, 52), none, some (2, (p + 2)), none, none, some (0, x5), some (0, x6), some (0, x7), some (0, x8), some (0, x9), some (0, x10), some (0, x11), some (0, x12), some (0, (x11 + (z3 * 3))), some (0, 0)]) c_45_135 rfl rfl ?_
        refine n_fg (le_s (le_n (le_s (le_n (le_n (le_s (le_s (le_s (le_s (le_s (le_s (le_s (le_s (le_s (le_s le_0))))))))))))))) ?_
        exact ih.2.2 _ _ _ _ _ _ _ _ _ _ M hS (by omega) (by omega) (by omega) (by omega) (by omega) (by omega) (by omega) (by omega) (by omega) (by omega) (by omega) (by omega)
    · intro x5 x6 x7 x8 x9 x10 x11 x12 x13 x14 M hS k5 k6 k7 k8 k9 k10 k11 k12 k13 k14 v0 hnn
      refine n_iload c_45_137 rfl ?_
      refine n_iload c_45_139 rfl ?_
      refine n_if2_ge c_45_141 (by omega) (by omega) ?_ ?_
      · intro h1
        refine n_iinc (L2 := [some (2, 52), none, some (2, (p + 2)), none, none, some (0, x5), some (0, x6), some (0, x7), some (0, x8), some (0, x9), some (0, x10), some (0, x11), some (0, (x12 + 1)), some (0, x13), some (0, x14)]) c_45_175 rfl rfl rfl ?_
        refine n_goto c_45_178 ?_
        refine n_fg (le_s (le_n (le_s (le_n (le_n (le_s (le_s (le_s (le_s (le_s (le_s (le_s (le_s (le_n (le_n le_0))))))))))))))) ?_
        exact ih.2.1 _ _ _ _ _ _ _ _ M hS (by omega) (by omega) (by omega) (by omega) (by omega) (by omega) (by omega) (by omega) (by omega) (by omega)
      · intro h2
        refine n_aload_n c_45_144 rfl ?_
        refine n_getR c_45_145 sc_52.n rfl rfl rfl r_52_0 ?_
        refine n_iload c_45_148 rfl ?_
        refine n_iload c_45_150 rfl ?_
        refine n_aload_n c_45_152 rfl ?_
        refine n_iload c_45_153 rfl ?_
        refine n_iload c_45_155 rfl ?_
        refine n_iadd c_45_157 rfl ?_
        refine n_ialoadV c_45_158 hp.c0.2.2.n rfl rfl rfl (by omega) (t_actrl hS hp hpl (Or.inr rfl) (by omega) (by omega)) ?_
        intro z3 ez3 f4
        refine n_aload_n c_45_159 rfl ?_
        refine n_getV (bi := 3) c_45_160 sc_52.n rfl rfl rfl (t_52_3 hS) ?_
        intro z5 ez5 f6
        obtain rfl : z5 = 1 := by omega
        refine n_imul c_45_163 rfl ?_
        refine n_iadd c_45_164 rfl ?_
        refine n_iastoreV hS c_45_165 sc_53.n rfl (by omega) (w_53 (by omega) (by omega)) ?_
        intro M7 eM7 hS7
        refine n_iinc (L2 := [some (2, 52), none, some (2, (p + 2)), none, none, some (0, x5), some (0, x6), some (0, x7), some (0, x8), some (0, (x9 + 1)), some (0, x10), some (0, x11), some (0, x12), some (0, x13), some (0, x14)]) c_45_166 rfl rfl rfl ?_
        refine n_iinc (L2 := [some (2, 52), none, some (2, (p + 2)), none, none, some (0, x5), some (0, x6), some (0, x7), some (0, x8), some (0, (x9 + 1)), some (0, x10), some (0, x11), some (0, x12), some (0, x13), some (0, (x14 + 1))]) c_45_169 rfl rfl rfl ?_
        refine n_goto c_45_172 ?_
        refine n_fg (le_s (le_n (le_s (le_n (le_n (le_s (le_s (le_s (le_s (le_s (le_s (le_s (le_s (le_s (le_s le_0))))))))))))))) ?_
        exact ih.2.2 _ _ _ _ _ _ _ _ _ _ M7 hS7 (by omega) (by omega) (by omega) (by omega) (by omega) (by omega) (by omega) (by omega) (by omega) (by omega) (by omega) (by omega)
set_option maxHeartbeats 4000000 in
theorem fillLU_3 {xs : List Int32} {e : Nat} {ac : Int} {M0 M : nM} {p i j : Int} (hS : Sf 3 ac M0 M) (hp : ActAt p) (hpl : p < 55 + 3 * ac) (hi : 0 ≤ i ∧ i ≤ 26) (hj : 0 ≤ j ∧ j ≤ 26) : nW xs e 45 0 [some (2, 52), some (2, 4), some (2, (p + 2)), some (0, i), some (0, j), none, none, none, none, none, none, none, none, none, none] [] M (nPV fun M1 => Sf 3 ac M0 M1) := by
  have hd : (3 : Int) = 2 ∨ (3 : Int) = 3 := by decide
  have hac := hS.2.2.2.2
  refine n_aload_n c_45_0 rfl ?_
  refine n_getV (bi := 1) c_45_1 sc_52.n rfl rfl rfl (t_52_1 hS) ?_
  intro z1 ez1 f2
  obtain rfl : z1 = 9 := by omega
  refine n_if0_ne c_45_4 (by omega) ?_ ?_
  · intro h3
    refine n_aload_n c_45_8 rfl ?_
    refine n_getV (bi := 0) c_45_9 sc_4.n rfl rfl rfl (t_4_0 hS) ?_
    intro z4 ez4 f5
    obtain rfl : z4 = 3 := by omega
    refine n_istore (L2 := [some (2, 52), some (2, 4), some (2, (p + 2)), some (0, i), some (0, j), some (0, 3), none, none, none, none, none, none, none, none, none]) c_45_12 rfl rfl ?_
    refine n_aload_n c_45_14 rfl ?_
    refine n_getR c_45_15 sc_4.n rfl rfl rfl r_4_2 ?_
    refine n_iload_n c_45_18 rfl ?_
    refine n_ialoadV c_45_19 sc_5.n rfl rfl rfl (by omega) (t_5d hS hd (by omega) (by omega)) ?_
    intro z6 ez6 f7
    refine n_iload c_45_20 rfl ?_
    refine n_imul c_45_22 rfl ?_
    refine n_aload_n c_45_23 rfl ?_
    refine n_getR c_45_24 sc_4.n rfl rfl rfl r_4_2 ?_
    refine n_iload c_45_27 rfl ?_
    refine n_ialoadV c_45_29 sc_5.n rfl rfl rfl (by omega) (t_5d hS hd (by omega) (by omega)) ?_
    intro z8 ez8 f9
    refine n_iadd c_45_30 rfl ?_
    refine n_iload c_45_31 rfl ?_
    refine n_imul c_45_33 rfl ?_
    refine n_istore (L2 := [some (2, 52), some (2, 4), some (2, (p + 2)), some (0, i), some (0, j), some (0, 3), some (0, (((z6 * 3) + z8) * 3)), none, none, none, none, none, none, none, none]) c_45_34 rfl rfl ?_
    refine n_aload_n c_45_36 rfl ?_
    refine n_getR c_45_37 sc_4.n rfl rfl rfl r_4_3 ?_
    refine n_iload_n c_45_40 rfl ?_
    refine n_ialoadV c_45_41 sc_6.n rfl rfl rfl (by omega) (t_6d hS hd (by omega) (by omega)) ?_
    intro z10 ez10 f11
    refine n_iload c_45_42 rfl ?_
    refine n_imul c_45_44 rfl ?_
    refine n_aload_n c_45_45 rfl ?_
    refine n_getR c_45_46 sc_4.n rfl rfl rfl r_4_3 ?_
    refine n_iload c_45_49 rfl ?_
    refine n_ialoadV c_45_51 sc_6.n rfl rfl rfl (by omega) (t_6d hS hd (by omega) (by omega)) ?_
    intro z12 ez12 f13
    refine n_iadd c_45_52 rfl ?_
    refine n_iload c_45_53 rfl ?_
    refine n_imul c_45_55 rfl ?_
    refine n_istore (L2 := [some (2, 52), some (2, 4), some (2, (p + 2)), some (0, i), some (0, j), some (0, 3), some (0, (((z6 * 3) + z8) * 3)), some (0, (((z10 * 3) + z12) * 3)), none, none, none, none, none, none, none]) c_45_56 rfl rfl ?_
    refine n_aload_n c_45_58 rfl ?_
    refine n_getR c_45_59 sc_4.n rfl rfl rfl r_4_4 ?_
    refine n_iload_n c_45_62 rfl ?_
    refine n_ialoadV c_45_63 sc_7.n rfl rfl rfl (by omega) (t_7d hS hd (by omega) (by omega)) ?_
    intro z14 ez14 f15
    refine n_iload c_45_64 rfl ?_
    refine n_imul c_45_66 rfl ?_
    refine n_aload_n c_45_67 rfl ?_
    refine n_getR c_45_68 sc_4.n rfl rfl rfl r_4_4 ?_
    refine n_iload c_45_71 rfl ?_
    refine n_ialoadV c_45_73 sc_7.n rfl rfl rfl (by omega) (t_7d hS hd (by omega) (by omega)) ?_
    intro z16 ez16 f17
    refine n_iadd c_45_74 rfl ?_
    refine n_iload c_45_75 rfl ?_
    refine n_imul c_45_77 rfl ?_
    refine n_istore (L2 := [some (2, 52), some (2, 4), some (2, (p + 2)), some (0, i), some (0, j), some (0, 3), some (0, (((z6 * 3) + z8) * 3)), some (0, (((z10 * 3) + z12) * 3)), some (0, (((z14 * 3) + z16) * 3)), none, none, none, none, none, none]) c_45_78 rfl rfl ?_
    refine n_iconst c_45_80 ?_
    refine n_istore (L2 := [some (2, 52), some (2, 4), some (2, (p + 2)), some (0, i), some (0, j), some (0, 3), some (0, (((z6 * 3) + z8) * 3)), some (0, (((z10 * 3) + z12) * 3)), some (0, (((z14 * 3) + z16) * 3)), some (0, 0), none, none, none, none, none]) c_45_81 rfl rfl ?_
    refine n_iconst c_45_83 ?_
    refine n_istore (L2 := [some (2, 52), some (2, 4), some (2, (p + 2)), some (0, i), some (0, j), some (0, 3), some (0, (((z6 * 3) + z8) * 3)), some (0, (((z10 * 3) + z12) * 3)), some (0, (((z14 * 3) + z16) * 3)), some (0, 0), some (0, 0), none, none, none, none]) c_45_84 rfl rfl ?_
    refine n_fg (le_s (le_n (le_s (le_n (le_n (le_s (le_s (le_s (le_s (le_s (le_s (le_n (le_n (le_n (le_n le_0))))))))))))))) ?_
    exact (fillLU_3_c hS hp hpl hi hj 320).1 _ _ _ _ _ _ M hS (by omega) (by omega) (by omega) (by omega) (by omega) (by omega) (by omega) (by omega)
  · intro h18
    exfalso; omega

set_option maxHeartbeats 4000000 in
theorem addWide_3_c {xs : List Int32} {e : Nat} {ac : Int} {M0 M : nM} {r : Int} (hS : Sf 3 ac M0 M) (hr : 0 ≤ r ∧ r ≤ 26) : ∀ nn : Nat, (∀ (M : nM), Sf 3 ac M0 M → 1 < (nn : Int) → nW xs e 42 52 [none, none] [] M (nPV fun M1 => Sf 3 ac M0 M1)) := by
  have hd : (3 : Int) = 2 ∨ (3 : Int) = 3 := by decide
  have hac := hS.2.2.2.2
  intro nn
  induction nn with
  | zero => intros; omega
  | succ nn ih =>
    intro M hS hnn
    exact n_rV c_42_52 rfl hS
set_option maxHeartbeats 4000000 in
theorem addWide_3 {xs : List Int32} {e : Nat} {ac : Int} {M0 M : nM} {r : Int} (hS : Sf 3 ac M0 M) (hr : 0 ≤ r ∧ r ≤ 26) : nW xs e 42 0 [some (2, 50), some (0, r)] [] M (nPV fun M1 => Sf 3 ac M0 M1) := by
  have hd : (3 : Int) = 2 ∨ (3 : Int) = 3 := by decide
  have hac := hS.2.2.2.2
  refine n_aload_n c_42_0 rfl ?_
  refine n_getV (bi := 3) c_42_1 law50.c0.1.n rfl rfl rfl (t_law hS law50).2.2.2 ?_
  intro z1 ez1 f2
  refine n_bipush c_42_4 rfl ?_
  refine n_if2_ge c_42_6 (by omega) (by omega) ?_ ?_
  · intro h3
    refine n_fg (le_n (le_n le_0)) ?_
    exact (addWide_3_c hS hr 12)  M hS  (by omega)
  · intro h4
    refine n_aload_n c_42_9 rfl ?_
    refine n_getV (bi := 2) c_42_10 law50.c0.1.n rfl rfl rfl (t_law hS law50).2.2.1 ?_
    intro z5 ez5 f6
    refine n_iload_n c_42_13 rfl ?_
    refine n_i_ishr c_42_14 rfl ?_
    have f7 := n_shr_r z5 r
    generalize (n_shr z5 r) = z8 at f7 ⊢
    refine n_iconst c_42_15 ?_
    refine n_i_iand c_42_16 rfl ?_
    have f9 := n_and_y (x := z8) (y := 1) (by omega)
    generalize (n_and z8 1) = z10 at f9 ⊢
    refine n_if0_ne c_42_17 (by omega) ?_ ?_
    · intro h11
      refine n_fg (le_n (le_n le_0)) ?_
      exact (addWide_3_c hS hr 12)  M hS  (by omega)
    · intro h12
      refine n_aload_n c_42_20 rfl ?_
      refine n_getR c_42_21 law50.c0.1.n rfl rfl rfl law50.r ?_
      refine n_aload_n c_42_24 rfl ?_
      refine n_getV (bi := 3) c_42_25 law50.c0.1.n rfl rfl rfl (t_law hS law50).2.2.2 ?_
      intro z13 ez13 f14
      refine n_iload_n c_42_28 rfl ?_
      refine n_iastoreV hS c_42_29 law50.c0.2.n rfl (by omega) (w_51 (by omega) (by omega)) ?_
      intro M15 eM15 hS15
      have g15_0 : M15 50 3 = M 50 3 := by rw [eM15]; exact nu_a (by omega)
      refine n_aload_n c_42_30 rfl ?_
      refine n_dup2 c_42_31 ?_
      refine n_getV (bi := 3) c_42_32 law50.c0.1.n rfl rfl rfl (t_law hS15 law50).2.2.2 ?_
      intro z16 ez16 f17
      refine n_iconst c_42_35 ?_
      refine n_iadd c_42_36 rfl ?_
      refine n_putV (bi := 3) hS15 c_42_37 law50.c0.1.n rfl rfl rfl rfl (w_50 (by omega) (by omega)) ?_
      intro M18 eM18 hS18
      have g18_0 : M18 50 3 = (z16 + 1) := by rw [eM18]; exact nu_s _ _ _ _
      refine n_aload_n c_42_40 rfl ?_
      refine n_dup2 c_42_41 ?_
      refine n_getV (bi := 2) c_42_42 law50.c0.1.n rfl rfl rfl (t_law hS18 law50).2.2.1 ?_
      intro z19 ez19 f20
      refine n_iconst c_42_45 ?_
      refine n_iload_n c_42_46 rfl ?_
      refine n_i_ishl c_42_47 rfl ?_
      have f21 := n_shl_1 (y := r) (a := 0) (b := 26) (by decide) (by omega)
      generalize (n_shl 1 r) = z22 at f21 ⊢
      refine n_i_ior c_42_48 rfl ?_
      have f23 := n_or_r z19 z22
      generalize (n_or z19 z22) = z24 at f23 ⊢
      refine n_putV (bi := 2) hS18 c_42_49 law50.c0.1.n rfl rfl rfl rfl (w_50 (by omega) (by omega)) ?_
      intro M25 eM25 hS25
      have g25_0 : M25 50 3 = M18 50 3 := by rw [eM25]; exact nu_i (by omega)
      have g25_1 : M25 50 2 = z24 := by rw [eM25]; exact nu_s _ _ _ _
      refine n_fg (le_n (le_n le_0)) ?_
      exact (addWide_3_c hS hr 12)  M25 hS25  (by omega)

set_option maxHeartbeats 4000000 in
theorem takeS0_3_c {xs : List Int32} {e : Nat} {ac : Int} {M0 M : nM} {s : Int} (hS : Sf 3 ac M0 M) (hs : -2147483648 ≤ s ∧ s ≤ 2147483647) : ∀ nn : Nat, (∀ (x4 x5 : Int) (M : nM), Sf 3 ac M0 M → (1 ≤ x4 ∧ x4 ≤ 1) → (0 ≤ x5 ∧ x5 ≤ 1) → (1 - x5) * 2 + 2 < (nn : Int) → nW xs (e + 1) 36 30 [some (2, 50), some (0, 0), some (0, s), some (2, 4), some (0, x4), some (0, x5)] [] M (nPV fun M1 => Sf 3 ac M0 M1)) ∧ (∀ (x4 x5 : Int) (M : nM), Sf 3 ac M0 M → (1 ≤ x4 ∧ x4 ≤ 1) → (0 ≤ x5 ∧ x5 ≤ 0) → (1 - x5) * 2 + 1 < (nn : Int) → nW xs (e + 1) 36 57 [some (2, 50), some (0, 0), some (0, s), some (2, 4), some (0, x4), some (0, x5)] [] M (nPV fun M1 => Sf 3 ac M0 M1)) := by
  have hd : (3 : Int) = 2 ∨ (3 : Int) = 3 := by decide
  have hac := hS.2.2.2.2
  intro nn
  induction nn with
  | zero => refine ⟨?_, ?_⟩ <;> (intros; omega)
  | succ nn ih =>
    refine ⟨?_, ?_⟩
    · intro x4 x5 M hS k4 k5 hnn
      refine n_iload c_36_30 rfl ?_
      refine n_iload c_36_32 rfl ?_
      refine n_if2_ge c_36_34 (by omega) (by omega) ?_ ?_
      · intro h1
        exact n_rV c_36_63 rfl hS
      · intro h2
        refine n_iload_n c_36_37 rfl ?_
        refine n_iload c_36_38 rfl ?_
        refine n_i_ishr c_36_40 rfl ?_
        have f3 := n_shr_r s x5
        generalize (n_shr s x5) = z4 at f3 ⊢
        refine n_iconst c_36_41 ?_
        refine n_i_iand c_36_42 rfl ?_
        have f5 := n_and_y (x := z4) (y := 1) (by omega)
        generalize (n_and z4 1) = z6 at f5 ⊢
        refine n_if0_eq c_36_43 (by omega) ?_ ?_
        · intro h7
          refine n_fg (le_s (le_s (le_s (le_s (le_s (le_s le_0)))))) ?_
          exact ih.2 _ _ M hS (by omega) (by omega) (by omega)
        · intro h8
          refine n_aload_n c_36_46 rfl ?_
          refine n_aload_n c_36_47 rfl ?_
          refine n_iload c_36_48 rfl ?_
          refine n_iload_n c_36_50 rfl ?_
          refine n_v2I c_36_51 rfl sc_4.n rfl rfl rfl rfl (widen0_3 (n := x5) hS (by omega)) ?_
          intro z9 M10 hP11
          obtain ⟨eM, f11⟩ := hP11
          subst eM
          refine n_v1V c_36_54 rfl law50.c0.1.n rfl rfl rfl rfl (addWide_3 (r := z9) hS (by omega)) ?_
          intro  M12 hP13
          have hS12 := hP13
          refine n_fg (le_s (le_s (le_s (le_s (le_s (le_s le_0)))))) ?_
          exact ih.2 _ _ M12 hS12 (by omega) (by omega) (by omega)
    · intro x4 x5 M hS k4 k5 hnn
      refine n_iinc (L2 := [some (2, 50), some (0, 0), some (0, s), some (2, 4), some (0, x4), some (0, (x5 + 1))]) c_36_57 rfl rfl rfl ?_
      refine n_goto c_36_60 ?_
      refine n_fg (le_s (le_s (le_s (le_s (le_s (le_s le_0)))))) ?_
      exact ih.1 _ _ M hS (by omega) (by omega) (by omega)
set_option maxHeartbeats 4000000 in
theorem takeS0_3 {xs : List Int32} {e : Nat} {ac : Int} {M0 M : nM} {s : Int} (hS : Sf 3 ac M0 M) (hs : -2147483648 ≤ s ∧ s ≤ 2147483647) : nW xs (e + 1) 36 0 [some (2, 50), some (0, 0), some (0, s), some (2, 4), none, none] [] M (nPV fun M1 => Sf 3 ac M0 M1) := by
  have hd : (3 : Int) = 2 ∨ (3 : Int) = 3 := by decide
  have hac := hS.2.2.2.2
  refine n_aload_n c_36_0 rfl ?_
  refine n_iload_n c_36_1 rfl ?_
  refine n_putV (bi := 0) hS c_36_2 law50.c0.1.n rfl rfl rfl rfl (w_50 (by omega) (by omega)) ?_
  intro M1 eM1 hS1
  have g1_0 : M1 50 0 = 0 := by rw [eM1]; exact nu_s _ _ _ _
  refine n_aload_n c_36_5 rfl ?_
  refine n_iload_n c_36_6 rfl ?_
  refine n_putV (bi := 1) hS1 c_36_7 law50.c0.1.n rfl rfl rfl rfl (w_50 (by omega) (by omega)) ?_
  intro M2 eM2 hS2
  have g2_0 : M2 50 0 = M1 50 0 := by rw [eM2]; exact nu_i (by omega)
  have g2_1 : M2 50 1 = s := by rw [eM2]; exact nu_s _ _ _ _
  refine n_aload_n c_36_10 rfl ?_
  refine n_iconst c_36_11 ?_
  refine n_putV (bi := 2) hS2 c_36_12 law50.c0.1.n rfl rfl rfl rfl (w_50 (by omega) (by omega)) ?_
  intro M3 eM3 hS3
  have g3_0 : M3 50 0 = M2 50 0 := by rw [eM3]; exact nu_i (by omega)
  have g3_1 : M3 50 1 = M2 50 1 := by rw [eM3]; exact nu_i (by omega)
  have g3_2 : M3 50 2 = 0 := by rw [eM3]; exact nu_s _ _ _ _
  refine n_aload_n c_36_15 rfl ?_
  refine n_iconst c_36_16 ?_
  refine n_putV (bi := 3) hS3 c_36_17 law50.c0.1.n rfl rfl rfl rfl (w_50 (by omega) (by omega)) ?_
  intro M4 eM4 hS4
  have g4_0 : M4 50 0 = M3 50 0 := by rw [eM4]; exact nu_i (by omega)
  have g4_1 : M4 50 1 = M3 50 1 := by rw [eM4]; exact nu_i (by omega)
  have g4_2 : M4 50 2 = M3 50 2 := by rw [eM4]; exact nu_i (by omega)
  have g4_3 : M4 50 3 = 0 := by rw [eM4]; exact nu_s _ _ _ _
  refine n_aload_n c_36_20 rfl ?_
  refine n_iload_n c_36_21 rfl ?_
  refine n_v1I c_36_22 rfl sc_4.n rfl rfl rfl rfl (power0_3  hS4 ) ?_
  intro z5 M6 hP7
  obtain ⟨eM, f7⟩ := hP7
  subst eM
  obtain rfl : z5 = 1 := by omega
  refine n_istore (L2 := [some (2, 50), some (0, 0), some (0, s), some (2, 4), some (0, 1), none]) c_36_25 rfl rfl ?_
  refine n_iconst c_36_27 ?_
  refine n_istore (L2 := [some (2, 50), some (0, 0), some (0, s), some (2, 4), some (0, 1), some (0, 0)]) c_36_28 rfl rfl ?_
  refine n_fg (le_s (le_s (le_s (le_s (le_s (le_s le_0)))))) ?_
  exact (takeS0_3_c hS hs 22).1 _ _ M4 hS4 (by omega) (by omega) (by omega)

set_option maxHeartbeats 4000000 in
theorem takeS1_3_c {xs : List Int32} {e : Nat} {ac : Int} {M0 M : nM} {s : Int} (hS : Sf 3 ac M0 M) (hs : -2147483648 ≤ s ∧ s ≤ 2147483647) : ∀ nn : Nat, (∀ (x4 x5 : Int) (M : nM), Sf 3 ac M0 M → (3 ≤ x4 ∧ x4 ≤ 3) → (0 ≤ x5 ∧ x5 ≤ 3) → (3 - x5) * 2 + 2 < (nn : Int) → nW xs (e + 1) 36 30 [some (2, 50), some (0, 1), some (0, s), some (2, 4), some (0, x4), some (0, x5)] [] M (nPV fun M1 => Sf 3 ac M0 M1)) ∧ (∀ (x4 x5 : Int) (M : nM), Sf 3 ac M0 M → (3 ≤ x4 ∧ x4 ≤ 3) → (0 ≤ x5 ∧ x5 ≤ 2) → (3 - x5) * 2 + 1 < (nn : Int) → nW xs (e + 1) 36 57 [some (2, 50), some (0, 1), some (0, s), some (2, 4), some (0, x4), some (0, x5)] [] M (nPV fun M1 => Sf 3 ac M0 M1)) := by
  have hd : (3 : Int) = 2 ∨ (3 : Int) = 3 := by decide
  have hac := hS.2.2.2.2
  intro nn
  induction nn with
  | zero => refine ⟨?_, ?_⟩ <;> (intros; omega)
  | succ nn ih =>
    refine ⟨?_, ?_⟩
    · intro x4 x5 M hS k4 k5 hnn
      refine n_iload c_36_30 rfl ?_
      refine n_iload c_36_32 rfl ?_
      refine n_if2_ge c_36_34 (by omega) (by omega) ?_ ?_
      · intro h1
        exact n_rV c_36_63 rfl hS
      · intro h2
        refine n_iload_n c_36_37 rfl ?_
        refine n_iload c_36_38 rfl ?_
        refine n_i_ishr c_36_40 rfl ?_
        have f3 := n_shr_r s x5
        generalize (n_shr s x5) = z4 at f3 ⊢
        refine n_iconst c_36_41 ?_
        refine n_i_iand c_36_42 rfl ?_
        have f5 := n_and_y (x := z4) (y := 1) (by omega)
        generalize (n_and z4 1) = z6 at f5 ⊢
        refine n_if0_eq c_36_43 (by omega) ?_ ?_
        · intro h7
          refine n_fg (le_s (le_s (le_s (le_s (le_s (le_s le_0)))))) ?_
          exact ih.2 _ _ M hS (by omega) (by omega) (by omega)
        · intro h8
          refine n_aload_n c_36_46 rfl ?_
          refine n_aload_n c_36_47 rfl ?_
          refine n_iload c_36_48 rfl ?_
          refine n_iload_n c_36_50 rfl ?_
          refine n_v2I c_36_51 rfl sc_4.n rfl rfl rfl rfl (widen1_3 (n := x5) hS (by omega)) ?_
          intro z9 M10 hP11
          obtain ⟨eM, f11⟩ := hP11
          subst eM
          refine n_v1V c_36_54 rfl law50.c0.1.n rfl rfl rfl rfl (addWide_3 (r := z9) hS (by omega)) ?_
          intro  M12 hP13
          have hS12 := hP13
          refine n_fg (le_s (le_s (le_s (le_s (le_s (le_s le_0)))))) ?_
          exact ih.2 _ _ M12 hS12 (by omega) (by omega) (by omega)
    · intro x4 x5 M hS k4 k5 hnn
      refine n_iinc (L2 := [some (2, 50), some (0, 1), some (0, s), some (2, 4), some (0, x4), some (0, (x5 + 1))]) c_36_57 rfl rfl rfl ?_
      refine n_goto c_36_60 ?_
      refine n_fg (le_s (le_s (le_s (le_s (le_s (le_s le_0)))))) ?_
      exact ih.1 _ _ M hS (by omega) (by omega) (by omega)
set_option maxHeartbeats 4000000 in
theorem takeS1_3 {xs : List Int32} {e : Nat} {ac : Int} {M0 M : nM} {s : Int} (hS : Sf 3 ac M0 M) (hs : -2147483648 ≤ s ∧ s ≤ 2147483647) : nW xs (e + 1) 36 0 [some (2, 50), some (0, 1), some (0, s), some (2, 4), none, none] [] M (nPV fun M1 => Sf 3 ac M0 M1) := by
  have hd : (3 : Int) = 2 ∨ (3 : Int) = 3 := by decide
  have hac := hS.2.2.2.2
  refine n_aload_n c_36_0 rfl ?_
  refine n_iload_n c_36_1 rfl ?_
  refine n_putV (bi := 0) hS c_36_2 law50.c0.1.n rfl rfl rfl rfl (w_50 (by omega) (by omega)) ?_
  intro M1 eM1 hS1
  have g1_0 : M1 50 0 = 1 := by rw [eM1]; exact nu_s _ _ _ _
  refine n_aload_n c_36_5 rfl ?_
  refine n_iload_n c_36_6 rfl ?_
  refine n_putV (bi := 1) hS1 c_36_7 law50.c0.1.n rfl rfl rfl rfl (w_50 (by omega) (by omega)) ?_
  intro M2 eM2 hS2
  have g2_0 : M2 50 0 = M1 50 0 := by rw [eM2]; exact nu_i (by omega)
  have g2_1 : M2 50 1 = s := by rw [eM2]; exact nu_s _ _ _ _
  refine n_aload_n c_36_10 rfl ?_
  refine n_iconst c_36_11 ?_
  refine n_putV (bi := 2) hS2 c_36_12 law50.c0.1.n rfl rfl rfl rfl (w_50 (by omega) (by omega)) ?_
  intro M3 eM3 hS3
  have g3_0 : M3 50 0 = M2 50 0 := by rw [eM3]; exact nu_i (by omega)
  have g3_1 : M3 50 1 = M2 50 1 := by rw [eM3]; exact nu_i (by omega)
  have g3_2 : M3 50 2 = 0 := by rw [eM3]; exact nu_s _ _ _ _
  refine n_aload_n c_36_15 rfl ?_
  refine n_iconst c_36_16 ?_
  refine n_putV (bi := 3) hS3 c_36_17 law50.c0.1.n rfl rfl rfl rfl (w_50 (by omega) (by omega)) ?_
  intro M4 eM4 hS4
  have g4_0 : M4 50 0 = M3 50 0 := by rw [eM4]; exact nu_i (by omega)
  have g4_1 : M4 50 1 = M3 50 1 := by rw [eM4]; exact nu_i (by omega)
  have g4_2 : M4 50 2 = M3 50 2 := by rw [eM4]; exact nu_i (by omega)
  have g4_3 : M4 50 3 = 0 := by rw [eM4]; exact nu_s _ _ _ _
  refine n_aload_n c_36_20 rfl ?_
  refine n_iload_n c_36_21 rfl ?_
  refine n_v1I c_36_22 rfl sc_4.n rfl rfl rfl rfl (power1_3  hS4 ) ?_
  intro z5 M6 hP7
  obtain ⟨eM, f7⟩ := hP7
  subst eM
  obtain rfl : z5 = 3 := by omega
  refine n_istore (L2 := [some (2, 50), some (0, 1), some (0, s), some (2, 4), some (0, 3), none]) c_36_25 rfl rfl ?_
  refine n_iconst c_36_27 ?_
  refine n_istore (L2 := [some (2, 50), some (0, 1), some (0, s), some (2, 4), some (0, 3), some (0, 0)]) c_36_28 rfl rfl ?_
  refine n_fg (le_s (le_s (le_s (le_s (le_s (le_s le_0)))))) ?_
  exact (takeS1_3_c hS hs 30).1 _ _ M4 hS4 (by omega) (by omega) (by omega)
