/-! The methods, by program. -/
set_option maxHeartbeats 4000000 in
theorem beMost_3 {xs : List Int32} {e : Nat} {ac : Int} {M0 M : nM} (hS : Sf 3 ac M0 M)  : nW xs (e + 1) 22 0 [some (2, 44), some (2, 4), none, none, none, none] [] M (nPV fun M1 => Sf 3 ac M0 M1) := by
  have hd : (3 : Int) = 2 ∨ (3 : Int) = 3 := by decide
  have hac := hS.2.2.2.2
  refine n_aload_n c_22_0 rfl ?_
  refine n_iconst c_22_1 ?_
  refine n_aload_n c_22_2 rfl ?_
  refine n_getV (bi := 0) c_22_3 sc_4.n rfl rfl rfl (t_4_0 hS) ?_
  intro z1 ez1 f2
  obtain rfl : z1 = 3 := by omega
  refine n_aload_n c_22_6 rfl ?_
  refine n_v3V c_22_7 rfl sc_44.n rfl rfl rfl rfl (begin_3 (n := 3) (c := 3) hS (by omega) (by omega)) ?_
  intro  M3 hP4
  obtain ⟨hS3, f4p0⟩ := hP4
  refine n_aload_n c_22_10 rfl ?_
  refine n_getV (bi := 1) c_22_11 sc_4.n rfl rfl rfl (t_4_1 hS3) ?_
  intro z5 ez5 f6
  obtain rfl : z5 = 27 := by omega
  refine n_iconst c_22_14 ?_
  refine n_isub c_22_15 rfl ?_
  refine n_istore_n (L2 := [some (2, 44), some (2, 4), some (0, (27 - 1)), none, none, none]) c_22_16 rfl rfl ?_
  refine n_iload_n c_22_17 rfl ?_
  refine n_if0_lt c_22_18 (by omega) ?_ ?_
  · intro h7
    exfalso; omega
  · intro h8
    refine n_aload_n c_22_21 rfl ?_
    refine n_getR c_22_22 sc_4.n rfl rfl rfl r_4_2 ?_
    refine n_iload_n c_22_25 rfl ?_
    refine n_ialoadV c_22_26 sc_5.n rfl rfl rfl (by omega) (t_5k (z := 2) hS3 (by omega) (by omega) (by omega)) ?_
    intro z9 ez9 f10
    refine n_istore_n (L2 := [some (2, 44), some (2, 4), some (0, (27 - 1)), some (0, z9), none, none]) c_22_27 rfl rfl ?_
    refine n_aload_n c_22_28 rfl ?_
    refine n_getR c_22_29 sc_4.n rfl rfl rfl r_4_3 ?_
    refine n_iload_n c_22_32 rfl ?_
    refine n_ialoadV c_22_33 sc_6.n rfl rfl rfl (by omega) (t_6k (z := 2) hS3 (by omega) (by omega) (by omega)) ?_
    intro z11 ez11 f12
    refine n_istore (L2 := [some (2, 44), some (2, 4), some (0, (27 - 1)), some (0, z9), some (0, z11), none]) c_22_34 rfl rfl ?_
    refine n_aload_n c_22_36 rfl ?_
    refine n_getR c_22_37 sc_4.n rfl rfl rfl r_4_4 ?_
    refine n_iload_n c_22_40 rfl ?_
    refine n_ialoadV c_22_41 sc_7.n rfl rfl rfl (by omega) (t_7k (z := 2) hS3 (by omega) (by omega) (by omega)) ?_
    intro z13 ez13 f14
    refine n_istore (L2 := [some (2, 44), some (2, 4), some (0, (27 - 1)), some (0, z9), some (0, z11), some (0, z13)]) c_22_42 rfl rfl ?_
    refine n_iload_n c_22_44 rfl ?_
    refine n_iload c_22_45 rfl ?_
    refine n_if2_eq c_22_47 (by omega) (by omega) ?_ ?_
    · intro h15
      refine n_aload_n c_22_56 rfl ?_
      refine n_getR c_22_57 sc_44.n rfl rfl rfl r_44_4 ?_
      refine n_iload_n c_22_60 rfl ?_
      refine n_iload_n c_22_61 rfl ?_
      refine n_iastoreV hS3 c_22_62 sc_45.n rfl (by omega) (w_45 (by omega) (by omega)) ?_
      intro M16 eM16 hS16
      have g16_0 : M16 44 2 = M3 44 2 := by rw [eM16]; exact nu_a (by omega)
      have g16_1 : M16 44 0 = M3 44 0 := by rw [eM16]; exact nu_a (by omega)
      have g16_2 : M16 44 5 = M3 44 5 := by rw [eM16]; exact nu_a (by omega)
      refine n_goto c_22_63 ?_
      refine n_iinc (L2 := [some (2, 44), some (2, 4), some (0, ((27 - 1) + (-1))), some (0, z9), some (0, z11), some (0, z13)]) c_22_101 rfl rfl rfl ?_
      refine n_goto c_22_104 ?_
      refine n_iload_n c_22_17 rfl ?_
      refine n_if0_lt c_22_18 (by omega) ?_ ?_
      · intro h17
        exfalso; omega
      · intro h18
        refine n_aload_n c_22_21 rfl ?_
        refine n_getR c_22_22 sc_4.n rfl rfl rfl r_4_2 ?_
        refine n_iload_n c_22_25 rfl ?_
        refine n_ialoadV c_22_26 sc_5.n rfl rfl rfl (by omega) (t_5k (z := 2) hS16 (by omega) (by omega) (by omega)) ?_
        intro z19 ez19 f20
        refine n_istore_n (L2 := [some (2, 44), some (2, 4), some (0, ((27 - 1) + (-1))), some (0, z19), some (0, z11), some (0, z13)]) c_22_27 rfl rfl ?_
        refine n_aload_n c_22_28 rfl ?_
        refine n_getR c_22_29 sc_4.n rfl rfl rfl r_4_3 ?_
        refine n_iload_n c_22_32 rfl ?_
        refine n_ialoadV c_22_33 sc_6.n rfl rfl rfl (by omega) (t_6k (z := 2) hS16 (by omega) (by omega) (by omega)) ?_
        intro z21 ez21 f22
        refine n_istore (L2 := [some (2, 44), some (2, 4), some (0, ((27 - 1) + (-1))), some (0, z19), some (0, z21), some (0, z13)]) c_22_34 rfl rfl ?_
        refine n_aload_n c_22_36 rfl ?_
        refine n_getR c_22_37 sc_4.n rfl rfl rfl r_4_4 ?_
        refine n_iload_n c_22_40 rfl ?_
        refine n_ialoadV c_22_41 sc_7.n rfl rfl rfl (by omega) (t_7k (z := 1) hS16 (by omega) (by omega) (by omega)) ?_
        intro z23 ez23 f24
        refine n_istore (L2 := [some (2, 44), some (2, 4), some (0, ((27 - 1) + (-1))), some (0, z19), some (0, z21), some (0, z23)]) c_22_42 rfl rfl ?_
        refine n_iload_n c_22_44 rfl ?_
        refine n_iload c_22_45 rfl ?_
        refine n_if2_eq c_22_47 (by omega) (by omega) ?_ ?_
        · intro h25
          refine n_aload_n c_22_56 rfl ?_
          refine n_getR c_22_57 sc_44.n rfl rfl rfl r_44_4 ?_
          refine n_iload_n c_22_60 rfl ?_
          refine n_iload_n c_22_61 rfl ?_
          refine n_iastoreV hS16 c_22_62 sc_45.n rfl (by omega) (w_45 (by omega) (by omega)) ?_
          intro M26 eM26 hS26
          have g26_0 : M26 44 2 = M16 44 2 := by rw [eM26]; exact nu_a (by omega)
          have g26_1 : M26 44 0 = M16 44 0 := by rw [eM26]; exact nu_a (by omega)
          have g26_2 : M26 44 5 = M16 44 5 := by rw [eM26]; exact nu_a (by omega)
          refine n_goto c_22_63 ?_
          refine n_iinc (L2 := [some (2, 44), some (2, 4), some (0, (((27 - 1) + (-1)) + (-1))), some (0, z19), some (0, z21), some (0, z23)]) c_22_101 rfl rfl rfl ?_
          refine n_goto c_22_104 ?_
          refine n_iload_n c_22_17 rfl ?_
          refine n_if0_lt c_22_18 (by omega) ?_ ?_
          · intro h27
            exfalso; omega
          · intro h28
            refine n_aload_n c_22_21 rfl ?_
            refine n_getR c_22_22 sc_4.n rfl rfl rfl r_4_2 ?_
            refine n_iload_n c_22_25 rfl ?_
            refine n_ialoadV c_22_26 sc_5.n rfl rfl rfl (by omega) (t_5k (z := 2) hS26 (by omega) (by omega) (by omega)) ?_
            intro z29 ez29 f30
            refine n_istore_n (L2 := [some (2, 44), some (2, 4), some (0, (((27 - 1) + (-1)) + (-1))), some (0, z29), some (0, z21), some (0, z23)]) c_22_27 rfl rfl ?_
            refine n_aload_n c_22_28 rfl ?_
            refine n_getR c_22_29 sc_4.n rfl rfl rfl r_4_3 ?_
            refine n_iload_n c_22_32 rfl ?_
            refine n_ialoadV c_22_33 sc_6.n rfl rfl rfl (by omega) (t_6k (z := 2) hS26 (by omega) (by omega) (by omega)) ?_
            intro z31 ez31 f32
            refine n_istore (L2 := [some (2, 44), some (2, 4), some (0, (((27 - 1) + (-1)) + (-1))), some (0, z29), some (0, z31), some (0, z23)]) c_22_34 rfl rfl ?_
            refine n_aload_n c_22_36 rfl ?_
            refine n_getR c_22_37 sc_4.n rfl rfl rfl r_4_4 ?_
            refine n_iload_n c_22_40 rfl ?_
            refine n_ialoadV c_22_41 sc_7.n rfl rfl rfl (by omega) (t_7k (z := 0) hS26 (by omega) (by omega) (by omega)) ?_
            intro z33 ez33 f34
            refine n_istore (L2 := [some (2, 44), some (2, 4), some (0, (((27 - 1) + (-1)) + (-1))), some (0, z29), some (0, z31), some (0, z33)]) c_22_42 rfl rfl ?_
            refine n_iload_n c_22_44 rfl ?_
            refine n_iload c_22_45 rfl ?_
            refine n_if2_eq c_22_47 (by omega) (by omega) ?_ ?_
            · intro h35
              refine n_aload_n c_22_56 rfl ?_
              refine n_getR c_22_57 sc_44.n rfl rfl rfl r_44_4 ?_
              refine n_iload_n c_22_60 rfl ?_
              refine n_iload_n c_22_61 rfl ?_
              refine n_iastoreV hS26 c_22_62 sc_45.n rfl (by omega) (w_45 (by omega) (by omega)) ?_
              intro M36 eM36 hS36
              have g36_0 : M36 44 2 = M26 44 2 := by rw [eM36]; exact nu_a (by omega)
              have g36_1 : M36 44 0 = M26 44 0 := by rw [eM36]; exact nu_a (by omega)
              have g36_2 : M36 44 5 = M26 44 5 := by rw [eM36]; exact nu_a (by omega)
              refine n_goto c_22_63 ?_
              refine n_iinc (L2 := [some (2, 44), some (2, 4), some (0, ((((27 - 1) + (-1)) + (-1)) + (-1))), some (0, z29), some (0, z31), some (0, z33)]) c_22_101 rfl rfl rfl ?_
              refine n_goto c_22_104 ?_
              refine n_iload_n c_22_17 rfl ?_
              refine n_if0_lt c_22_18 (by omega) ?_ ?_
              · intro h37
                exfalso; omega
              · intro h38
                refine n_aload_n c_22_21 rfl ?_
                refine n_getR c_22_22 sc_4.n rfl rfl rfl r_4_2 ?_
                refine n_iload_n c_22_25 rfl ?_
                refine n_ialoadV c_22_26 sc_5.n rfl rfl rfl (by omega) (t_5k (z := 2) hS36 (by omega) (by omega) (by omega)) ?_
                intro z39 ez39 f40
                refine n_istore_n (L2 := [some (2, 44), some (2, 4), some (0, ((((27 - 1) + (-1)) + (-1)) + (-1))), some (0, z39), some (0, z31), some (0, z33)]) c_22_27 rfl rfl ?_
                refine n_aload_n c_22_28 rfl ?_
                refine n_getR c_22_29 sc_4.n rfl rfl rfl r_4_3 ?_
                refine n_iload_n c_22_32 rfl ?_
                refine n_ialoadV c_22_33 sc_6.n rfl rfl rfl (by omega) (t_6k (z := 1) hS36 (by omega) (by omega) (by omega)) ?_
                intro z41 ez41 f42
                refine n_istore (L2 := [some (2, 44), some (2, 4), some (0, ((((27 - 1) + (-1)) + (-1)) + (-1))), some (0, z39), some (0, z41), some (0, z33)]) c_22_34 rfl rfl ?_
                refine n_aload_n c_22_36 rfl ?_
                refine n_getR c_22_37 sc_4.n rfl rfl rfl r_4_4 ?_
                refine n_iload_n c_22_40 rfl ?_
                refine n_ialoadV c_22_41 sc_7.n rfl rfl rfl (by omega) (t_7k (z := 2) hS36 (by omega) (by omega) (by omega)) ?_
                intro z43 ez43 f44
                refine n_istore (L2 := [some (2, 44), some (2, 4), some (0, ((((27 - 1) + (-1)) + (-1)) + (-1))), some (0, z39), some (0, z41), some (0, z43)]) c_22_42 rfl rfl ?_
                refine n_iload_n c_22_44 rfl ?_
                refine n_iload c_22_45 rfl ?_
                refine n_if2_eq c_22_47 (by omega) (by omega) ?_ ?_
                · intro h45
                  exfalso; omega
                · intro h46
                  refine n_iload_n c_22_50 rfl ?_
                  refine n_iload c_22_51 rfl ?_
                  refine n_if2_ne c_22_53 (by omega) (by omega) ?_ ?_
                  · intro h47
                    exfalso; omega
                  · intro h48
                    refine n_aload_n c_22_56 rfl ?_
                    refine n_getR c_22_57 sc_44.n rfl rfl rfl r_44_4 ?_
                    refine n_iload_n c_22_60 rfl ?_
                    refine n_iload_n c_22_61 rfl ?_
                    refine n_iastoreV hS36 c_22_62 sc_45.n rfl (by omega) (w_45 (by omega) (by omega)) ?_
                    intro M49 eM49 hS49
                    have g49_0 : M49 44 2 = M36 44 2 := by rw [eM49]; exact nu_a (by omega)
                    have g49_1 : M49 44 0 = M36 44 0 := by rw [eM49]; exact nu_a (by omega)
                    have g49_2 : M49 44 5 = M36 44 5 := by rw [eM49]; exact nu_a (by omega)
                    refine n_goto c_22_63 ?_
                    refine n_iinc (L2 := [some (2, 44), some (2, 4), some (0, (((((27 - 1) + (-1)) + (-1)) + (-1)) + (-1))), some (0, z39), some (0, z41), some (0, z43)]) c_22_101 rfl rfl rfl ?_
                    refine n_goto c_22_104 ?_
                    refine n_iload_n c_22_17 rfl ?_
                    refine n_if0_lt c_22_18 (by omega) ?_ ?_
                    · intro h50
                      exfalso; omega
                    · intro h51
                      refine n_aload_n c_22_21 rfl ?_
                      refine n_getR c_22_22 sc_4.n rfl rfl rfl r_4_2 ?_
                      refine n_iload_n c_22_25 rfl ?_
                      refine n_ialoadV c_22_26 sc_5.n rfl rfl rfl (by omega) (t_5k (z := 2) hS49 (by omega) (by omega) (by omega)) ?_
                      intro z52 ez52 f53
                      refine n_istore_n (L2 := [some (2, 44), some (2, 4), some (0, (((((27 - 1) + (-1)) + (-1)) + (-1)) + (-1))), some (0, z52), some (0, z41), some (0, z43)]) c_22_27 rfl rfl ?_
                      refine n_aload_n c_22_28 rfl ?_
                      refine n_getR c_22_29 sc_4.n rfl rfl rfl r_4_3 ?_
                      refine n_iload_n c_22_32 rfl ?_
                      refine n_ialoadV c_22_33 sc_6.n rfl rfl rfl (by omega) (t_6k (z := 1) hS49 (by omega) (by omega) (by omega)) ?_
                      intro z54 ez54 f55
                      refine n_istore (L2 := [some (2, 44), some (2, 4), some (0, (((((27 - 1) + (-1)) + (-1)) + (-1)) + (-1))), some (0, z52), some (0, z54), some (0, z43)]) c_22_34 rfl rfl ?_
                      refine n_aload_n c_22_36 rfl ?_
                      refine n_getR c_22_37 sc_4.n rfl rfl rfl r_4_4 ?_
                      refine n_iload_n c_22_40 rfl ?_
                      refine n_ialoadV c_22_41 sc_7.n rfl rfl rfl (by omega) (t_7k (z := 1) hS49 (by omega) (by omega) (by omega)) ?_
                      intro z56 ez56 f57
                      refine n_istore (L2 := [some (2, 44), some (2, 4), some (0, (((((27 - 1) + (-1)) + (-1)) + (-1)) + (-1))), some (0, z52), some (0, z54), some (0, z56)]) c_22_42 rfl rfl ?_
                      refine n_iload_n c_22_44 rfl ?_
                      refine n_iload c_22_45 rfl ?_
                      refine n_if2_eq c_22_47 (by omega) (by omega) ?_ ?_
                      · intro h58
                        exfalso; omega
                      · intro h59
                        refine n_iload_n c_22_50 rfl ?_
                        refine n_iload c_22_51 rfl ?_
                        refine n_if2_ne c_22_53 (by omega) (by omega) ?_ ?_
                        · intro h60
                          refine n_iload c_22_66 rfl ?_
                          refine n_iload c_22_68 rfl ?_
                          refine n_if2_ne c_22_70 (by omega) (by omega) ?_ ?_
                          · intro h61
                            exfalso; omega
                          · intro h62
                            refine n_aload_n c_22_73 rfl ?_
                            refine n_getR c_22_74 sc_44.n rfl rfl rfl r_44_4 ?_
                            refine n_iload_n c_22_77 rfl ?_
                            refine n_iload c_22_78 rfl ?_
                            refine n_iastoreV hS49 c_22_80 sc_45.n rfl (by omega) (w_45 (by omega) (by omega)) ?_
                            intro M63 eM63 hS63
                            have g63_0 : M63 44 2 = M49 44 2 := by rw [eM63]; exact nu_a (by omega)
                            have g63_1 : M63 44 0 = M49 44 0 := by rw [eM63]; exact nu_a (by omega)
                            have g63_2 : M63 44 5 = M49 44 5 := by rw [eM63]; exact nu_a (by omega)
                            refine n_goto c_22_81 ?_
                            refine n_iinc (L2 := [some (2, 44), some (2, 4), some (0, ((((((27 - 1) + (-1)) + (-1)) + (-1)) + (-1)) + (-1))), some (0, z52), some (0, z54), some (0, z56)]) c_22_101 rfl rfl rfl ?_
                            refine n_goto c_22_104 ?_
                            refine n_iload_n c_22_17 rfl ?_
                            refine n_if0_lt c_22_18 (by omega) ?_ ?_
                            · intro h64
                              exfalso; omega
                            · intro h65
                              refine n_aload_n c_22_21 rfl ?_
                              refine n_getR c_22_22 sc_4.n rfl rfl rfl r_4_2 ?_
                              refine n_iload_n c_22_25 rfl ?_
                              refine n_ialoadV c_22_26 sc_5.n rfl rfl rfl (by omega) (t_5k (z := 2) hS63 (by omega) (by omega) (by omega)) ?_
                              intro z66 ez66 f67
                              refine n_istore_n (L2 := [some (2, 44), some (2, 4), some (0, ((((((27 - 1) + (-1)) + (-1)) + (-1)) + (-1)) + (-1))), some (0, z66), some (0, z54), some (0, z56)]) c_22_27 rfl rfl ?_
                              refine n_aload_n c_22_28 rfl ?_
                              refine n_getR c_22_29 sc_4.n rfl rfl rfl r_4_3 ?_
                              refine n_iload_n c_22_32 rfl ?_
                              refine n_ialoadV c_22_33 sc_6.n rfl rfl rfl (by omega) (t_6k (z := 1) hS63 (by omega) (by omega) (by omega)) ?_
                              intro z68 ez68 f69
                              refine n_istore (L2 := [some (2, 44), some (2, 4), some (0, ((((((27 - 1) + (-1)) + (-1)) + (-1)) + (-1)) + (-1))), some (0, z66), some (0, z68), some (0, z56)]) c_22_34 rfl rfl ?_
                              refine n_aload_n c_22_36 rfl ?_
                              refine n_getR c_22_37 sc_4.n rfl rfl rfl r_4_4 ?_
                              refine n_iload_n c_22_40 rfl ?_
                              refine n_ialoadV c_22_41 sc_7.n rfl rfl rfl (by omega) (t_7k (z := 0) hS63 (by omega) (by omega) (by omega)) ?_
                              intro z70 ez70 f71
                              refine n_istore (L2 := [some (2, 44), some (2, 4), some (0, ((((((27 - 1) + (-1)) + (-1)) + (-1)) + (-1)) + (-1))), some (0, z66), some (0, z68), some (0, z70)]) c_22_42 rfl rfl ?_
                              refine n_iload_n c_22_44 rfl ?_
                              refine n_iload c_22_45 rfl ?_
                              refine n_if2_eq c_22_47 (by omega) (by omega) ?_ ?_
                              · intro h72
                                exfalso; omega
                              · intro h73
                                refine n_iload_n c_22_50 rfl ?_
                                refine n_iload c_22_51 rfl ?_
                                refine n_if2_ne c_22_53 (by omega) (by omega) ?_ ?_
                                · intro h74
                                  refine n_iload c_22_66 rfl ?_
                                  refine n_iload c_22_68 rfl ?_
                                  refine n_if2_ne c_22_70 (by omega) (by omega) ?_ ?_
                                  · intro h75
                                    refine n_aload_n c_22_84 rfl ?_
                                    refine n_getR c_22_85 sc_44.n rfl rfl rfl r_44_4 ?_
                                    refine n_iload_n c_22_88 rfl ?_
                                    refine n_aload_n c_22_89 rfl ?_
                                    refine n_dup2 c_22_90 ?_
                                    refine n_getV (bi := 2) c_22_91 sc_44.n rfl rfl rfl (t_44_2 hS63) ?_
                                    intro z76 ez76 f77
                                    obtain rfl : z76 = 3 := by omega
                                    refine n_dup_x102 c_22_94 ?_
                                    refine n_iconst c_22_95 ?_
                                    refine n_iadd c_22_96 rfl ?_
                                    refine n_putV (bi := 2) hS63 c_22_97 sc_44.n rfl rfl rfl rfl (w_44_2 (by omega)) ?_
                                    intro M78 eM78 hS78
                                    have g78_0 : M78 44 0 = M63 44 0 := by rw [eM78]; exact nu_i (by omega)
                                    have g78_1 : M78 44 5 = M63 44 5 := by rw [eM78]; exact nu_i (by omega)
                                    have g78_2 : M78 44 2 = (3 + 1) := by rw [eM78]; exact nu_s _ _ _ _
                                    refine n_iastoreV hS78 c_22_100 sc_45.n rfl (by omega) (w_45 (by omega) (by omega)) ?_
                                    intro M79 eM79 hS79
                                    have g79_0 : M79 44 0 = M78 44 0 := by rw [eM79]; exact nu_a (by omega)
                                    have g79_1 : M79 44 5 = M78 44 5 := by rw [eM79]; exact nu_a (by omega)
                                    have g79_2 : M79 44 2 = M78 44 2 := by rw [eM79]; exact nu_a (by omega)
                                    refine n_iinc (L2 := [some (2, 44), some (2, 4), some (0, (((((((27 - 1) + (-1)) + (-1)) + (-1)) + (-1)) + (-1)) + (-1))), some (0, z66), some (0, z68), some (0, z70)]) c_22_101 rfl rfl rfl ?_
                                    refine n_goto c_22_104 ?_
                                    refine n_iload_n c_22_17 rfl ?_
                                    refine n_if0_lt c_22_18 (by omega) ?_ ?_
                                    · intro h80
                                      exfalso; omega
                                    · intro h81
                                      refine n_aload_n c_22_21 rfl ?_
                                      refine n_getR c_22_22 sc_4.n rfl rfl rfl r_4_2 ?_
                                      refine n_iload_n c_22_25 rfl ?_
                                      refine n_ialoadV c_22_26 sc_5.n rfl rfl rfl (by omega) (t_5k (z := 2) hS79 (by omega) (by omega) (by omega)) ?_
                                      intro z82 ez82 f83
                                      refine n_istore_n (L2 := [some (2, 44), some (2, 4), some (0, (((((((27 - 1) + (-1)) + (-1)) + (-1)) + (-1)) + (-1)) + (-1))), some (0, z82), some (0, z68), some (0, z70)]) c_22_27 rfl rfl ?_
                                      refine n_aload_n c_22_28 rfl ?_
                                      refine n_getR c_22_29 sc_4.n rfl rfl rfl r_4_3 ?_
                                      refine n_iload_n c_22_32 rfl ?_
                                      refine n_ialoadV c_22_33 sc_6.n rfl rfl rfl (by omega) (t_6k (z := 0) hS79 (by omega) (by omega) (by omega)) ?_
                                      intro z84 ez84 f85
                                      refine n_istore (L2 := [some (2, 44), some (2, 4), some (0, (((((((27 - 1) + (-1)) + (-1)) + (-1)) + (-1)) + (-1)) + (-1))), some (0, z82), some (0, z84), some (0, z70)]) c_22_34 rfl rfl ?_
                                      refine n_aload_n c_22_36 rfl ?_
                                      refine n_getR c_22_37 sc_4.n rfl rfl rfl r_4_4 ?_
                                      refine n_iload_n c_22_40 rfl ?_
                                      refine n_ialoadV c_22_41 sc_7.n rfl rfl rfl (by omega) (t_7k (z := 2) hS79 (by omega) (by omega) (by omega)) ?_
                                      intro z86 ez86 f87
                                      refine n_istore (L2 := [some (2, 44), some (2, 4), some (0, (((((((27 - 1) + (-1)) + (-1)) + (-1)) + (-1)) + (-1)) + (-1))), some (0, z82), some (0, z84), some (0, z86)]) c_22_42 rfl rfl ?_
                                      refine n_iload_n c_22_44 rfl ?_
                                      refine n_iload c_22_45 rfl ?_
                                      refine n_if2_eq c_22_47 (by omega) (by omega) ?_ ?_
                                      · intro h88
                                        exfalso; omega
                                      · intro h89
                                        refine n_iload_n c_22_50 rfl ?_
                                        refine n_iload c_22_51 rfl ?_
                                        refine n_if2_ne c_22_53 (by omega) (by omega) ?_ ?_
                                        · intro h90
                                          exfalso; omega
                                        · intro h91
                                          refine n_aload_n c_22_56 rfl ?_
                                          refine n_getR c_22_57 sc_44.n rfl rfl rfl r_44_4 ?_
                                          refine n_iload_n c_22_60 rfl ?_
                                          refine n_iload_n c_22_61 rfl ?_
                                          refine n_iastoreV hS79 c_22_62 sc_45.n rfl (by omega) (w_45 (by omega) (by omega)) ?_
                                          intro M92 eM92 hS92
                                          have g92_0 : M92 44 0 = M79 44 0 := by rw [eM92]; exact nu_a (by omega)
                                          have g92_1 : M92 44 5 = M79 44 5 := by rw [eM92]; exact nu_a (by omega)
                                          have g92_2 : M92 44 2 = M79 44 2 := by rw [eM92]; exact nu_a (by omega)
                                          refine n_goto c_22_63 ?_
                                          refine n_iinc (L2 := [some (2, 44), some (2, 4), some (0, ((((((((27 - 1) + (-1)) + (-1)) + (-1)) + (-1)) + (-1)) + (-1)) + (-1))), some (0, z82), some (0, z84), some (0, z86)]) c_22_101 rfl rfl rfl ?_
                                          refine n_goto c_22_104 ?_
                                          refine n_iload_n c_22_17 rfl ?_
                                          refine n_if0_lt c_22_18 (by omega) ?_ ?_
                                          · intro h93
                                            exfalso; omega
                                          · intro h94
                                            refine n_aload_n c_22_21 rfl ?_
                                            refine n_getR c_22_22 sc_4.n rfl rfl rfl r_4_2 ?_
                                            refine n_iload_n c_22_25 rfl ?_
                                            refine n_ialoadV c_22_26 sc_5.n rfl rfl rfl (by omega) (t_5k (z := 2) hS92 (by omega) (by omega) (by omega)) ?_
                                            intro z95 ez95 f96
                                            refine n_istore_n (L2 := [some (2, 44), some (2, 4), some (0, ((((((((27 - 1) + (-1)) + (-1)) + (-1)) + (-1)) + (-1)) + (-1)) + (-1))), some (0, z95), some (0, z84), some (0, z86)]) c_22_27 rfl rfl ?_
                                            refine n_aload_n c_22_28 rfl ?_
                                            refine n_getR c_22_29 sc_4.n rfl rfl rfl r_4_3 ?_
                                            refine n_iload_n c_22_32 rfl ?_
                                            refine n_ialoadV c_22_33 sc_6.n rfl rfl rfl (by omega) (t_6k (z := 0) hS92 (by omega) (by omega) (by omega)) ?_
                                            intro z97 ez97 f98
                                            refine n_istore (L2 := [some (2, 44), some (2, 4), some (0, ((((((((27 - 1) + (-1)) + (-1)) + (-1)) + (-1)) + (-1)) + (-1)) + (-1))), some (0, z95), some (0, z97), some (0, z86)]) c_22_34 rfl rfl ?_
                                            refine n_aload_n c_22_36 rfl ?_
                                            refine n_getR c_22_37 sc_4.n rfl rfl rfl r_4_4 ?_
                                            refine n_iload_n c_22_40 rfl ?_
                                            refine n_ialoadV c_22_41 sc_7.n rfl rfl rfl (by omega) (t_7k (z := 1) hS92 (by omega) (by omega) (by omega)) ?_
                                            intro z99 ez99 f100
                                            refine n_istore (L2 := [some (2, 44), some (2, 4), some (0, ((((((((27 - 1) + (-1)) + (-1)) + (-1)) + (-1)) + (-1)) + (-1)) + (-1))), some (0, z95), some (0, z97), some (0, z99)]) c_22_42 rfl rfl ?_
                                            refine n_iload_n c_22_44 rfl ?_
                                            refine n_iload c_22_45 rfl ?_
                                            refine n_if2_eq c_22_47 (by omega) (by omega) ?_ ?_
                                            · intro h101
                                              exfalso; omega
                                            · intro h102
                                              refine n_iload_n c_22_50 rfl ?_
                                              refine n_iload c_22_51 rfl ?_
                                              refine n_if2_ne c_22_53 (by omega) (by omega) ?_ ?_
                                              · intro h103
                                                refine n_iload c_22_66 rfl ?_
                                                refine n_iload c_22_68 rfl ?_
                                                refine n_if2_ne c_22_70 (by omega) (by omega) ?_ ?_
                                                · intro h104
                                                  refine n_aload_n c_22_84 rfl ?_
                                                  refine n_getR c_22_85 sc_44.n rfl rfl rfl r_44_4 ?_
                                                  refine n_iload_n c_22_88 rfl ?_
                                                  refine n_aload_n c_22_89 rfl ?_
                                                  refine n_dup2 c_22_90 ?_
                                                  refine n_getV (bi := 2) c_22_91 sc_44.n rfl rfl rfl (t_44_2 hS92) ?_
                                                  intro z105 ez105 f106
                                                  obtain rfl : z105 = 4 := by omega
                                                  refine n_dup_x102 c_22_94 ?_
                                                  refine n_iconst c_22_95 ?_
                                                  refine n_iadd c_22_96 rfl ?_
                                                  refine n_putV (bi := 2) hS92 c_22_97 sc_44.n rfl rfl rfl rfl (w_44_2 (by omega)) ?_
                                                  intro M107 eM107 hS107
                                                  have g107_0 : M107 44 0 = M92 44 0 := by rw [eM107]; exact nu_i (by omega)
                                                  have g107_1 : M107 44 5 = M92 44 5 := by rw [eM107]; exact nu_i (by omega)
                                                  have g107_2 : M107 44 2 = (4 + 1) := by rw [eM107]; exact nu_s _ _ _ _
                                                  refine n_iastoreV hS107 c_22_100 sc_45.n rfl (by omega) (w_45 (by omega) (by omega)) ?_
                                                  intro M108 eM108 hS108
                                                  have g108_0 : M108 44 0 = M107 44 0 := by rw [eM108]; exact nu_a (by omega)
                                                  have g108_1 : M108 44 5 = M107 44 5 := by rw [eM108]; exact nu_a (by omega)
                                                  have g108_2 : M108 44 2 = M107 44 2 := by rw [eM108]; exact nu_a (by omega)
                                                  refine n_iinc (L2 := [some (2, 44), some (2, 4), some (0, (((((((((27 - 1) + (-1)) + (-1)) + (-1)) + (-1)) + (-1)) + (-1)) + (-1)) + (-1))), some (0, z95), some (0, z97), some (0, z99)]) c_22_101 rfl rfl rfl ?_
                                                  refine n_goto c_22_104 ?_
                                                  refine n_iload_n c_22_17 rfl ?_
                                                  refine n_if0_lt c_22_18 (by omega) ?_ ?_
                                                  · intro h109
                                                    exfalso; omega
                                                  · intro h110
                                                    refine n_aload_n c_22_21 rfl ?_
                                                    refine n_getR c_22_22 sc_4.n rfl rfl rfl r_4_2 ?_
                                                    refine n_iload_n c_22_25 rfl ?_
                                                    refine n_ialoadV c_22_26 sc_5.n rfl rfl rfl (by omega) (t_5k (z := 2) hS108 (by omega) (by omega) (by omega)) ?_
                                                    intro z111 ez111 f112
                                                    refine n_istore_n (L2 := [some (2, 44), some (2, 4), some (0, (((((((((27 - 1) + (-1)) + (-1)) + (-1)) + (-1)) + (-1)) + (-1)) + (-1)) + (-1))), some (0, z111), some (0, z97), some (0, z99)]) c_22_27 rfl rfl ?_
                                                    refine n_aload_n c_22_28 rfl ?_
                                                    refine n_getR c_22_29 sc_4.n rfl rfl rfl r_4_3 ?_
                                                    refine n_iload_n c_22_32 rfl ?_
                                                    refine n_ialoadV c_22_33 sc_6.n rfl rfl rfl (by omega) (t_6k (z := 0) hS108 (by omega) (by omega) (by omega)) ?_
                                                    intro z113 ez113 f114
                                                    refine n_istore (L2 := [some (2, 44), some (2, 4), some (0, (((((((((27 - 1) + (-1)) + (-1)) + (-1)) + (-1)) + (-1)) + (-1)) + (-1)) + (-1))), some (0, z111), some (0, z113), some (0, z99)]) c_22_34 rfl rfl ?_
                                                    refine n_aload_n c_22_36 rfl ?_
                                                    refine n_getR c_22_37 sc_4.n rfl rfl rfl r_4_4 ?_
                                                    refine n_iload_n c_22_40 rfl ?_
                                                    refine n_ialoadV c_22_41 sc_7.n rfl rfl rfl (by omega) (t_7k (z := 0) hS108 (by omega) (by omega) (by omega)) ?_
                                                    intro z115 ez115 f116
                                                    refine n_istore (L2 := [some (2, 44), some (2, 4), some (0, (((((((((27 - 1) + (-1)) + (-1)) + (-1)) + (-1)) + (-1)) + (-1)) + (-1)) + (-1))), some (0, z111), some (0, z113), some (0, z115)]) c_22_42 rfl rfl ?_
                                                    refine n_iload_n c_22_44 rfl ?_
                                                    refine n_iload c_22_45 rfl ?_
                                                    refine n_if2_eq c_22_47 (by omega) (by omega) ?_ ?_
                                                    · intro h117
                                                      exfalso; omega
                                                    · intro h118
                                                      refine n_iload_n c_22_50 rfl ?_
                                                      refine n_iload c_22_51 rfl ?_
                                                      refine n_if2_ne c_22_53 (by omega) (by omega) ?_ ?_
                                                      · intro h119
                                                        refine n_iload c_22_66 rfl ?_
                                                        refine n_iload c_22_68 rfl ?_
                                                        refine n_if2_ne c_22_70 (by omega) (by omega) ?_ ?_
                                                        · intro h120
                                                          exfalso; omega
                                                        · intro h121
                                                          refine n_aload_n c_22_73 rfl ?_
                                                          refine n_getR c_22_74 sc_44.n rfl rfl rfl r_44_4 ?_
                                                          refine n_iload_n c_22_77 rfl ?_
                                                          refine n_iload c_22_78 rfl ?_
                                                          refine n_iastoreV hS108 c_22_80 sc_45.n rfl (by omega) (w_45 (by omega) (by omega)) ?_
                                                          intro M122 eM122 hS122
                                                          have g122_0 : M122 44 0 = M108 44 0 := by rw [eM122]; exact nu_a (by omega)
                                                          have g122_1 : M122 44 5 = M108 44 5 := by rw [eM122]; exact nu_a (by omega)
                                                          have g122_2 : M122 44 2 = M108 44 2 := by rw [eM122]; exact nu_a (by omega)
                                                          refine n_goto c_22_81 ?_
                                                          refine n_iinc (L2 := [some (2, 44), some (2, 4), some (0, ((((((((((27 - 1) + (-1)) + (-1)) + (-1)) + (-1)) + (-1)) + (-1)) + (-1)) + (-1)) + (-1))), some (0, z111), some (0, z113), some (0, z115)]) c_22_101 rfl rfl rfl ?_
                                                          refine n_goto c_22_104 ?_
                                                          refine n_iload_n c_22_17 rfl ?_
                                                          refine n_if0_lt c_22_18 (by omega) ?_ ?_
                                                          · intro h123
                                                            exfalso; omega
                                                          · intro h124
                                                            refine n_aload_n c_22_21 rfl ?_
                                                            refine n_getR c_22_22 sc_4.n rfl rfl rfl r_4_2 ?_
                                                            refine n_iload_n c_22_25 rfl ?_
                                                            refine n_ialoadV c_22_26 sc_5.n rfl rfl rfl (by omega) (t_5k (z := 1) hS122 (by omega) (by omega) (by omega)) ?_
                                                            intro z125 ez125 f126
                                                            refine n_istore_n (L2 := [some (2, 44), some (2, 4), some (0, ((((((((((27 - 1) + (-1)) + (-1)) + (-1)) + (-1)) + (-1)) + (-1)) + (-1)) + (-1)) + (-1))), some (0, z125), some (0, z113), some (0, z115)]) c_22_27 rfl rfl ?_
                                                            refine n_aload_n c_22_28 rfl ?_
                                                            refine n_getR c_22_29 sc_4.n rfl rfl rfl r_4_3 ?_
                                                            refine n_iload_n c_22_32 rfl ?_
                                                            refine n_ialoadV c_22_33 sc_6.n rfl rfl rfl (by omega) (t_6k (z := 2) hS122 (by omega) (by omega) (by omega)) ?_
                                                            intro z127 ez127 f128
                                                            refine n_istore (L2 := [some (2, 44), some (2, 4), some (0, ((((((((((27 - 1) + (-1)) + (-1)) + (-1)) + (-1)) + (-1)) + (-1)) + (-1)) + (-1)) + (-1))), some (0, z125), some (0, z127), some (0, z115)]) c_22_34 rfl rfl ?_
                                                            refine n_aload_n c_22_36 rfl ?_
                                                            refine n_getR c_22_37 sc_4.n rfl rfl rfl r_4_4 ?_
                                                            refine n_iload_n c_22_40 rfl ?_
                                                            refine n_ialoadV c_22_41 sc_7.n rfl rfl rfl (by omega) (t_7k (z := 2) hS122 (by omega) (by omega) (by omega)) ?_
                                                            intro z129 ez129 f130
                                                            refine n_istore (L2 := [some (2, 44), some (2, 4), some (0, ((((((((((27 - 1) + (-1)) + (-1)) + (-1)) + (-1)) + (-1)) + (-1)) + (-1)) + (-1)) + (-1))), some (0, z125), some (0, z127), some (0, z129)]) c_22_42 rfl rfl ?_
                                                            refine n_iload_n c_22_44 rfl ?_
                                                            refine n_iload c_22_45 rfl ?_
                                                            refine n_if2_eq c_22_47 (by omega) (by omega) ?_ ?_
                                                            · intro h131
                                                              exfalso; omega
                                                            · intro h132
                                                              refine n_iload_n c_22_50 rfl ?_
                                                              refine n_iload c_22_51 rfl ?_
                                                              refine n_if2_ne c_22_53 (by omega) (by omega) ?_ ?_
                                                              · intro h133
                                                                refine n_iload c_22_66 rfl ?_
                                                                refine n_iload c_22_68 rfl ?_
                                                                refine n_if2_ne c_22_70 (by omega) (by omega) ?_ ?_
                                                                · intro h134
                                                                  exfalso; omega
                                                                · intro h135
                                                                  refine n_aload_n c_22_73 rfl ?_
                                                                  refine n_getR c_22_74 sc_44.n rfl rfl rfl r_44_4 ?_
                                                                  refine n_iload_n c_22_77 rfl ?_
                                                                  refine n_iload c_22_78 rfl ?_
                                                                  refine n_iastoreV hS122 c_22_80 sc_45.n rfl (by omega) (w_45 (by omega) (by omega)) ?_
                                                                  intro M136 eM136 hS136
                                                                  have g136_0 : M136 44 0 = M122 44 0 := by rw [eM136]; exact nu_a (by omega)
                                                                  have g136_1 : M136 44 5 = M122 44 5 := by rw [eM136]; exact nu_a (by omega)
                                                                  have g136_2 : M136 44 2 = M122 44 2 := by rw [eM136]; exact nu_a (by omega)
                                                                  refine n_goto c_22_81 ?_
                                                                  refine n_iinc (L2 := [some (2, 44), some (2, 4), some (0, (((((((((((27 - 1) + (-1)) + (-1)) + (-1)) + (-1)) + (-1)) + (-1)) + (-1)) + (-1)) + (-1)) + (-1))), some (0, z125), some (0, z127), some (0, z129)]) c_22_101 rfl rfl rfl ?_
                                                                  refine n_goto c_22_104 ?_
                                                                  refine n_iload_n c_22_17 rfl ?_
                                                                  refine n_if0_lt c_22_18 (by omega) ?_ ?_
                                                                  · intro h137
                                                                    exfalso; omega
                                                                  · intro h138
                                                                    refine n_aload_n c_22_21 rfl ?_
                                                                    refine n_getR c_22_22 sc_4.n rfl rfl rfl r_4_2 ?_
                                                                    refine n_iload_n c_22_25 rfl ?_
                                                                    refine n_ialoadV c_22_26 sc_5.n rfl rfl rfl (by omega) (t_5k (z := 1) hS136 (by omega) (by omega) (by omega)) ?_
                                                                    intro z139 ez139 f140
                                                                    refine n_istore_n (L2 := [some (2, 44), some (2, 4), some (0, (((((((((((27 - 1) + (-1)) + (-1)) + (-1)) + (-1)) + (-1)) + (-1)) + (-1)) + (-1)) + (-1)) + (-1))), some (0, z139), some (0, z127), some (0, z129)]) c_22_27 rfl rfl ?_
                                                                    refine n_aload_n c_22_28 rfl ?_
                                                                    refine n_getR c_22_29 sc_4.n rfl rfl rfl r_4_3 ?_
                                                                    refine n_iload_n c_22_32 rfl ?_
                                                                    refine n_ialoadV c_22_33 sc_6.n rfl rfl rfl (by omega) (t_6k (z := 2) hS136 (by omega) (by omega) (by omega)) ?_
                                                                    intro z141 ez141 f142
                                                                    refine n_istore (L2 := [some (2, 44), some (2, 4), some (0, (((((((((((27 - 1) + (-1)) + (-1)) + (-1)) + (-1)) + (-1)) + (-1)) + (-1)) + (-1)) + (-1)) + (-1))), some (0, z139), some (0, z141), some (0, z129)]) c_22_34 rfl rfl ?_
                                                                    refine n_aload_n c_22_36 rfl ?_
                                                                    refine n_getR c_22_37 sc_4.n rfl rfl rfl r_4_4 ?_
                                                                    refine n_iload_n c_22_40 rfl ?_
                                                                    refine n_ialoadV c_22_41 sc_7.n rfl rfl rfl (by omega) (t_7k (z := 1) hS136 (by omega) (by omega) (by omega)) ?_
                                                                    intro z143 ez143 f144
                                                                    refine n_istore (L2 := [some (2, 44), some (2, 4), some (0, (((((((((((27 - 1) + (-1)) + (-1)) + (-1)) + (-1)) + (-1)) + (-1)) + (-1)) + (-1)) + (-1)) + (-1))), some (0, z139), some (0, z141), some (0, z143)]) c_22_42 rfl rfl ?_
                                                                    refine n_iload_n c_22_44 rfl ?_
                                                                    refine n_iload c_22_45 rfl ?_
                                                                    refine n_if2_eq c_22_47 (by omega) (by omega) ?_ ?_
                                                                    · intro h145
                                                                      exfalso; omega
                                                                    · intro h146
                                                                      refine n_iload_n c_22_50 rfl ?_
                                                                      refine n_iload c_22_51 rfl ?_
                                                                      refine n_if2_ne c_22_53 (by omega) (by omega) ?_ ?_
                                                                      · intro h147
                                                                        exfalso; omega
                                                                      · intro h148
                                                                        refine n_aload_n c_22_56 rfl ?_
                                                                        refine n_getR c_22_57 sc_44.n rfl rfl rfl r_44_4 ?_
                                                                        refine n_iload_n c_22_60 rfl ?_
                                                                        refine n_iload_n c_22_61 rfl ?_
                                                                        refine n_iastoreV hS136 c_22_62 sc_45.n rfl (by omega) (w_45 (by omega) (by omega)) ?_
                                                                        intro M149 eM149 hS149
                                                                        have g149_0 : M149 44 0 = M136 44 0 := by rw [eM149]; exact nu_a (by omega)
                                                                        have g149_1 : M149 44 5 = M136 44 5 := by rw [eM149]; exact nu_a (by omega)
                                                                        have g149_2 : M149 44 2 = M136 44 2 := by rw [eM149]; exact nu_a (by omega)
                                                                        refine n_goto c_22_63 ?_
                                                                        refine n_iinc (L2 := [some (2, 44), some (2, 4), some (0, ((((((((((((27 - 1) + (-1)) + (-1)) + (-1)) + (-1)) + (-1)) + (-1)) + (-1)) + (-1)) + (-1)) + (-1)) + (-1))), some (0, z139), some (0, z141), some (0, z143)]) c_22_101 rfl rfl rfl ?_
                                                                        refine n_goto c_22_104 ?_
                                                                        refine n_iload_n c_22_17 rfl ?_
                                                                        refine n_if0_lt c_22_18 (by omega) ?_ ?_
                                                                        · intro h150
                                                                          exfalso; omega
                                                                        · intro h151
                                                                          refine n_aload_n c_22_21 rfl ?_
                                                                          refine n_getR c_22_22 sc_4.n rfl rfl rfl r_4_2 ?_
                                                                          refine n_iload_n c_22_25 rfl ?_
                                                                          refine n_ialoadV c_22_26 sc_5.n rfl rfl rfl (by omega) (t_5k (z := 1) hS149 (by omega) (by omega) (by omega)) ?_
                                                                          intro z152 ez152 f153
                                                                          refine n_istore_n (L2 := [some (2, 44), some (2, 4), some (0, ((((((((((((27 - 1) + (-1)) + (-1)) + (-1)) + (-1)) + (-1)) + (-1)) + (-1)) + (-1)) + (-1)) + (-1)) + (-1))), some (0, z152), some (0, z141), some (0, z143)]) c_22_27 rfl rfl ?_
                                                                          refine n_aload_n c_22_28 rfl ?_
                                                                          refine n_getR c_22_29 sc_4.n rfl rfl rfl r_4_3 ?_
                                                                          refine n_iload_n c_22_32 rfl ?_
                                                                          refine n_ialoadV c_22_33 sc_6.n rfl rfl rfl (by omega) (t_6k (z := 2) hS149 (by omega) (by omega) (by omega)) ?_
                                                                          intro z154 ez154 f155
                                                                          refine n_istore (L2 := [some (2, 44), some (2, 4), some (0, ((((((((((((27 - 1) + (-1)) + (-1)) + (-1)) + (-1)) + (-1)) + (-1)) + (-1)) + (-1)) + (-1)) + (-1)) + (-1))), some (0, z152), some (0, z154), some (0, z143)]) c_22_34 rfl rfl ?_
                                                                          refine n_aload_n c_22_36 rfl ?_
                                                                          refine n_getR c_22_37 sc_4.n rfl rfl rfl r_4_4 ?_
                                                                          refine n_iload_n c_22_40 rfl ?_
                                                                          refine n_ialoadV c_22_41 sc_7.n rfl rfl rfl (by omega) (t_7k (z := 0) hS149 (by omega) (by omega) (by omega)) ?_
                                                                          intro z156 ez156 f157
                                                                          refine n_istore (L2 := [some (2, 44), some (2, 4), some (0, ((((((((((((27 - 1) + (-1)) + (-1)) + (-1)) + (-1)) + (-1)) + (-1)) + (-1)) + (-1)) + (-1)) + (-1)) + (-1))), some (0, z152), some (0, z154), some (0, z156)]) c_22_42 rfl rfl ?_
                                                                          refine n_iload_n c_22_44 rfl ?_
                                                                          refine n_iload c_22_45 rfl ?_
                                                                          refine n_if2_eq c_22_47 (by omega) (by omega) ?_ ?_
                                                                          · intro h158
                                                                            exfalso; omega
                                                                          · intro h159
                                                                            refine n_iload_n c_22_50 rfl ?_
                                                                            refine n_iload c_22_51 rfl ?_
                                                                            refine n_if2_ne c_22_53 (by omega) (by omega) ?_ ?_
                                                                            · intro h160
                                                                              refine n_iload c_22_66 rfl ?_
                                                                              refine n_iload c_22_68 rfl ?_
                                                                              refine n_if2_ne c_22_70 (by omega) (by omega) ?_ ?_
                                                                              · intro h161
                                                                                refine n_aload_n c_22_84 rfl ?_
                                                                                refine n_getR c_22_85 sc_44.n rfl rfl rfl r_44_4 ?_
                                                                                refine n_iload_n c_22_88 rfl ?_
                                                                                refine n_aload_n c_22_89 rfl ?_
                                                                                refine n_dup2 c_22_90 ?_
                                                                                refine n_getV (bi := 2) c_22_91 sc_44.n rfl rfl rfl (t_44_2 hS149) ?_
                                                                                intro z162 ez162 f163
                                                                                obtain rfl : z162 = 5 := by omega
                                                                                refine n_dup_x102 c_22_94 ?_
                                                                                refine n_iconst c_22_95 ?_
                                                                                refine n_iadd c_22_96 rfl ?_
                                                                                refine n_putV (bi := 2) hS149 c_22_97 sc_44.n rfl rfl rfl rfl (w_44_2 (by omega)) ?_
                                                                                intro M164 eM164 hS164
                                                                                have g164_0 : M164 44 0 = M149 44 0 := by rw [eM164]; exact nu_i (by omega)
                                                                                have g164_1 : M164 44 5 = M149 44 5 := by rw [eM164]; exact nu_i (by omega)
                                                                                have g164_2 : M164 44 2 = (5 + 1) := by rw [eM164]; exact nu_s _ _ _ _
                                                                                refine n_iastoreV hS164 c_22_100 sc_45.n rfl (by omega) (w_45 (by omega) (by omega)) ?_
                                                                                intro M165 eM165 hS165
                                                                                have g165_0 : M165 44 0 = M164 44 0 := by rw [eM165]; exact nu_a (by omega)
                                                                                have g165_1 : M165 44 5 = M164 44 5 := by rw [eM165]; exact nu_a (by omega)
                                                                                have g165_2 : M165 44 2 = M164 44 2 := by rw [eM165]; exact nu_a (by omega)
                                                                                refine n_iinc (L2 := [some (2, 44), some (2, 4), some (0, (((((((((((((27 - 1) + (-1)) + (-1)) + (-1)) + (-1)) + (-1)) + (-1)) + (-1)) + (-1)) + (-1)) + (-1)) + (-1)) + (-1))), some (0, z152), some (0, z154), some (0, z156)]) c_22_101 rfl rfl rfl ?_
                                                                                refine n_goto c_22_104 ?_
                                                                                refine n_iload_n c_22_17 rfl ?_
                                                                                refine n_if0_lt c_22_18 (by omega) ?_ ?_
                                                                                · intro h166
                                                                                  exfalso; omega
                                                                                · intro h167
                                                                                  refine n_aload_n c_22_21 rfl ?_
                                                                                  refine n_getR c_22_22 sc_4.n rfl rfl rfl r_4_2 ?_
                                                                                  refine n_iload_n c_22_25 rfl ?_
                                                                                  refine n_ialoadV c_22_26 sc_5.n rfl rfl rfl (by omega) (t_5k (z := 1) hS165 (by omega) (by omega) (by omega)) ?_
                                                                                  intro z168 ez168 f169
                                                                                  refine n_istore_n (L2 := [some (2, 44), some (2, 4), some (0, (((((((((((((27 - 1) + (-1)) + (-1)) + (-1)) + (-1)) + (-1)) + (-1)) + (-1)) + (-1)) + (-1)) + (-1)) + (-1)) + (-1))), some (0, z168), some (0, z154), some (0, z156)]) c_22_27 rfl rfl ?_
                                                                                  refine n_aload_n c_22_28 rfl ?_
                                                                                  refine n_getR c_22_29 sc_4.n rfl rfl rfl r_4_3 ?_
                                                                                  refine n_iload_n c_22_32 rfl ?_
                                                                                  refine n_ialoadV c_22_33 sc_6.n rfl rfl rfl (by omega) (t_6k (z := 1) hS165 (by omega) (by omega) (by omega)) ?_
                                                                                  intro z170 ez170 f171
                                                                                  refine n_istore (L2 := [some (2, 44), some (2, 4), some (0, (((((((((((((27 - 1) + (-1)) + (-1)) + (-1)) + (-1)) + (-1)) + (-1)) + (-1)) + (-1)) + (-1)) + (-1)) + (-1)) + (-1))), some (0, z168), some (0, z170), some (0, z156)]) c_22_34 rfl rfl ?_
                                                                                  refine n_aload_n c_22_36 rfl ?_
                                                                                  refine n_getR c_22_37 sc_4.n rfl rfl rfl r_4_4 ?_
                                                                                  refine n_iload_n c_22_40 rfl ?_
                                                                                  refine n_ialoadV c_22_41 sc_7.n rfl rfl rfl (by omega) (t_7k (z := 2) hS165 (by omega) (by omega) (by omega)) ?_
                                                                                  intro z172 ez172 f173
                                                                                  refine n_istore (L2 := [some (2, 44), some (2, 4), some (0, (((((((((((((27 - 1) + (-1)) + (-1)) + (-1)) + (-1)) + (-1)) + (-1)) + (-1)) + (-1)) + (-1)) + (-1)) + (-1)) + (-1))), some (0, z168), some (0, z170), some (0, z172)]) c_22_42 rfl rfl ?_
                                                                                  refine n_iload_n c_22_44 rfl ?_
                                                                                  refine n_iload c_22_45 rfl ?_
                                                                                  refine n_if2_eq c_22_47 (by omega) (by omega) ?_ ?_
                                                                                  · intro h174
                                                                                    refine n_aload_n c_22_56 rfl ?_
                                                                                    refine n_getR c_22_57 sc_44.n rfl rfl rfl r_44_4 ?_
                                                                                    refine n_iload_n c_22_60 rfl ?_
                                                                                    refine n_iload_n c_22_61 rfl ?_
                                                                                    refine n_iastoreV hS165 c_22_62 sc_45.n rfl (by omega) (w_45 (by omega) (by omega)) ?_
                                                                                    intro M175 eM175 hS175
                                                                                    have g175_0 : M175 44 0 = M165 44 0 := by rw [eM175]; exact nu_a (by omega)
                                                                                    have g175_1 : M175 44 5 = M165 44 5 := by rw [eM175]; exact nu_a (by omega)
                                                                                    have g175_2 : M175 44 2 = M165 44 2 := by rw [eM175]; exact nu_a (by omega)
                                                                                    refine n_goto c_22_63 ?_
                                                                                    refine n_iinc (L2 := [some (2, 44), some (2, 4), some (0, ((((((((((((((27 - 1) + (-1)) + (-1)) + (-1)) + (-1)) + (-1)) + (-1)) + (-1)) + (-1)) + (-1)) + (-1)) + (-1)) + (-1)) + (-1))), some (0, z168), some (0, z170), some (0, z172)]) c_22_101 rfl rfl rfl ?_
                                                                                    refine n_goto c_22_104 ?_
                                                                                    refine n_iload_n c_22_17 rfl ?_
                                                                                    refine n_if0_lt c_22_18 (by omega) ?_ ?_
                                                                                    · intro h176
                                                                                      exfalso; omega
                                                                                    · intro h177
                                                                                      refine n_aload_n c_22_21 rfl ?_
                                                                                      refine n_getR c_22_22 sc_4.n rfl rfl rfl r_4_2 ?_
                                                                                      refine n_iload_n c_22_25 rfl ?_
                                                                                      refine n_ialoadV c_22_26 sc_5.n rfl rfl rfl (by omega) (t_5k (z := 1) hS175 (by omega) (by omega) (by omega)) ?_
                                                                                      intro z178 ez178 f179
                                                                                      refine n_istore_n (L2 := [some (2, 44), some (2, 4), some (0, ((((((((((((((27 - 1) + (-1)) + (-1)) + (-1)) + (-1)) + (-1)) + (-1)) + (-1)) + (-1)) + (-1)) + (-1)) + (-1)) + (-1)) + (-1))), some (0, z178), some (0, z170), some (0, z172)]) c_22_27 rfl rfl ?_
                                                                                      refine n_aload_n c_22_28 rfl ?_
                                                                                      refine n_getR c_22_29 sc_4.n rfl rfl rfl r_4_3 ?_
                                                                                      refine n_iload_n c_22_32 rfl ?_
                                                                                      refine n_ialoadV c_22_33 sc_6.n rfl rfl rfl (by omega) (t_6k (z := 1) hS175 (by omega) (by omega) (by omega)) ?_
                                                                                      intro z180 ez180 f181
                                                                                      refine n_istore (L2 := [some (2, 44), some (2, 4), some (0, ((((((((((((((27 - 1) + (-1)) + (-1)) + (-1)) + (-1)) + (-1)) + (-1)) + (-1)) + (-1)) + (-1)) + (-1)) + (-1)) + (-1)) + (-1))), some (0, z178), some (0, z180), some (0, z172)]) c_22_34 rfl rfl ?_
                                                                                      refine n_aload_n c_22_36 rfl ?_
                                                                                      refine n_getR c_22_37 sc_4.n rfl rfl rfl r_4_4 ?_
                                                                                      refine n_iload_n c_22_40 rfl ?_
                                                                                      refine n_ialoadV c_22_41 sc_7.n rfl rfl rfl (by omega) (t_7k (z := 1) hS175 (by omega) (by omega) (by omega)) ?_
                                                                                      intro z182 ez182 f183
                                                                                      refine n_istore (L2 := [some (2, 44), some (2, 4), some (0, ((((((((((((((27 - 1) + (-1)) + (-1)) + (-1)) + (-1)) + (-1)) + (-1)) + (-1)) + (-1)) + (-1)) + (-1)) + (-1)) + (-1)) + (-1))), some (0, z178), some (0, z180), some (0, z182)]) c_22_42 rfl rfl ?_
                                                                                      refine n_iload_n c_22_44 rfl ?_
                                                                                      refine n_iload c_22_45 rfl ?_
                                                                                      refine n_if2_eq c_22_47 (by omega) (by omega) ?_ ?_
                                                                                      · intro h184
                                                                                        refine n_aload_n c_22_56 rfl ?_
                                                                                        refine n_getR c_22_57 sc_44.n rfl rfl rfl r_44_4 ?_
                                                                                        refine n_iload_n c_22_60 rfl ?_
                                                                                        refine n_iload_n c_22_61 rfl ?_
                                                                                        refine n_iastoreV hS175 c_22_62 sc_45.n rfl (by omega) (w_45 (by omega) (by omega)) ?_
                                                                                        intro M185 eM185 hS185
                                                                                        have g185_0 : M185 44 0 = M175 44 0 := by rw [eM185]; exact nu_a (by omega)
                                                                                        have g185_1 : M185 44 5 = M175 44 5 := by rw [eM185]; exact nu_a (by omega)
                                                                                        have g185_2 : M185 44 2 = M175 44 2 := by rw [eM185]; exact nu_a (by omega)
                                                                                        refine n_goto c_22_63 ?_
                                                                                        refine n_iinc (L2 := [some (2, 44), some (2, 4), some (0, (((((((((((((((27 - 1) + (-1)) + (-1)) + (-1)) + (-1)) + (-1)) + (-1)) + (-1)) + (-1)) + (-1)) + (-1)) + (-1)) + (-1)) + (-1)) + (-1))), some (0, z178), some (0, z180), some (0, z182)]) c_22_101 rfl rfl rfl ?_
                                                                                        refine n_goto c_22_104 ?_
                                                                                        refine n_iload_n c_22_17 rfl ?_
                                                                                        refine n_if0_lt c_22_18 (by omega) ?_ ?_
                                                                                        · intro h186
                                                                                          exfalso; omega
                                                                                        · intro h187
                                                                                          refine n_aload_n c_22_21 rfl ?_
                                                                                          refine n_getR c_22_22 sc_4.n rfl rfl rfl r_4_2 ?_
                                                                                          refine n_iload_n c_22_25 rfl ?_
                                                                                          refine n_ialoadV c_22_26 sc_5.n rfl rfl rfl (by omega) (t_5k (z := 1) hS185 (by omega) (by omega) (by omega)) ?_
                                                                                          intro z188 ez188 f189
                                                                                          refine n_istore_n (L2 := [some (2, 44), some (2, 4), some (0, (((((((((((((((27 - 1) + (-1)) + (-1)) + (-1)) + (-1)) + (-1)) + (-1)) + (-1)) + (-1)) + (-1)) + (-1)) + (-1)) + (-1)) + (-1)) + (-1))), some (0, z188), some (0, z180), some (0, z182)]) c_22_27 rfl rfl ?_
                                                                                          refine n_aload_n c_22_28 rfl ?_
                                                                                          refine n_getR c_22_29 sc_4.n rfl rfl rfl r_4_3 ?_
                                                                                          refine n_iload_n c_22_32 rfl ?_
                                                                                          refine n_ialoadV c_22_33 sc_6.n rfl rfl rfl (by omega) (t_6k (z := 1) hS185 (by omega) (by omega) (by omega)) ?_
                                                                                          intro z190 ez190 f191
                                                                                          refine n_istore (L2 := [some (2, 44), some (2, 4), some (0, (((((((((((((((27 - 1) + (-1)) + (-1)) + (-1)) + (-1)) + (-1)) + (-1)) + (-1)) + (-1)) + (-1)) + (-1)) + (-1)) + (-1)) + (-1)) + (-1))), some (0, z188), some (0, z190), some (0, z182)]) c_22_34 rfl rfl ?_
                                                                                          refine n_aload_n c_22_36 rfl ?_
                                                                                          refine n_getR c_22_37 sc_4.n rfl rfl rfl r_4_4 ?_
                                                                                          refine n_iload_n c_22_40 rfl ?_
                                                                                          refine n_ialoadV c_22_41 sc_7.n rfl rfl rfl (by omega) (t_7k (z := 0) hS185 (by omega) (by omega) (by omega)) ?_
                                                                                          intro z192 ez192 f193
                                                                                          refine n_istore (L2 := [some (2, 44), some (2, 4), some (0, (((((((((((((((27 - 1) + (-1)) + (-1)) + (-1)) + (-1)) + (-1)) + (-1)) + (-1)) + (-1)) + (-1)) + (-1)) + (-1)) + (-1)) + (-1)) + (-1))), some (0, z188), some (0, z190), some (0, z192)]) c_22_42 rfl rfl ?_
                                                                                          refine n_iload_n c_22_44 rfl ?_
                                                                                          refine n_iload c_22_45 rfl ?_
                                                                                          refine n_if2_eq c_22_47 (by omega) (by omega) ?_ ?_
                                                                                          · intro h194
                                                                                            refine n_aload_n c_22_56 rfl ?_
                                                                                            refine n_getR c_22_57 sc_44.n rfl rfl rfl r_44_4 ?_
                                                                                            refine n_iload_n c_22_60 rfl ?_
                                                                                            refine n_iload_n c_22_61 rfl ?_
                                                                                            refine n_iastoreV hS185 c_22_62 sc_45.n rfl (by omega) (w_45 (by omega) (by omega)) ?_
                                                                                            intro M195 eM195 hS195
                                                                                            have g195_0 : M195 44 0 = M185 44 0 := by rw [eM195]; exact nu_a (by omega)
                                                                                            have g195_1 : M195 44 5 = M185 44 5 := by rw [eM195]; exact nu_a (by omega)
                                                                                            have g195_2 : M195 44 2 = M185 44 2 := by rw [eM195]; exact nu_a (by omega)
                                                                                            refine n_goto c_22_63 ?_
                                                                                            refine n_iinc (L2 := [some (2, 44), some (2, 4), some (0, ((((((((((((((((27 - 1) + (-1)) + (-1)) + (-1)) + (-1)) + (-1)) + (-1)) + (-1)) + (-1)) + (-1)) + (-1)) + (-1)) + (-1)) + (-1)) + (-1)) + (-1))), some (0, z188), some (0, z190), some (0, z192)]) c_22_101 rfl rfl rfl ?_
                                                                                            refine n_goto c_22_104 ?_
                                                                                            refine n_iload_n c_22_17 rfl ?_
                                                                                            refine n_if0_lt c_22_18 (by omega) ?_ ?_
                                                                                            · intro h196
                                                                                              exfalso; omega
                                                                                            · intro h197
                                                                                              refine n_aload_n c_22_21 rfl ?_
                                                                                              refine n_getR c_22_22 sc_4.n rfl rfl rfl r_4_2 ?_
                                                                                              refine n_iload_n c_22_25 rfl ?_
                                                                                              refine n_ialoadV c_22_26 sc_5.n rfl rfl rfl (by omega) (t_5k (z := 1) hS195 (by omega) (by omega) (by omega)) ?_
                                                                                              intro z198 ez198 f199
                                                                                              refine n_istore_n (L2 := [some (2, 44), some (2, 4), some (0, ((((((((((((((((27 - 1) + (-1)) + (-1)) + (-1)) + (-1)) + (-1)) + (-1)) + (-1)) + (-1)) + (-1)) + (-1)) + (-1)) + (-1)) + (-1)) + (-1)) + (-1))), some (0, z198), some (0, z190), some (0, z192)]) c_22_27 rfl rfl ?_
                                                                                              refine n_aload_n c_22_28 rfl ?_
                                                                                              refine n_getR c_22_29 sc_4.n rfl rfl rfl r_4_3 ?_
                                                                                              refine n_iload_n c_22_32 rfl ?_
                                                                                              refine n_ialoadV c_22_33 sc_6.n rfl rfl rfl (by omega) (t_6k (z := 0) hS195 (by omega) (by omega) (by omega)) ?_
                                                                                              intro z200 ez200 f201
                                                                                              refine n_istore (L2 := [some (2, 44), some (2, 4), some (0, ((((((((((((((((27 - 1) + (-1)) + (-1)) + (-1)) + (-1)) + (-1)) + (-1)) + (-1)) + (-1)) + (-1)) + (-1)) + (-1)) + (-1)) + (-1)) + (-1)) + (-1))), some (0, z198), some (0, z200), some (0, z192)]) c_22_34 rfl rfl ?_
                                                                                              refine n_aload_n c_22_36 rfl ?_
                                                                                              refine n_getR c_22_37 sc_4.n rfl rfl rfl r_4_4 ?_
                                                                                              refine n_iload_n c_22_40 rfl ?_
                                                                                              refine n_ialoadV c_22_41 sc_7.n rfl rfl rfl (by omega) (t_7k (z := 2) hS195 (by omega) (by omega) (by omega)) ?_
                                                                                              intro z202 ez202 f203
                                                                                              refine n_istore (L2 := [some (2, 44), some (2, 4), some (0, ((((((((((((((((27 - 1) + (-1)) + (-1)) + (-1)) + (-1)) + (-1)) + (-1)) + (-1)) + (-1)) + (-1)) + (-1)) + (-1)) + (-1)) + (-1)) + (-1)) + (-1))), some (0, z198), some (0, z200), some (0, z202)]) c_22_42 rfl rfl ?_
                                                                                              refine n_iload_n c_22_44 rfl ?_
                                                                                              refine n_iload c_22_45 rfl ?_
                                                                                              refine n_if2_eq c_22_47 (by omega) (by omega) ?_ ?_
                                                                                              · intro h204
                                                                                                exfalso; omega
                                                                                              · intro h205
                                                                                                refine n_iload_n c_22_50 rfl ?_
                                                                                                refine n_iload c_22_51 rfl ?_
                                                                                                refine n_if2_ne c_22_53 (by omega) (by omega) ?_ ?_
                                                                                                · intro h206
                                                                                                  refine n_iload c_22_66 rfl ?_
                                                                                                  refine n_iload c_22_68 rfl ?_
                                                                                                  refine n_if2_ne c_22_70 (by omega) (by omega) ?_ ?_
                                                                                                  · intro h207
                                                                                                    refine n_aload_n c_22_84 rfl ?_
                                                                                                    refine n_getR c_22_85 sc_44.n rfl rfl rfl r_44_4 ?_
                                                                                                    refine n_iload_n c_22_88 rfl ?_
                                                                                                    refine n_aload_n c_22_89 rfl ?_
                                                                                                    refine n_dup2 c_22_90 ?_
                                                                                                    refine n_getV (bi := 2) c_22_91 sc_44.n rfl rfl rfl (t_44_2 hS195) ?_
                                                                                                    intro z208 ez208 f209
                                                                                                    obtain rfl : z208 = 6 := by omega
                                                                                                    refine n_dup_x102 c_22_94 ?_
                                                                                                    refine n_iconst c_22_95 ?_
                                                                                                    refine n_iadd c_22_96 rfl ?_
                                                                                                    refine n_putV (bi := 2) hS195 c_22_97 sc_44.n rfl rfl rfl rfl (w_44_2 (by omega)) ?_
                                                                                                    intro M210 eM210 hS210
                                                                                                    have g210_0 : M210 44 0 = M195 44 0 := by rw [eM210]; exact nu_i (by omega)
                                                                                                    have g210_1 : M210 44 5 = M195 44 5 := by rw [eM210]; exact nu_i (by omega)
                                                                                                    have g210_2 : M210 44 2 = (6 + 1) := by rw [eM210]; exact nu_s _ _ _ _
                                                                                                    refine n_iastoreV hS210 c_22_100 sc_45.n rfl (by omega) (w_45 (by omega) (by omega)) ?_
                                                                                                    intro M211 eM211 hS211
                                                                                                    have g211_0 : M211 44 0 = M210 44 0 := by rw [eM211]; exact nu_a (by omega)
                                                                                                    have g211_1 : M211 44 5 = M210 44 5 := by rw [eM211]; exact nu_a (by omega)
                                                                                                    have g211_2 : M211 44 2 = M210 44 2 := by rw [eM211]; exact nu_a (by omega)
                                                                                                    refine n_iinc (L2 := [some (2, 44), some (2, 4), some (0, (((((((((((((((((27 - 1) + (-1)) + (-1)) + (-1)) + (-1)) + (-1)) + (-1)) + (-1)) + (-1)) + (-1)) + (-1)) + (-1)) + (-1)) + (-1)) + (-1)) + (-1)) + (-1))), some (0, z198), some (0, z200), some (0, z202)]) c_22_101 rfl rfl rfl ?_
                                                                                                    refine n_goto c_22_104 ?_
                                                                                                    refine n_iload_n c_22_17 rfl ?_
                                                                                                    refine n_if0_lt c_22_18 (by omega) ?_ ?_
                                                                                                    · intro h212
                                                                                                      exfalso; omega
                                                                                                    · intro h213
                                                                                                      refine n_aload_n c_22_21 rfl ?_
                                                                                                      refine n_getR c_22_22 sc_4.n rfl rfl rfl r_4_2 ?_
                                                                                                      refine n_iload_n c_22_25 rfl ?_
                                                                                                      refine n_ialoadV c_22_26 sc_5.n rfl rfl rfl (by omega) (t_5k (z := 1) hS211 (by omega) (by omega) (by omega)) ?_
                                                                                                      intro z214 ez214 f215
                                                                                                      refine n_istore_n (L2 := [some (2, 44), some (2, 4), some (0, (((((((((((((((((27 - 1) + (-1)) + (-1)) + (-1)) + (-1)) + (-1)) + (-1)) + (-1)) + (-1)) + (-1)) + (-1)) + (-1)) + (-1)) + (-1)) + (-1)) + (-1)) + (-1))), some (0, z214), some (0, z200), some (0, z202)]) c_22_27 rfl rfl ?_
                                                                                                      refine n_aload_n c_22_28 rfl ?_
                                                                                                      refine n_getR c_22_29 sc_4.n rfl rfl rfl r_4_3 ?_
                                                                                                      refine n_iload_n c_22_32 rfl ?_
                                                                                                      refine n_ialoadV c_22_33 sc_6.n rfl rfl rfl (by omega) (t_6k (z := 0) hS211 (by omega) (by omega) (by omega)) ?_
                                                                                                      intro z216 ez216 f217
                                                                                                      refine n_istore (L2 := [some (2, 44), some (2, 4), some (0, (((((((((((((((((27 - 1) + (-1)) + (-1)) + (-1)) + (-1)) + (-1)) + (-1)) + (-1)) + (-1)) + (-1)) + (-1)) + (-1)) + (-1)) + (-1)) + (-1)) + (-1)) + (-1))), some (0, z214), some (0, z216), some (0, z202)]) c_22_34 rfl rfl ?_
                                                                                                      refine n_aload_n c_22_36 rfl ?_
                                                                                                      refine n_getR c_22_37 sc_4.n rfl rfl rfl r_4_4 ?_
                                                                                                      refine n_iload_n c_22_40 rfl ?_
                                                                                                      refine n_ialoadV c_22_41 sc_7.n rfl rfl rfl (by omega) (t_7k (z := 1) hS211 (by omega) (by omega) (by omega)) ?_
                                                                                                      intro z218 ez218 f219
                                                                                                      refine n_istore (L2 := [some (2, 44), some (2, 4), some (0, (((((((((((((((((27 - 1) + (-1)) + (-1)) + (-1)) + (-1)) + (-1)) + (-1)) + (-1)) + (-1)) + (-1)) + (-1)) + (-1)) + (-1)) + (-1)) + (-1)) + (-1)) + (-1))), some (0, z214), some (0, z216), some (0, z218)]) c_22_42 rfl rfl ?_
                                                                                                      refine n_iload_n c_22_44 rfl ?_
                                                                                                      refine n_iload c_22_45 rfl ?_
                                                                                                      refine n_if2_eq c_22_47 (by omega) (by omega) ?_ ?_
                                                                                                      · intro h220
                                                                                                        exfalso; omega
                                                                                                      · intro h221
                                                                                                        refine n_iload_n c_22_50 rfl ?_
                                                                                                        refine n_iload c_22_51 rfl ?_
                                                                                                        refine n_if2_ne c_22_53 (by omega) (by omega) ?_ ?_
                                                                                                        · intro h222
                                                                                                          exfalso; omega
                                                                                                        · intro h223
                                                                                                          refine n_aload_n c_22_56 rfl ?_
                                                                                                          refine n_getR c_22_57 sc_44.n rfl rfl rfl r_44_4 ?_
                                                                                                          refine n_iload_n c_22_60 rfl ?_
                                                                                                          refine n_iload_n c_22_61 rfl ?_
                                                                                                          refine n_iastoreV hS211 c_22_62 sc_45.n rfl (by omega) (w_45 (by omega) (by omega)) ?_
                                                                                                          intro M224 eM224 hS224
                                                                                                          have g224_0 : M224 44 0 = M211 44 0 := by rw [eM224]; exact nu_a (by omega)
                                                                                                          have g224_1 : M224 44 5 = M211 44 5 := by rw [eM224]; exact nu_a (by omega)
                                                                                                          have g224_2 : M224 44 2 = M211 44 2 := by rw [eM224]; exact nu_a (by omega)
                                                                                                          refine n_goto c_22_63 ?_
                                                                                                          refine n_iinc (L2 := [some (2, 44), some (2, 4), some (0, ((((((((((((((((((27 - 1) + (-1)) + (-1)) + (-1)) + (-1)) + (-1)) + (-1)) + (-1)) + (-1)) + (-1)) + (-1)) + (-1)) + (-1)) + (-1)) + (-1)) + (-1)) + (-1)) + (-1))), some (0, z214), some (0, z216), some (0, z218)]) c_22_101 rfl rfl rfl ?_
                                                                                                          refine n_goto c_22_104 ?_
                                                                                                          refine n_iload_n c_22_17 rfl ?_
                                                                                                          refine n_if0_lt c_22_18 (by omega) ?_ ?_
                                                                                                          · intro h225
                                                                                                            exfalso; omega
                                                                                                          · intro h226
                                                                                                            refine n_aload_n c_22_21 rfl ?_
                                                                                                            refine n_getR c_22_22 sc_4.n rfl rfl rfl r_4_2 ?_
                                                                                                            refine n_iload_n c_22_25 rfl ?_
                                                                                                            refine n_ialoadV c_22_26 sc_5.n rfl rfl rfl (by omega) (t_5k (z := 1) hS224 (by omega) (by omega) (by omega)) ?_
                                                                                                            intro z227 ez227 f228
                                                                                                            refine n_istore_n (L2 := [some (2, 44), some (2, 4), some (0, ((((((((((((((((((27 - 1) + (-1)) + (-1)) + (-1)) + (-1)) + (-1)) + (-1)) + (-1)) + (-1)) + (-1)) + (-1)) + (-1)) + (-1)) + (-1)) + (-1)) + (-1)) + (-1)) + (-1))), some (0, z227), some (0, z216), some (0, z218)]) c_22_27 rfl rfl ?_
                                                                                                            refine n_aload_n c_22_28 rfl ?_
                                                                                                            refine n_getR c_22_29 sc_4.n rfl rfl rfl r_4_3 ?_
                                                                                                            refine n_iload_n c_22_32 rfl ?_
                                                                                                            refine n_ialoadV c_22_33 sc_6.n rfl rfl rfl (by omega) (t_6k (z := 0) hS224 (by omega) (by omega) (by omega)) ?_
                                                                                                            intro z229 ez229 f230
                                                                                                            refine n_istore (L2 := [some (2, 44), some (2, 4), some (0, ((((((((((((((((((27 - 1) + (-1)) + (-1)) + (-1)) + (-1)) + (-1)) + (-1)) + (-1)) + (-1)) + (-1)) + (-1)) + (-1)) + (-1)) + (-1)) + (-1)) + (-1)) + (-1)) + (-1))), some (0, z227), some (0, z229), some (0, z218)]) c_22_34 rfl rfl ?_
                                                                                                            refine n_aload_n c_22_36 rfl ?_
                                                                                                            refine n_getR c_22_37 sc_4.n rfl rfl rfl r_4_4 ?_
                                                                                                            refine n_iload_n c_22_40 rfl ?_
                                                                                                            refine n_ialoadV c_22_41 sc_7.n rfl rfl rfl (by omega) (t_7k (z := 0) hS224 (by omega) (by omega) (by omega)) ?_
                                                                                                            intro z231 ez231 f232
                                                                                                            refine n_istore (L2 := [some (2, 44), some (2, 4), some (0, ((((((((((((((((((27 - 1) + (-1)) + (-1)) + (-1)) + (-1)) + (-1)) + (-1)) + (-1)) + (-1)) + (-1)) + (-1)) + (-1)) + (-1)) + (-1)) + (-1)) + (-1)) + (-1)) + (-1))), some (0, z227), some (0, z229), some (0, z231)]) c_22_42 rfl rfl ?_
                                                                                                            refine n_iload_n c_22_44 rfl ?_
                                                                                                            refine n_iload c_22_45 rfl ?_
                                                                                                            refine n_if2_eq c_22_47 (by omega) (by omega) ?_ ?_
                                                                                                            · intro h233
                                                                                                              exfalso; omega
                                                                                                            · intro h234
                                                                                                              refine n_iload_n c_22_50 rfl ?_
                                                                                                              refine n_iload c_22_51 rfl ?_
                                                                                                              refine n_if2_ne c_22_53 (by omega) (by omega) ?_ ?_
                                                                                                              · intro h235
                                                                                                                refine n_iload c_22_66 rfl ?_
                                                                                                                refine n_iload c_22_68 rfl ?_
                                                                                                                refine n_if2_ne c_22_70 (by omega) (by omega) ?_ ?_
                                                                                                                · intro h236
                                                                                                                  exfalso; omega
                                                                                                                · intro h237
                                                                                                                  refine n_aload_n c_22_73 rfl ?_
                                                                                                                  refine n_getR c_22_74 sc_44.n rfl rfl rfl r_44_4 ?_
                                                                                                                  refine n_iload_n c_22_77 rfl ?_
                                                                                                                  refine n_iload c_22_78 rfl ?_
                                                                                                                  refine n_iastoreV hS224 c_22_80 sc_45.n rfl (by omega) (w_45 (by omega) (by omega)) ?_
                                                                                                                  intro M238 eM238 hS238
                                                                                                                  have g238_0 : M238 44 0 = M224 44 0 := by rw [eM238]; exact nu_a (by omega)
                                                                                                                  have g238_1 : M238 44 5 = M224 44 5 := by rw [eM238]; exact nu_a (by omega)
                                                                                                                  have g238_2 : M238 44 2 = M224 44 2 := by rw [eM238]; exact nu_a (by omega)
                                                                                                                  refine n_goto c_22_81 ?_
                                                                                                                  refine n_iinc (L2 := [some (2, 44), some (2, 4), some (0, (((((((((((((((((((27 - 1) + (-1)) + (-1)) + (-1)) + (-1)) + (-1)) + (-1)) + (-1)) + (-1)) + (-1)) + (-1)) + (-1)) + (-1)) + (-1)) + (-1)) + (-1)) + (-1)) + (-1)) + (-1))), some (0, z227), some (0, z229), some (0, z231)]) c_22_101 rfl rfl rfl ?_
                                                                                                                  refine n_goto c_22_104 ?_
                                                                                                                  refine n_iload_n c_22_17 rfl ?_
                                                                                                                  refine n_if0_lt c_22_18 (by omega) ?_ ?_
                                                                                                                  · intro h239
                                                                                                                    exfalso; omega
                                                                                                                  · intro h240
                                                                                                                    refine n_aload_n c_22_21 rfl ?_
                                                                                                                    refine n_getR c_22_22 sc_4.n rfl rfl rfl r_4_2 ?_
                                                                                                                    refine n_iload_n c_22_25 rfl ?_
                                                                                                                    refine n_ialoadV c_22_26 sc_5.n rfl rfl rfl (by omega) (t_5k (z := 0) hS238 (by omega) (by omega) (by omega)) ?_
                                                                                                                    intro z241 ez241 f242
                                                                                                                    refine n_istore_n (L2 := [some (2, 44), some (2, 4), some (0, (((((((((((((((((((27 - 1) + (-1)) + (-1)) + (-1)) + (-1)) + (-1)) + (-1)) + (-1)) + (-1)) + (-1)) + (-1)) + (-1)) + (-1)) + (-1)) + (-1)) + (-1)) + (-1)) + (-1)) + (-1))), some (0, z241), some (0, z229), some (0, z231)]) c_22_27 rfl rfl ?_
                                                                                                                    refine n_aload_n c_22_28 rfl ?_
                                                                                                                    refine n_getR c_22_29 sc_4.n rfl rfl rfl r_4_3 ?_
                                                                                                                    refine n_iload_n c_22_32 rfl ?_
                                                                                                                    refine n_ialoadV c_22_33 sc_6.n rfl rfl rfl (by omega) (t_6k (z := 2) hS238 (by omega) (by omega) (by omega)) ?_
                                                                                                                    intro z243 ez243 f244
                                                                                                                    refine n_istore (L2 := [some (2, 44), some (2, 4), some (0, (((((((((((((((((((27 - 1) + (-1)) + (-1)) + (-1)) + (-1)) + (-1)) + (-1)) + (-1)) + (-1)) + (-1)) + (-1)) + (-1)) + (-1)) + (-1)) + (-1)) + (-1)) + (-1)) + (-1)) + (-1))), some (0, z241), some (0, z243), some (0, z231)]) c_22_34 rfl rfl ?_
                                                                                                                    refine n_aload_n c_22_36 rfl ?_
                                                                                                                    refine n_getR c_22_37 sc_4.n rfl rfl rfl r_4_4 ?_
                                                                                                                    refine n_iload_n c_22_40 rfl ?_
                                                                                                                    refine n_ialoadV c_22_41 sc_7.n rfl rfl rfl (by omega) (t_7k (z := 2) hS238 (by omega) (by omega) (by omega)) ?_
                                                                                                                    intro z245 ez245 f246
                                                                                                                    refine n_istore (L2 := [some (2, 44), some (2, 4), some (0, (((((((((((((((((((27 - 1) + (-1)) + (-1)) + (-1)) + (-1)) + (-1)) + (-1)) + (-1)) + (-1)) + (-1)) + (-1)) + (-1)) + (-1)) + (-1)) + (-1)) + (-1)) + (-1)) + (-1)) + (-1))), some (0, z241), some (0, z243), some (0, z245)]) c_22_42 rfl rfl ?_
                                                                                                                    refine n_iload_n c_22_44 rfl ?_
                                                                                                                    refine n_iload c_22_45 rfl ?_
                                                                                                                    refine n_if2_eq c_22_47 (by omega) (by omega) ?_ ?_
                                                                                                                    · intro h247
                                                                                                                      exfalso; omega
                                                                                                                    · intro h248
                                                                                                                      refine n_iload_n c_22_50 rfl ?_
                                                                                                                      refine n_iload c_22_51 rfl ?_
                                                                                                                      refine n_if2_ne c_22_53 (by omega) (by omega) ?_ ?_
                                                                                                                      · intro h249
                                                                                                                        refine n_iload c_22_66 rfl ?_
                                                                                                                        refine n_iload c_22_68 rfl ?_
                                                                                                                        refine n_if2_ne c_22_70 (by omega) (by omega) ?_ ?_
                                                                                                                        · intro h250
                                                                                                                          exfalso; omega
                                                                                                                        · intro h251
                                                                                                                          refine n_aload_n c_22_73 rfl ?_
                                                                                                                          refine n_getR c_22_74 sc_44.n rfl rfl rfl r_44_4 ?_
                                                                                                                          refine n_iload_n c_22_77 rfl ?_
                                                                                                                          refine n_iload c_22_78 rfl ?_
                                                                                                                          refine n_iastoreV hS238 c_22_80 sc_45.n rfl (by omega) (w_45 (by omega) (by omega)) ?_
                                                                                                                          intro M252 eM252 hS252
                                                                                                                          have g252_0 : M252 44 0 = M238 44 0 := by rw [eM252]; exact nu_a (by omega)
                                                                                                                          have g252_1 : M252 44 5 = M238 44 5 := by rw [eM252]; exact nu_a (by omega)
                                                                                                                          have g252_2 : M252 44 2 = M238 44 2 := by rw [eM252]; exact nu_a (by omega)
                                                                                                                          refine n_goto c_22_81 ?_
                                                                                                                          refine n_iinc (L2 := [some (2, 44), some (2, 4), some (0, ((((((((((((((((((((27 - 1) + (-1)) + (-1)) + (-1)) + (-1)) + (-1)) + (-1)) + (-1)) + (-1)) + (-1)) + (-1)) + (-1)) + (-1)) + (-1)) + (-1)) + (-1)) + (-1)) + (-1)) + (-1)) + (-1))), some (0, z241), some (0, z243), some (0, z245)]) c_22_101 rfl rfl rfl ?_
                                                                                                                          refine n_goto c_22_104 ?_
                                                                                                                          refine n_iload_n c_22_17 rfl ?_
                                                                                                                          refine n_if0_lt c_22_18 (by omega) ?_ ?_
                                                                                                                          · intro h253
                                                                                                                            exfalso; omega
                                                                                                                          · intro h254
                                                                                                                            refine n_aload_n c_22_21 rfl ?_
                                                                                                                            refine n_getR c_22_22 sc_4.n rfl rfl rfl r_4_2 ?_
                                                                                                                            refine n_iload_n c_22_25 rfl ?_
                                                                                                                            refine n_ialoadV c_22_26 sc_5.n rfl rfl rfl (by omega) (t_5k (z := 0) hS252 (by omega) (by omega) (by omega)) ?_
                                                                                                                            intro z255 ez255 f256
                                                                                                                            refine n_istore_n (L2 := [some (2, 44), some (2, 4), some (0, ((((((((((((((((((((27 - 1) + (-1)) + (-1)) + (-1)) + (-1)) + (-1)) + (-1)) + (-1)) + (-1)) + (-1)) + (-1)) + (-1)) + (-1)) + (-1)) + (-1)) + (-1)) + (-1)) + (-1)) + (-1)) + (-1))), some (0, z255), some (0, z243), some (0, z245)]) c_22_27 rfl rfl ?_
                                                                                                                            refine n_aload_n c_22_28 rfl ?_
                                                                                                                            refine n_getR c_22_29 sc_4.n rfl rfl rfl r_4_3 ?_
                                                                                                                            refine n_iload_n c_22_32 rfl ?_
                                                                                                                            refine n_ialoadV c_22_33 sc_6.n rfl rfl rfl (by omega) (t_6k (z := 2) hS252 (by omega) (by omega) (by omega)) ?_
                                                                                                                            intro z257 ez257 f258
                                                                                                                            refine n_istore (L2 := [some (2, 44), some (2, 4), some (0, ((((((((((((((((((((27 - 1) + (-1)) + (-1)) + (-1)) + (-1)) + (-1)) + (-1)) + (-1)) + (-1)) + (-1)) + (-1)) + (-1)) + (-1)) + (-1)) + (-1)) + (-1)) + (-1)) + (-1)) + (-1)) + (-1))), some (0, z255), some (0, z257), some (0, z245)]) c_22_34 rfl rfl ?_
                                                                                                                            refine n_aload_n c_22_36 rfl ?_
                                                                                                                            refine n_getR c_22_37 sc_4.n rfl rfl rfl r_4_4 ?_
                                                                                                                            refine n_iload_n c_22_40 rfl ?_
                                                                                                                            refine n_ialoadV c_22_41 sc_7.n rfl rfl rfl (by omega) (t_7k (z := 1) hS252 (by omega) (by omega) (by omega)) ?_
                                                                                                                            intro z259 ez259 f260
                                                                                                                            refine n_istore (L2 := [some (2, 44), some (2, 4), some (0, ((((((((((((((((((((27 - 1) + (-1)) + (-1)) + (-1)) + (-1)) + (-1)) + (-1)) + (-1)) + (-1)) + (-1)) + (-1)) + (-1)) + (-1)) + (-1)) + (-1)) + (-1)) + (-1)) + (-1)) + (-1)) + (-1))), some (0, z255), some (0, z257), some (0, z259)]) c_22_42 rfl rfl ?_
                                                                                                                            refine n_iload_n c_22_44 rfl ?_
                                                                                                                            refine n_iload c_22_45 rfl ?_
                                                                                                                            refine n_if2_eq c_22_47 (by omega) (by omega) ?_ ?_
                                                                                                                            · intro h261
                                                                                                                              exfalso; omega
                                                                                                                            · intro h262
                                                                                                                              refine n_iload_n c_22_50 rfl ?_
                                                                                                                              refine n_iload c_22_51 rfl ?_
                                                                                                                              refine n_if2_ne c_22_53 (by omega) (by omega) ?_ ?_
                                                                                                                              · intro h263
                                                                                                                                refine n_iload c_22_66 rfl ?_
                                                                                                                                refine n_iload c_22_68 rfl ?_
                                                                                                                                refine n_if2_ne c_22_70 (by omega) (by omega) ?_ ?_
                                                                                                                                · intro h264
                                                                                                                                  refine n_aload_n c_22_84 rfl ?_
                                                                                                                                  refine n_getR c_22_85 sc_44.n rfl rfl rfl r_44_4 ?_
                                                                                                                                  refine n_iload_n c_22_88 rfl ?_
                                                                                                                                  refine n_aload_n c_22_89 rfl ?_
                                                                                                                                  refine n_dup2 c_22_90 ?_
                                                                                                                                  refine n_getV (bi := 2) c_22_91 sc_44.n rfl rfl rfl (t_44_2 hS252) ?_
                                                                                                                                  intro z265 ez265 f266
                                                                                                                                  obtain rfl : z265 = 7 := by omega
                                                                                                                                  refine n_dup_x102 c_22_94 ?_
                                                                                                                                  refine n_iconst c_22_95 ?_
                                                                                                                                  refine n_iadd c_22_96 rfl ?_
                                                                                                                                  refine n_putV (bi := 2) hS252 c_22_97 sc_44.n rfl rfl rfl rfl (w_44_2 (by omega)) ?_
                                                                                                                                  intro M267 eM267 hS267
                                                                                                                                  have g267_0 : M267 44 0 = M252 44 0 := by rw [eM267]; exact nu_i (by omega)
                                                                                                                                  have g267_1 : M267 44 5 = M252 44 5 := by rw [eM267]; exact nu_i (by omega)
                                                                                                                                  have g267_2 : M267 44 2 = (7 + 1) := by rw [eM267]; exact nu_s _ _ _ _
                                                                                                                                  refine n_iastoreV hS267 c_22_100 sc_45.n rfl (by omega) (w_45 (by omega) (by omega)) ?_
                                                                                                                                  intro M268 eM268 hS268
                                                                                                                                  have g268_0 : M268 44 0 = M267 44 0 := by rw [eM268]; exact nu_a (by omega)
                                                                                                                                  have g268_1 : M268 44 5 = M267 44 5 := by rw [eM268]; exact nu_a (by omega)
                                                                                                                                  have g268_2 : M268 44 2 = M267 44 2 := by rw [eM268]; exact nu_a (by omega)
                                                                                                                                  refine n_iinc (L2 := [some (2, 44), some (2, 4), some (0, (((((((((((((((((((((27 - 1) + (-1)) + (-1)) + (-1)) + (-1)) + (-1)) + (-1)) + (-1)) + (-1)) + (-1)) + (-1)) + (-1)) + (-1)) + (-1)) + (-1)) + (-1)) + (-1)) + (-1)) + (-1)) + (-1)) + (-1))), some (0, z255), some (0, z257), some (0, z259)]) c_22_101 rfl rfl rfl ?_
                                                                                                                                  refine n_goto c_22_104 ?_
                                                                                                                                  refine n_iload_n c_22_17 rfl ?_
                                                                                                                                  refine n_if0_lt c_22_18 (by omega) ?_ ?_
                                                                                                                                  · intro h269
                                                                                                                                    exfalso; omega
                                                                                                                                  · intro h270
                                                                                                                                    refine n_aload_n c_22_21 rfl ?_
                                                                                                                                    refine n_getR c_22_22 sc_4.n rfl rfl rfl r_4_2 ?_
                                                                                                                                    refine n_iload_n c_22_25 rfl ?_
                                                                                                                                    refine n_ialoadV c_22_26 sc_5.n rfl rfl rfl (by omega) (t_5k (z := 0) hS268 (by omega) (by omega) (by omega)) ?_
                                                                                                                                    intro z271 ez271 f272
                                                                                                                                    refine n_istore_n (L2 := [some (2, 44), some (2, 4), some (0, (((((((((((((((((((((27 - 1) + (-1)) + (-1)) + (-1)) + (-1)) + (-1)) + (-1)) + (-1)) + (-1)) + (-1)) + (-1)) + (-1)) + (-1)) + (-1)) + (-1)) + (-1)) + (-1)) + (-1)) + (-1)) + (-1)) + (-1))), some (0, z271), some (0, z257), some (0, z259)]) c_22_27 rfl rfl ?_
                                                                                                                                    refine n_aload_n c_22_28 rfl ?_
                                                                                                                                    refine n_getR c_22_29 sc_4.n rfl rfl rfl r_4_3 ?_
                                                                                                                                    refine n_iload_n c_22_32 rfl ?_
                                                                                                                                    refine n_ialoadV c_22_33 sc_6.n rfl rfl rfl (by omega) (t_6k (z := 2) hS268 (by omega) (by omega) (by omega)) ?_
                                                                                                                                    intro z273 ez273 f274
                                                                                                                                    refine n_istore (L2 := [some (2, 44), some (2, 4), some (0, (((((((((((((((((((((27 - 1) + (-1)) + (-1)) + (-1)) + (-1)) + (-1)) + (-1)) + (-1)) + (-1)) + (-1)) + (-1)) + (-1)) + (-1)) + (-1)) + (-1)) + (-1)) + (-1)) + (-1)) + (-1)) + (-1)) + (-1))), some (0, z271), some (0, z273), some (0, z259)]) c_22_34 rfl rfl ?_
                                                                                                                                    refine n_aload_n c_22_36 rfl ?_
                                                                                                                                    refine n_getR c_22_37 sc_4.n rfl rfl rfl r_4_4 ?_
                                                                                                                                    refine n_iload_n c_22_40 rfl ?_
                                                                                                                                    refine n_ialoadV c_22_41 sc_7.n rfl rfl rfl (by omega) (t_7k (z := 0) hS268 (by omega) (by omega) (by omega)) ?_
                                                                                                                                    intro z275 ez275 f276
                                                                                                                                    refine n_istore (L2 := [some (2, 44), some (2, 4), some (0, (((((((((((((((((((((27 - 1) + (-1)) + (-1)) + (-1)) + (-1)) + (-1)) + (-1)) + (-1)) + (-1)) + (-1)) + (-1)) + (-1)) + (-1)) + (-1)) + (-1)) + (-1)) + (-1)) + (-1)) + (-1)) + (-1)) + (-1))), some (0, z271), some (0, z273), some (0, z275)]) c_22_42 rfl rfl ?_
                                                                                                                                    refine n_iload_n c_22_44 rfl ?_
                                                                                                                                    refine n_iload c_22_45 rfl ?_
                                                                                                                                    refine n_if2_eq c_22_47 (by omega) (by omega) ?_ ?_
                                                                                                                                    · intro h277
                                                                                                                                      exfalso; omega
                                                                                                                                    · intro h278
                                                                                                                                      refine n_iload_n c_22_50 rfl ?_
                                                                                                                                      refine n_iload c_22_51 rfl ?_
                                                                                                                                      refine n_if2_ne c_22_53 (by omega) (by omega) ?_ ?_
                                                                                                                                      · intro h279
                                                                                                                                        exfalso; omega
                                                                                                                                      · intro h280
                                                                                                                                        refine n_aload_n c_22_56 rfl ?_
                                                                                                                                        refine n_getR c_22_57 sc_44.n rfl rfl rfl r_44_4 ?_
                                                                                                                                        refine n_iload_n c_22_60 rfl ?_
                                                                                                                                        refine n_iload_n c_22_61 rfl ?_
                                                                                                                                        refine n_iastoreV hS268 c_22_62 sc_45.n rfl (by omega) (w_45 (by omega) (by omega)) ?_
                                                                                                                                        intro M281 eM281 hS281
                                                                                                                                        have g281_0 : M281 44 0 = M268 44 0 := by rw [eM281]; exact nu_a (by omega)
                                                                                                                                        have g281_1 : M281 44 5 = M268 44 5 := by rw [eM281]; exact nu_a (by omega)
                                                                                                                                        have g281_2 : M281 44 2 = M268 44 2 := by rw [eM281]; exact nu_a (by omega)
                                                                                                                                        refine n_goto c_22_63 ?_
                                                                                                                                        refine n_iinc (L2 := [some (2, 44), some (2, 4), some (0, ((((((((((((((((((((((27 - 1) + (-1)) + (-1)) + (-1)) + (-1)) + (-1)) + (-1)) + (-1)) + (-1)) + (-1)) + (-1)) + (-1)) + (-1)) + (-1)) + (-1)) + (-1)) + (-1)) + (-1)) + (-1)) + (-1)) + (-1)) + (-1))), some (0, z271), some (0, z273), some (0, z275)]) c_22_101 rfl rfl rfl ?_
                                                                                                                                        refine n_goto c_22_104 ?_
                                                                                                                                        refine n_iload_n c_22_17 rfl ?_
                                                                                                                                        refine n_if0_lt c_22_18 (by omega) ?_ ?_
                                                                                                                                        · intro h282
                                                                                                                                          exfalso; omega
                                                                                                                                        · intro h283
                                                                                                                                          refine n_aload_n c_22_21 rfl ?_
                                                                                                                                          refine n_getR c_22_22 sc_4.n rfl rfl rfl r_4_2 ?_
                                                                                                                                          refine n_iload_n c_22_25 rfl ?_
                                                                                                                                          refine n_ialoadV c_22_26 sc_5.n rfl rfl rfl (by omega) (t_5k (z := 0) hS281 (by omega) (by omega) (by omega)) ?_
                                                                                                                                          intro z284 ez284 f285
                                                                                                                                          refine n_istore_n (L2 := [some (2, 44), some (2, 4), some (0, ((((((((((((((((((((((27 - 1) + (-1)) + (-1)) + (-1)) + (-1)) + (-1)) + (-1)) + (-1)) + (-1)) + (-1)) + (-1)) + (-1)) + (-1)) + (-1)) + (-1)) + (-1)) + (-1)) + (-1)) + (-1)) + (-1)) + (-1)) + (-1))), some (0, z284), some (0, z273), some (0, z275)]) c_22_27 rfl rfl ?_
                                                                                                                                          refine n_aload_n c_22_28 rfl ?_
                                                                                                                                          refine n_getR c_22_29 sc_4.n rfl rfl rfl r_4_3 ?_
                                                                                                                                          refine n_iload_n c_22_32 rfl ?_
                                                                                                                                          refine n_ialoadV c_22_33 sc_6.n rfl rfl rfl (by omega) (t_6k (z := 1) hS281 (by omega) (by omega) (by omega)) ?_
                                                                                                                                          intro z286 ez286 f287
                                                                                                                                          refine n_istore (L2 := [some (2, 44), some (2, 4), some (0, ((((((((((((((((((((((27 - 1) + (-1)) + (-1)) + (-1)) + (-1)) + (-1)) + (-1)) + (-1)) + (-1)) + (-1)) + (-1)) + (-1)) + (-1)) + (-1)) + (-1)) + (-1)) + (-1)) + (-1)) + (-1)) + (-1)) + (-1)) + (-1))), some (0, z284), some (0, z286), some (0, z275)]) c_22_34 rfl rfl ?_
                                                                                                                                          refine n_aload_n c_22_36 rfl ?_
                                                                                                                                          refine n_getR c_22_37 sc_4.n rfl rfl rfl r_4_4 ?_
                                                                                                                                          refine n_iload_n c_22_40 rfl ?_
                                                                                                                                          refine n_ialoadV c_22_41 sc_7.n rfl rfl rfl (by omega) (t_7k (z := 2) hS281 (by omega) (by omega) (by omega)) ?_
                                                                                                                                          intro z288 ez288 f289
                                                                                                                                          refine n_istore (L2 := [some (2, 44), some (2, 4), some (0, ((((((((((((((((((((((27 - 1) + (-1)) + (-1)) + (-1)) + (-1)) + (-1)) + (-1)) + (-1)) + (-1)) + (-1)) + (-1)) + (-1)) + (-1)) + (-1)) + (-1)) + (-1)) + (-1)) + (-1)) + (-1)) + (-1)) + (-1)) + (-1))), some (0, z284), some (0, z286), some (0, z288)]) c_22_42 rfl rfl ?_
                                                                                                                                          refine n_iload_n c_22_44 rfl ?_
                                                                                                                                          refine n_iload c_22_45 rfl ?_
                                                                                                                                          refine n_if2_eq c_22_47 (by omega) (by omega) ?_ ?_
                                                                                                                                          · intro h290
                                                                                                                                            exfalso; omega
                                                                                                                                          · intro h291
                                                                                                                                            refine n_iload_n c_22_50 rfl ?_
                                                                                                                                            refine n_iload c_22_51 rfl ?_
                                                                                                                                            refine n_if2_ne c_22_53 (by omega) (by omega) ?_ ?_
                                                                                                                                            · intro h292
                                                                                                                                              refine n_iload c_22_66 rfl ?_
                                                                                                                                              refine n_iload c_22_68 rfl ?_
                                                                                                                                              refine n_if2_ne c_22_70 (by omega) (by omega) ?_ ?_
                                                                                                                                              · intro h293
                                                                                                                                                refine n_aload_n c_22_84 rfl ?_
                                                                                                                                                refine n_getR c_22_85 sc_44.n rfl rfl rfl r_44_4 ?_
                                                                                                                                                refine n_iload_n c_22_88 rfl ?_
                                                                                                                                                refine n_aload_n c_22_89 rfl ?_
                                                                                                                                                refine n_dup2 c_22_90 ?_
                                                                                                                                                refine n_getV (bi := 2) c_22_91 sc_44.n rfl rfl rfl (t_44_2 hS281) ?_
                                                                                                                                                intro z294 ez294 f295
                                                                                                                                                obtain rfl : z294 = 8 := by omega
                                                                                                                                                refine n_dup_x102 c_22_94 ?_
                                                                                                                                                refine n_iconst c_22_95 ?_
                                                                                                                                                refine n_iadd c_22_96 rfl ?_
                                                                                                                                                refine n_putV (bi := 2) hS281 c_22_97 sc_44.n rfl rfl rfl rfl (w_44_2 (by omega)) ?_
                                                                                                                                                intro M296 eM296 hS296
                                                                                                                                                have g296_0 : M296 44 0 = M281 44 0 := by rw [eM296]; exact nu_i (by omega)
                                                                                                                                                have g296_1 : M296 44 5 = M281 44 5 := by rw [eM296]; exact nu_i (by omega)
                                                                                                                                                have g296_2 : M296 44 2 = (8 + 1) := by rw [eM296]; exact nu_s _ _ _ _
                                                                                                                                                refine n_iastoreV hS296 c_22_100 sc_45.n rfl (by omega) (w_45 (by omega) (by omega)) ?_
                                                                                                                                                intro M297 eM297 hS297
                                                                                                                                                have g297_0 : M297 44 0 = M296 44 0 := by rw [eM297]; exact nu_a (by omega)
                                                                                                                                                have g297_1 : M297 44 5 = M296 44 5 := by rw [eM297]; exact nu_a (by omega)
                                                                                                                                                have g297_2 : M297 44 2 = M296 44 2 := by rw [eM297]; exact nu_a (by omega)
                                                                                                                                                refine n_iinc (L2 := [some (2, 44), some (2, 4), some (0, (((((((((((((((((((((((27 - 1) + (-1)) + (-1)) + (-1)) + (-1)) + (-1)) + (-1)) + (-1)) + (-1)) + (-1)) + (-1)) + (-1)) + (-1)) + (-1)) + (-1)) + (-1)) + (-1)) + (-1)) + (-1)) + (-1)) + (-1)) + (-1)) + (-1))), some (0, z284), some (0, z286), some (0, z288)]) c_22_101 rfl rfl rfl ?_
                                                                                                                                                refine n_goto c_22_104 ?_
                                                                                                                                                refine n_iload_n c_22_17 rfl ?_
                                                                                                                                                refine n_if0_lt c_22_18 (by omega) ?_ ?_
                                                                                                                                                · intro h298
                                                                                                                                                  exfalso; omega
                                                                                                                                                · intro h299
                                                                                                                                                  refine n_aload_n c_22_21 rfl ?_
                                                                                                                                                  refine n_getR c_22_22 sc_4.n rfl rfl rfl r_4_2 ?_
                                                                                                                                                  refine n_iload_n c_22_25 rfl ?_
                                                                                                                                                  refine n_ialoadV c_22_26 sc_5.n rfl rfl rfl (by omega) (t_5k (z := 0) hS297 (by omega) (by omega) (by omega)) ?_
                                                                                                                                                  intro z300 ez300 f301
                                                                                                                                                  refine n_istore_n (L2 := [some (2, 44), some (2, 4), some (0, (((((((((((((((((((((((27 - 1) + (-1)) + (-1)) + (-1)) + (-1)) + (-1)) + (-1)) + (-1)) + (-1)) + (-1)) + (-1)) + (-1)) + (-1)) + (-1)) + (-1)) + (-1)) + (-1)) + (-1)) + (-1)) + (-1)) + (-1)) + (-1)) + (-1))), some (0, z300), some (0, z286), some (0, z288)]) c_22_27 rfl rfl ?_
                                                                                                                                                  refine n_aload_n c_22_28 rfl ?_
                                                                                                                                                  refine n_getR c_22_29 sc_4.n rfl rfl rfl r_4_3 ?_
                                                                                                                                                  refine n_iload_n c_22_32 rfl ?_
                                                                                                                                                  refine n_ialoadV c_22_33 sc_6.n rfl rfl rfl (by omega) (t_6k (z := 1) hS297 (by omega) (by omega) (by omega)) ?_
                                                                                                                                                  intro z302 ez302 f303
                                                                                                                                                  refine n_istore (L2 := [some (2, 44), some (2, 4), some (0, (((((((((((((((((((((((27 - 1) + (-1)) + (-1)) + (-1)) + (-1)) + (-1)) + (-1)) + (-1)) + (-1)) + (-1)) + (-1)) + (-1)) + (-1)) + (-1)) + (-1)) + (-1)) + (-1)) + (-1)) + (-1)) + (-1)) + (-1)) + (-1)) + (-1))), some (0, z300), some (0, z302), some (0, z288)]) c_22_34 rfl rfl ?_
                                                                                                                                                  refine n_aload_n c_22_36 rfl ?_
                                                                                                                                                  refine n_getR c_22_37 sc_4.n rfl rfl rfl r_4_4 ?_
                                                                                                                                                  refine n_iload_n c_22_40 rfl ?_
                                                                                                                                                  refine n_ialoadV c_22_41 sc_7.n rfl rfl rfl (by omega) (t_7k (z := 1) hS297 (by omega) (by omega) (by omega)) ?_
                                                                                                                                                  intro z304 ez304 f305
                                                                                                                                                  refine n_istore (L2 := [some (2, 44), some (2, 4), some (0, (((((((((((((((((((((((27 - 1) + (-1)) + (-1)) + (-1)) + (-1)) + (-1)) + (-1)) + (-1)) + (-1)) + (-1)) + (-1)) + (-1)) + (-1)) + (-1)) + (-1)) + (-1)) + (-1)) + (-1)) + (-1)) + (-1)) + (-1)) + (-1)) + (-1))), some (0, z300), some (0, z302), some (0, z304)]) c_22_42 rfl rfl ?_
                                                                                                                                                  refine n_iload_n c_22_44 rfl ?_
                                                                                                                                                  refine n_iload c_22_45 rfl ?_
                                                                                                                                                  refine n_if2_eq c_22_47 (by omega) (by omega) ?_ ?_
                                                                                                                                                  · intro h306
                                                                                                                                                    exfalso; omega
                                                                                                                                                  · intro h307
                                                                                                                                                    refine n_iload_n c_22_50 rfl ?_
                                                                                                                                                    refine n_iload c_22_51 rfl ?_
                                                                                                                                                    refine n_if2_ne c_22_53 (by omega) (by omega) ?_ ?_
                                                                                                                                                    · intro h308
                                                                                                                                                      refine n_iload c_22_66 rfl ?_
                                                                                                                                                      refine n_iload c_22_68 rfl ?_
                                                                                                                                                      refine n_if2_ne c_22_70 (by omega) (by omega) ?_ ?_
                                                                                                                                                      · intro h309
                                                                                                                                                        exfalso; omega
                                                                                                                                                      · intro h310
                                                                                                                                                        refine n_aload_n c_22_73 rfl ?_
                                                                                                                                                        refine n_getR c_22_74 sc_44.n rfl rfl rfl r_44_4 ?_
                                                                                                                                                        refine n_iload_n c_22_77 rfl ?_
                                                                                                                                                        refine n_iload c_22_78 rfl ?_
                                                                                                                                                        refine n_iastoreV hS297 c_22_80 sc_45.n rfl (by omega) (w_45 (by omega) (by omega)) ?_
                                                                                                                                                        intro M311 eM311 hS311
                                                                                                                                                        have g311_0 : M311 44 0 = M297 44 0 := by rw [eM311]; exact nu_a (by omega)
                                                                                                                                                        have g311_1 : M311 44 5 = M297 44 5 := by rw [eM311]; exact nu_a (by omega)
                                                                                                                                                        have g311_2 : M311 44 2 = M297 44 2 := by rw [eM311]; exact nu_a (by omega)
                                                                                                                                                        refine n_goto c_22_81 ?_
                                                                                                                                                        refine n_iinc (L2 := [some (2, 44), some (2, 4), some (0, ((((((((((((((((((((((((27 - 1) + (-1)) + (-1)) + (-1)) + (-1)) + (-1)) + (-1)) + (-1)) + (-1)) + (-1)) + (-1)) + (-1)) + (-1)) + (-1)) + (-1)) + (-1)) + (-1)) + (-1)) + (-1)) + (-1)) + (-1)) + (-1)) + (-1)) + (-1))), some (0, z300), some (0, z302), some (0, z304)]) c_22_101 rfl rfl rfl ?_
                                                                                                                                                        refine n_goto c_22_104 ?_
                                                                                                                                                        refine n_iload_n c_22_17 rfl ?_
                                                                                                                                                        refine n_if0_lt c_22_18 (by omega) ?_ ?_
                                                                                                                                                        · intro h312
                                                                                                                                                          exfalso; omega
                                                                                                                                                        · intro h313
                                                                                                                                                          refine n_aload_n c_22_21 rfl ?_
                                                                                                                                                          refine n_getR c_22_22 sc_4.n rfl rfl rfl r_4_2 ?_
                                                                                                                                                          refine n_iload_n c_22_25 rfl ?_
                                                                                                                                                          refine n_ialoadV c_22_26 sc_5.n rfl rfl rfl (by omega) (t_5k (z := 0) hS311 (by omega) (by omega) (by omega)) ?_
                                                                                                                                                          intro z314 ez314 f315
                                                                                                                                                          refine n_istore_n (L2 := [some (2, 44), some (2, 4), some (0, ((((((((((((((((((((((((27 - 1) + (-1)) + (-1)) + (-1)) + (-1)) + (-1)) + (-1)) + (-1)) + (-1)) + (-1)) + (-1)) + (-1)) + (-1)) + (-1)) + (-1)) + (-1)) + (-1)) + (-1)) + (-1)) + (-1)) + (-1)) + (-1)) + (-1)) + (-1))), some (0, z314), some (0, z302), some (0, z304)]) c_22_27 rfl rfl ?_
                                                                                                                                                          refine n_aload_n c_22_28 rfl ?_
                                                                                                                                                          refine n_getR c_22_29 sc_4.n rfl rfl rfl r_4_3 ?_
                                                                                                                                                          refine n_iload_n c_22_32 rfl ?_
                                                                                                                                                          refine n_ialoadV c_22_33 sc_6.n rfl rfl rfl (by omega) (t_6k (z := 1) hS311 (by omega) (by omega) (by omega)) ?_
                                                                                                                                                          intro z316 ez316 f317
                                                                                                                                                          refine n_istore (L2 := [some (2, 44), some (2, 4), some (0, ((((((((((((((((((((((((27 - 1) + (-1)) + (-1)) + (-1)) + (-1)) + (-1)) + (-1)) + (-1)) + (-1)) + (-1)) + (-1)) + (-1)) + (-1)) + (-1)) + (-1)) + (-1)) + (-1)) + (-1)) + (-1)) + (-1)) + (-1)) + (-1)) + (-1)) + (-1))), some (0, z314), some (0, z316), some (0, z304)]) c_22_34 rfl rfl ?_
                                                                                                                                                          refine n_aload_n c_22_36 rfl ?_
                                                                                                                                                          refine n_getR c_22_37 sc_4.n rfl rfl rfl r_4_4 ?_
                                                                                                                                                          refine n_iload_n c_22_40 rfl ?_
                                                                                                                                                          refine n_ialoadV c_22_41 sc_7.n rfl rfl rfl (by omega) (t_7k (z := 0) hS311 (by omega) (by omega) (by omega)) ?_
                                                                                                                                                          intro z318 ez318 f319
                                                                                                                                                          refine n_istore (L2 := [some (2, 44), some (2, 4), some (0, ((((((((((((((((((((((((27 - 1) + (-1)) + (-1)) + (-1)) + (-1)) + (-1)) + (-1)) + (-1)) + (-1)) + (-1)) + (-1)) + (-1)) + (-1)) + (-1)) + (-1)) + (-1)) + (-1)) + (-1)) + (-1)) + (-1)) + (-1)) + (-1)) + (-1)) + (-1))), some (0, z314), some (0, z316), some (0, z318)]) c_22_42 rfl rfl ?_
                                                                                                                                                          refine n_iload_n c_22_44 rfl ?_
                                                                                                                                                          refine n_iload c_22_45 rfl ?_
                                                                                                                                                          refine n_if2_eq c_22_47 (by omega) (by omega) ?_ ?_
                                                                                                                                                          · intro h320
                                                                                                                                                            exfalso; omega
                                                                                                                                                          · intro h321
                                                                                                                                                            refine n_iload_n c_22_50 rfl ?_
                                                                                                                                                            refine n_iload c_22_51 rfl ?_
                                                                                                                                                            refine n_if2_ne c_22_53 (by omega) (by omega) ?_ ?_
                                                                                                                                                            · intro h322
                                                                                                                                                              exfalso; omega
                                                                                                                                                            · intro h323
                                                                                                                                                              refine n_aload_n c_22_56 rfl ?_
                                                                                                                                                              refine n_getR c_22_57 sc_44.n rfl rfl rfl r_44_4 ?_
                                                                                                                                                              refine n_iload_n c_22_60 rfl ?_
                                                                                                                                                              refine n_iload_n c_22_61 rfl ?_
                                                                                                                                                              refine n_iastoreV hS311 c_22_62 sc_45.n rfl (by omega) (w_45 (by omega) (by omega)) ?_
                                                                                                                                                              intro M324 eM324 hS324
                                                                                                                                                              have g324_0 : M324 44 0 = M311 44 0 := by rw [eM324]; exact nu_a (by omega)
                                                                                                                                                              have g324_1 : M324 44 5 = M311 44 5 := by rw [eM324]; exact nu_a (by omega)
                                                                                                                                                              have g324_2 : M324 44 2 = M311 44 2 := by rw [eM324]; exact nu_a (by omega)
                                                                                                                                                              refine n_goto c_22_63 ?_
                                                                                                                                                              refine n_iinc (L2 := [some (2, 44), some (2, 4), some (0, (((((((((((((((((((((((((27 - 1) + (-1)) + (-1)) + (-1)) + (-1)) + (-1)) + (-1)) + (-1)) + (-1)) + (-1)) + (-1)) + (-1)) + (-1)) + (-1)) + (-1)) + (-1)) + (-1)) + (-1)) + (-1)) + (-1)) + (-1)) + (-1)) + (-1)) + (-1)) + (-1))), some (0, z314), some (0, z316), some (0, z318)]) c_22_101 rfl rfl rfl ?_
                                                                                                                                                              refine n_goto c_22_104 ?_
                                                                                                                                                              refine n_iload_n c_22_17 rfl ?_
                                                                                                                                                              refine n_if0_lt c_22_18 (by omega) ?_ ?_
                                                                                                                                                              · intro h325
                                                                                                                                                                exfalso; omega
                                                                                                                                                              · intro h326
                                                                                                                                                                refine n_aload_n c_22_21 rfl ?_
                                                                                                                                                                refine n_getR c_22_22 sc_4.n rfl rfl rfl r_4_2 ?_
                                                                                                                                                                refine n_iload_n c_22_25 rfl ?_
                                                                                                                                                                refine n_ialoadV c_22_26 sc_5.n rfl rfl rfl (by omega) (t_5k (z := 0) hS324 (by omega) (by omega) (by omega)) ?_
                                                                                                                                                                intro z327 ez327 f328
                                                                                                                                                                refine n_istore_n (L2 := [some (2, 44), some (2, 4), some (0, (((((((((((((((((((((((((27 - 1) + (-1)) + (-1)) + (-1)) + (-1)) + (-1)) + (-1)) + (-1)) + (-1)) + (-1)) + (-1)) + (-1)) + (-1)) + (-1)) + (-1)) + (-1)) + (-1)) + (-1)) + (-1)) + (-1)) + (-1)) + (-1)) + (-1)) + (-1)) + (-1))), some (0, z327), some (0, z316), some (0, z318)]) c_22_27 rfl rfl ?_
                                                                                                                                                                refine n_aload_n c_22_28 rfl ?_
                                                                                                                                                                refine n_getR c_22_29 sc_4.n rfl rfl rfl r_4_3 ?_
                                                                                                                                                                refine n_iload_n c_22_32 rfl ?_
                                                                                                                                                                refine n_ialoadV c_22_33 sc_6.n rfl rfl rfl (by omega) (t_6k (z := 0) hS324 (by omega) (by omega) (by omega)) ?_
                                                                                                                                                                intro z329 ez329 f330
                                                                                                                                                                refine n_istore (L2 := [some (2, 44), some (2, 4), some (0, (((((((((((((((((((((((((27 - 1) + (-1)) + (-1)) + (-1)) + (-1)) + (-1)) + (-1)) + (-1)) + (-1)) + (-1)) + (-1)) + (-1)) + (-1)) + (-1)) + (-1)) + (-1)) + (-1)) + (-1)) + (-1)) + (-1)) + (-1)) + (-1)) + (-1)) + (-1)) + (-1))), some (0, z327), some (0, z329), some (0, z318)]) c_22_34 rfl rfl ?_
                                                                                                                                                                refine n_aload_n c_22_36 rfl ?_
                                                                                                                                                                refine n_getR c_22_37 sc_4.n rfl rfl rfl r_4_4 ?_
                                                                                                                                                                refine n_iload_n c_22_40 rfl ?_
                                                                                                                                                                refine n_ialoadV c_22_41 sc_7.n rfl rfl rfl (by omega) (t_7k (z := 2) hS324 (by omega) (by omega) (by omega)) ?_
                                                                                                                                                                intro z331 ez331 f332
                                                                                                                                                                refine n_istore (L2 := [some (2, 44), some (2, 4), some (0, (((((((((((((((((((((((((27 - 1) + (-1)) + (-1)) + (-1)) + (-1)) + (-1)) + (-1)) + (-1)) + (-1)) + (-1)) + (-1)) + (-1)) + (-1)) + (-1)) + (-1)) + (-1)) + (-1)) + (-1)) + (-1)) + (-1)) + (-1)) + (-1)) + (-1)) + (-1)) + (-1))), some (0, z327), some (0, z329), some (0, z331)]) c_22_42 rfl rfl ?_
                                                                                                                                                                refine n_iload_n c_22_44 rfl ?_
                                                                                                                                                                refine n_iload c_22_45 rfl ?_
                                                                                                                                                                refine n_if2_eq c_22_47 (by omega) (by omega) ?_ ?_
                                                                                                                                                                · intro h333
                                                                                                                                                                  refine n_aload_n c_22_56 rfl ?_
                                                                                                                                                                  refine n_getR c_22_57 sc_44.n rfl rfl rfl r_44_4 ?_
                                                                                                                                                                  refine n_iload_n c_22_60 rfl ?_
                                                                                                                                                                  refine n_iload_n c_22_61 rfl ?_
                                                                                                                                                                  refine n_iastoreV hS324 c_22_62 sc_45.n rfl (by omega) (w_45 (by omega) (by omega)) ?_
                                                                                                                                                                  intro M334 eM334 hS334
                                                                                                                                                                  have g334_0 : M334 44 0 = M324 44 0 := by rw [eM334]; exact nu_a (by omega)
                                                                                                                                                                  have g334_1 : M334 44 5 = M324 44 5 := by rw [eM334]; exact nu_a (by omega)
                                                                                                                                                                  have g334_2 : M334 44 2 = M324 44 2 := by rw [eM334]; exact nu_a (by omega)
                                                                                                                                                                  refine n_goto c_22_63 ?_
                                                                                                                                                                  refine n_iinc (L2 := [some (2, 44), some (2, 4), some (0, ((((((((((((((((((((((((((27 - 1) + (-1)) + (-1)) + (-1)) + (-1)) + (-1)) + (-1)) + (-1)) + (-1)) + (-1)) + (-1)) + (-1)) + (-1)) + (-1)) + (-1)) + (-1)) + (-1)) + (-1)) + (-1)) + (-1)) + (-1)) + (-1)) + (-1)) + (-1)) + (-1)) + (-1))), some (0, z327), some (0, z329), some (0, z331)]) c_22_101 rfl rfl rfl ?_
                                                                                                                                                                  refine n_goto c_22_104 ?_
                                                                                                                                                                  refine n_iload_n c_22_17 rfl ?_
                                                                                                                                                                  refine n_if0_lt c_22_18 (by omega) ?_ ?_
                                                                                                                                                                  · intro h335
                                                                                                                                                                    exfalso; omega
                                                                                                                                                                  · intro h336
                                                                                                                                                                    refine n_aload_n c_22_21 rfl ?_
                                                                                                                                                                    refine n_getR c_22_22 sc_4.n rfl rfl rfl r_4_2 ?_
                                                                                                                                                                    refine n_iload_n c_22_25 rfl ?_
                                                                                                                                                                    refine n_ialoadV c_22_26 sc_5.n rfl rfl rfl (by omega) (t_5k (z := 0) hS334 (by omega) (by omega) (by omega)) ?_
                                                                                                                                                                    intro z337 ez337 f338
                                                                                                                                                                    refine n_istore_n (L2 := [some (2, 44), some (2, 4), some (0, ((((((((((((((((((((((((((27 - 1) + (-1)) + (-1)) + (-1)) + (-1)) + (-1)) + (-1)) + (-1)) + (-1)) + (-1)) + (-1)) + (-1)) + (-1)) + (-1)) + (-1)) + (-1)) + (-1)) + (-1)) + (-1)) + (-1)) + (-1)) + (-1)) + (-1)) + (-1)) + (-1)) + (-1))), some (0, z337), some (0, z329), some (0, z331)]) c_22_27 rfl rfl ?_
                                                                                                                                                                    refine n_aload_n c_22_28 rfl ?_
                                                                                                                                                                    refine n_getR c_22_29 sc_4.n rfl rfl rfl r_4_3 ?_
                                                                                                                                                                    refine n_iload_n c_22_32 rfl ?_
                                                                                                                                                                    refine n_ialoadV c_22_33 sc_6.n rfl rfl rfl (by omega) (t_6k (z := 0) hS334 (by omega) (by omega) (by omega)) ?_
                                                                                                                                                                    intro z339 ez339 f340
                                                                                                                                                                    refine n_istore (L2 := [some (2, 44), some (2, 4), some (0, ((((((((((((((((((((((((((27 - 1) + (-1)) + (-1)) + (-1)) + (-1)) + (-1)) + (-1)) + (-1)) + (-1)) + (-1)) + (-1)) + (-1)) + (-1)) + (-1)) + (-1)) + (-1)) + (-1)) + (-1)) + (-1)) + (-1)) + (-1)) + (-1)) + (-1)) + (-1)) + (-1)) + (-1))), some (0, z337), some (0, z339), some (0, z331)]) c_22_34 rfl rfl ?_
                                                                                                                                                                    refine n_aload_n c_22_36 rfl ?_
                                                                                                                                                                    refine n_getR c_22_37 sc_4.n rfl rfl rfl r_4_4 ?_
                                                                                                                                                                    refine n_iload_n c_22_40 rfl ?_
                                                                                                                                                                    refine n_ialoadV c_22_41 sc_7.n rfl rfl rfl (by omega) (t_7k (z := 1) hS334 (by omega) (by omega) (by omega)) ?_
                                                                                                                                                                    intro z341 ez341 f342
                                                                                                                                                                    refine n_istore (L2 := [some (2, 44), some (2, 4), some (0, ((((((((((((((((((((((((((27 - 1) + (-1)) + (-1)) + (-1)) + (-1)) + (-1)) + (-1)) + (-1)) + (-1)) + (-1)) + (-1)) + (-1)) + (-1)) + (-1)) + (-1)) + (-1)) + (-1)) + (-1)) + (-1)) + (-1)) + (-1)) + (-1)) + (-1)) + (-1)) + (-1)) + (-1))), some (0, z337), some (0, z339), some (0, z341)]) c_22_42 rfl rfl ?_
                                                                                                                                                                    refine n_iload_n c_22_44 rfl ?_
                                                                                                                                                                    refine n_iload c_22_45 rfl ?_
                                                                                                                                                                    refine n_if2_eq c_22_47 (by omega) (by omega) ?_ ?_
                                                                                                                                                                    · intro h343
                                                                                                                                                                      refine n_aload_n c_22_56 rfl ?_
                                                                                                                                                                      refine n_getR c_22_57 sc_44.n rfl rfl rfl r_44_4 ?_
                                                                                                                                                                      refine n_iload_n c_22_60 rfl ?_
                                                                                                                                                                      refine n_iload_n c_22_61 rfl ?_
                                                                                                                                                                      refine n_iastoreV hS334 c_22_62 sc_45.n rfl (by omega) (w_45 (by omega) (by omega)) ?_
                                                                                                                                                                      intro M344 eM344 hS344
                                                                                                                                                                      have g344_0 : M344 44 0 = M334 44 0 := by rw [eM344]; exact nu_a (by omega)
                                                                                                                                                                      have g344_1 : M344 44 5 = M334 44 5 := by rw [eM344]; exact nu_a (by omega)
                                                                                                                                                                      have g344_2 : M344 44 2 = M334 44 2 := by rw [eM344]; exact nu_a (by omega)
                                                                                                                                                                      refine n_goto c_22_63 ?_
                                                                                                                                                                      refine n_iinc (L2 := [some (2, 44), some (2, 4), some (0, (((((((((((((((((((((((((((27 - 1) + (-1)) + (-1)) + (-1)) + (-1)) + (-1)) + (-1)) + (-1)) + (-1)) + (-1)) + (-1)) + (-1)) + (-1)) + (-1)) + (-1)) + (-1)) + (-1)) + (-1)) + (-1)) + (-1)) + (-1)) + (-1)) + (-1)) + (-1)) + (-1)) + (-1)) + (-1))), some (0, z337), some (0, z339), some (0, z341)]) c_22_101 rfl rfl rfl ?_
                                                                                                                                                                      refine n_goto c_22_104 ?_
                                                                                                                                                                      refine n_iload_n c_22_17 rfl ?_
                                                                                                                                                                      refine n_if0_lt c_22_18 (by omega) ?_ ?_
                                                                                                                                                                      · intro h345
                                                                                                                                                                        exfalso; omega
                                                                                                                                                                      · intro h346
                                                                                                                                                                        refine n_aload_n c_22_21 rfl ?_
                                                                                                                                                                        refine n_getR c_22_22 sc_4.n rfl rfl rfl r_4_2 ?_
                                                                                                                                                                        refine n_iload_n c_22_25 rfl ?_
                                                                                                                                                                        refine n_ialoadV c_22_26 sc_5.n rfl rfl rfl (by omega) (t_5k (z := 0) hS344 (by omega) (by omega) (by omega)) ?_
                                                                                                                                                                        intro z347 ez347 f348
                                                                                                                                                                        refine n_istore_n (L2 := [some (2, 44), some (2, 4), some (0, (((((((((((((((((((((((((((27 - 1) + (-1)) + (-1)) + (-1)) + (-1)) + (-1)) + (-1)) + (-1)) + (-1)) + (-1)) + (-1)) + (-1)) + (-1)) + (-1)) + (-1)) + (-1)) + (-1)) + (-1)) + (-1)) + (-1)) + (-1)) + (-1)) + (-1)) + (-1)) + (-1)) + (-1)) + (-1))), some (0, z347), some (0, z339), some (0, z341)]) c_22_27 rfl rfl ?_
                                                                                                                                                                        refine n_aload_n c_22_28 rfl ?_
                                                                                                                                                                        refine n_getR c_22_29 sc_4.n rfl rfl rfl r_4_3 ?_
                                                                                                                                                                        refine n_iload_n c_22_32 rfl ?_
                                                                                                                                                                        refine n_ialoadV c_22_33 sc_6.n rfl rfl rfl (by omega) (t_6k (z := 0) hS344 (by omega) (by omega) (by omega)) ?_
                                                                                                                                                                        intro z349 ez349 f350
                                                                                                                                                                        refine n_istore (L2 := [some (2, 44), some (2, 4), some (0, (((((((((((((((((((((((((((27 - 1) + (-1)) + (-1)) + (-1)) + (-1)) + (-1)) + (-1)) + (-1)) + (-1)) + (-1)) + (-1)) + (-1)) + (-1)) + (-1)) + (-1)) + (-1)) + (-1)) + (-1)) + (-1)) + (-1)) + (-1)) + (-1)) + (-1)) + (-1)) + (-1)) + (-1)) + (-1))), some (0, z347), some (0, z349), some (0, z341)]) c_22_34 rfl rfl ?_
                                                                                                                                                                        refine n_aload_n c_22_36 rfl ?_
                                                                                                                                                                        refine n_getR c_22_37 sc_4.n rfl rfl rfl r_4_4 ?_
                                                                                                                                                                        refine n_iload_n c_22_40 rfl ?_
                                                                                                                                                                        refine n_ialoadV c_22_41 sc_7.n rfl rfl rfl (by omega) (t_7k (z := 0) hS344 (by omega) (by omega) (by omega)) ?_
                                                                                                                                                                        intro z351 ez351 f352
                                                                                                                                                                        refine n_istore (L2 := [some (2, 44), some (2, 4), some (0, (((((((((((((((((((((((((((27 - 1) + (-1)) + (-1)) + (-1)) + (-1)) + (-1)) + (-1)) + (-1)) + (-1)) + (-1)) + (-1)) + (-1)) + (-1)) + (-1)) + (-1)) + (-1)) + (-1)) + (-1)) + (-1)) + (-1)) + (-1)) + (-1)) + (-1)) + (-1)) + (-1)) + (-1)) + (-1))), some (0, z347), some (0, z349), some (0, z351)]) c_22_42 rfl rfl ?_
                                                                                                                                                                        refine n_iload_n c_22_44 rfl ?_
                                                                                                                                                                        refine n_iload c_22_45 rfl ?_
                                                                                                                                                                        refine n_if2_eq c_22_47 (by omega) (by omega) ?_ ?_
                                                                                                                                                                        · intro h353
                                                                                                                                                                          refine n_aload_n c_22_56 rfl ?_
                                                                                                                                                                          refine n_getR c_22_57 sc_44.n rfl rfl rfl r_44_4 ?_
                                                                                                                                                                          refine n_iload_n c_22_60 rfl ?_
                                                                                                                                                                          refine n_iload_n c_22_61 rfl ?_
                                                                                                                                                                          refine n_iastoreV hS344 c_22_62 sc_45.n rfl (by omega) (w_45 (by omega) (by omega)) ?_
                                                                                                                                                                          intro M354 eM354 hS354
                                                                                                                                                                          have g354_0 : M354 44 0 = M344 44 0 := by rw [eM354]; exact nu_a (by omega)
                                                                                                                                                                          have g354_1 : M354 44 5 = M344 44 5 := by rw [eM354]; exact nu_a (by omega)
                                                                                                                                                                          have g354_2 : M354 44 2 = M344 44 2 := by rw [eM354]; exact nu_a (by omega)
                                                                                                                                                                          refine n_goto c_22_63 ?_
                                                                                                                                                                          refine n_iinc (L2 := [some (2, 44), some (2, 4), some (0, ((((((((((((((((((((((((((((27 - 1) + (-1)) + (-1)) + (-1)) + (-1)) + (-1)) + (-1)) + (-1)) + (-1)) + (-1)) + (-1)) + (-1)) + (-1)) + (-1)) + (-1)) + (-1)) + (-1)) + (-1)) + (-1)) + (-1)) + (-1)) + (-1)) + (-1)) + (-1)) + (-1)) + (-1)) + (-1)) + (-1))), some (0, z347), some (0, z349), some (0, z351)]) c_22_101 rfl rfl rfl ?_
                                                                                                                                                                          refine n_goto c_22_104 ?_
                                                                                                                                                                          refine n_iload_n c_22_17 rfl ?_
                                                                                                                                                                          refine n_if0_lt c_22_18 (by omega) ?_ ?_
                                                                                                                                                                          · intro h355
                                                                                                                                                                            exact n_rV c_22_107 rfl hS354
                                                                                                                                                                          · intro h356
                                                                                                                                                                            exfalso; omega
                                                                                                                                                                        · intro h357
                                                                                                                                                                          exfalso; omega
                                                                                                                                                                    · intro h358
                                                                                                                                                                      exfalso; omega
                                                                                                                                                                · intro h359
                                                                                                                                                                  exfalso; omega
                                                                                                                                                    · intro h360
                                                                                                                                                      exfalso; omega
                                                                                                                                              · intro h361
                                                                                                                                                exfalso; omega
                                                                                                                                            · intro h362
                                                                                                                                              exfalso; omega
                                                                                                                                · intro h363
                                                                                                                                  exfalso; omega
                                                                                                                              · intro h364
                                                                                                                                exfalso; omega
                                                                                                                      · intro h365
                                                                                                                        exfalso; omega
                                                                                                              · intro h366
                                                                                                                exfalso; omega
                                                                                                  · intro h367
                                                                                                    exfalso; omega
                                                                                                · intro h368
                                                                                                  exfalso; omega
                                                                                          · intro h369
                                                                                            exfalso; omega
                                                                                      · intro h370
                                                                                        exfalso; omega
                                                                                  · intro h371
                                                                                    exfalso; omega
                                                                              · intro h372
                                                                                exfalso; omega
                                                                            · intro h373
                                                                              exfalso; omega
                                                              · intro h374
                                                                exfalso; omega
                                                      · intro h375
                                                        exfalso; omega
                                                · intro h376
                                                  exfalso; omega
                                              · intro h377
                                                exfalso; omega
                                  · intro h378
                                    exfalso; omega
                                · intro h379
                                  exfalso; omega
                        · intro h380
                          exfalso; omega
            · intro h381
              exfalso; omega
        · intro h382
          exfalso; omega
    · intro h383
      exfalso; omega

set_option maxHeartbeats 4000000 in
theorem beSum_3 {xs : List Int32} {e : Nat} {ac : Int} {M0 M : nM} (hS : Sf 3 ac M0 M)  : nW xs (e + 1) 23 0 [some (2, 44), some (2, 4), none, none] [] M (nPV fun M1 => Sf 3 ac M0 M1) := by
  have hd : (3 : Int) = 2 ∨ (3 : Int) = 3 := by decide
  have hac := hS.2.2.2.2
  refine n_aload_n c_23_0 rfl ?_
  refine n_iconst c_23_1 ?_
  refine n_aload_n c_23_2 rfl ?_
  refine n_getV (bi := 0) c_23_3 sc_4.n rfl rfl rfl (t_4_0 hS) ?_
  intro z1 ez1 f2
  obtain rfl : z1 = 3 := by omega
  refine n_aload_n c_23_6 rfl ?_
  refine n_v3V c_23_7 rfl sc_44.n rfl rfl rfl rfl (begin_3 (n := 3) (c := 3) hS (by omega) (by omega)) ?_
  intro  M3 hP4
  obtain ⟨hS3, f4p0⟩ := hP4
  refine n_iconst c_23_10 ?_
  refine n_istore_n (L2 := [some (2, 44), some (2, 4), some (0, 0), none]) c_23_11 rfl rfl ?_
  refine n_iload_n c_23_12 rfl ?_
  refine n_aload_n c_23_13 rfl ?_
  refine n_getV (bi := 1) c_23_14 sc_4.n rfl rfl rfl (t_4_1 hS3) ?_
  intro z5 ez5 f6
  obtain rfl : z5 = 27 := by omega
  refine n_if2_ge c_23_17 (by omega) (by omega) ?_ ?_
  · intro h7
    exfalso; omega
  · intro h8
    refine n_aload_n c_23_20 rfl ?_
    refine n_getR c_23_21 sc_4.n rfl rfl rfl r_4_2 ?_
    refine n_iload_n c_23_24 rfl ?_
    refine n_ialoadV c_23_25 sc_5.n rfl rfl rfl (by omega) (t_5k (z := 0) hS3 (by omega) (by omega) (by omega)) ?_
    intro z9 ez9 f10
    refine n_aload_n c_23_26 rfl ?_
    refine n_getR c_23_27 sc_4.n rfl rfl rfl r_4_3 ?_
    refine n_iload_n c_23_30 rfl ?_
    refine n_ialoadV c_23_31 sc_6.n rfl rfl rfl (by omega) (t_6k (z := 0) hS3 (by omega) (by omega) (by omega)) ?_
    intro z11 ez11 f12
    refine n_isub c_23_32 rfl ?_
    refine n_aload_n c_23_33 rfl ?_
    refine n_getR c_23_34 sc_4.n rfl rfl rfl r_4_4 ?_
    refine n_iload_n c_23_37 rfl ?_
    refine n_ialoadV c_23_38 sc_7.n rfl rfl rfl (by omega) (t_7k (z := 0) hS3 (by omega) (by omega) (by omega)) ?_
    intro z13 ez13 f14
    refine n_iadd c_23_39 rfl ?_
    refine n_istore_n (L2 := [some (2, 44), some (2, 4), some (0, 0), some (0, ((z9 - z11) + z13))]) c_23_40 rfl rfl ?_
    refine n_aload_n c_23_41 rfl ?_
    refine n_getR c_23_42 sc_44.n rfl rfl rfl r_44_4 ?_
    refine n_iload_n c_23_45 rfl ?_
    refine n_iload_n c_23_46 rfl ?_
    refine n_aload_n c_23_47 rfl ?_
    refine n_getV (bi := 5) c_23_48 sc_44.n rfl rfl rfl (t_44_5 hS3) ?_
    intro z15 ez15 f16
    obtain rfl : z15 = 3 := by omega
    refine n_iconst c_23_51 ?_
    refine n_if2_ne c_23_52 (by omega) (by omega) ?_ ?_
    · intro h17
      refine n_iconst c_23_59 ?_
      have hcst : (((z9 - z11) + z13) : Int) = 0 := by omega
      rw [hcst]
      refine n_s2I c_23_60 rfl rfl rfl rfl (fmod3_3  hS3 ) ?_
      intro z18 M19 hP20
      obtain ⟨eM, f20⟩ := hP20
      subst eM
      obtain rfl : z18 = 0 := by omega
      refine n_iastoreV hS3 c_23_63 sc_45.n rfl (by omega) (w_45 (by omega) (by omega)) ?_
      intro M21 eM21 hS21
      have g21_0 : M21 44 2 = M3 44 2 := by rw [eM21]; exact nu_a (by omega)
      have g21_1 : M21 44 0 = M3 44 0 := by rw [eM21]; exact nu_a (by omega)
      have g21_2 : M21 44 5 = M3 44 5 := by rw [eM21]; exact nu_a (by omega)
      refine n_iinc (L2 := [some (2, 44), some (2, 4), some (0, (0 + 1)), some (0, 0)]) c_23_64 rfl rfl rfl ?_
      refine n_goto c_23_67 ?_
      refine n_iload_n c_23_12 rfl ?_
      refine n_aload_n c_23_13 rfl ?_
      refine n_getV (bi := 1) c_23_14 sc_4.n rfl rfl rfl (t_4_1 hS21) ?_
      intro z22 ez22 f23
      obtain rfl : z22 = 27 := by omega
      refine n_if2_ge c_23_17 (by omega) (by omega) ?_ ?_
      · intro h24
        exfalso; omega
      · intro h25
        refine n_aload_n c_23_20 rfl ?_
        refine n_getR c_23_21 sc_4.n rfl rfl rfl r_4_2 ?_
        refine n_iload_n c_23_24 rfl ?_
        refine n_ialoadV c_23_25 sc_5.n rfl rfl rfl (by omega) (t_5k (z := 0) hS21 (by omega) (by omega) (by omega)) ?_
        intro z26 ez26 f27
        refine n_aload_n c_23_26 rfl ?_
        refine n_getR c_23_27 sc_4.n rfl rfl rfl r_4_3 ?_
        refine n_iload_n c_23_30 rfl ?_
        refine n_ialoadV c_23_31 sc_6.n rfl rfl rfl (by omega) (t_6k (z := 0) hS21 (by omega) (by omega) (by omega)) ?_
        intro z28 ez28 f29
        refine n_isub c_23_32 rfl ?_
        refine n_aload_n c_23_33 rfl ?_
        refine n_getR c_23_34 sc_4.n rfl rfl rfl r_4_4 ?_
        refine n_iload_n c_23_37 rfl ?_
        refine n_ialoadV c_23_38 sc_7.n rfl rfl rfl (by omega) (t_7k (z := 1) hS21 (by omega) (by omega) (by omega)) ?_
        intro z30 ez30 f31
        refine n_iadd c_23_39 rfl ?_
        refine n_istore_n (L2 := [some (2, 44), some (2, 4), some (0, (0 + 1)), some (0, ((z26 - z28) + z30))]) c_23_40 rfl rfl ?_
        refine n_aload_n c_23_41 rfl ?_
        refine n_getR c_23_42 sc_44.n rfl rfl rfl r_44_4 ?_
        refine n_iload_n c_23_45 rfl ?_
        refine n_iload_n c_23_46 rfl ?_
        refine n_aload_n c_23_47 rfl ?_
        refine n_getV (bi := 5) c_23_48 sc_44.n rfl rfl rfl (t_44_5 hS21) ?_
        intro z32 ez32 f33
        obtain rfl : z32 = 3 := by omega
        refine n_iconst c_23_51 ?_
        refine n_if2_ne c_23_52 (by omega) (by omega) ?_ ?_
        · intro h34
          refine n_iconst c_23_59 ?_
          have hcst : (((z26 - z28) + z30) : Int) = 1 := by omega
          rw [hcst]
          refine n_s2I c_23_60 rfl rfl rfl rfl (fmod4_3  hS21 ) ?_
          intro z35 M36 hP37
          obtain ⟨eM, f37⟩ := hP37
          subst eM
          obtain rfl : z35 = 1 := by omega
          refine n_iastoreV hS21 c_23_63 sc_45.n rfl (by omega) (w_45 (by omega) (by omega)) ?_
          intro M38 eM38 hS38
          have g38_0 : M38 44 2 = M21 44 2 := by rw [eM38]; exact nu_a (by omega)
          have g38_1 : M38 44 0 = M21 44 0 := by rw [eM38]; exact nu_a (by omega)
          have g38_2 : M38 44 5 = M21 44 5 := by rw [eM38]; exact nu_a (by omega)
          refine n_iinc (L2 := [some (2, 44), some (2, 4), some (0, ((0 + 1) + 1)), some (0, 1)]) c_23_64 rfl rfl rfl ?_
          refine n_goto c_23_67 ?_
          refine n_iload_n c_23_12 rfl ?_
          refine n_aload_n c_23_13 rfl ?_
          refine n_getV (bi := 1) c_23_14 sc_4.n rfl rfl rfl (t_4_1 hS38) ?_
          intro z39 ez39 f40
          obtain rfl : z39 = 27 := by omega
          refine n_if2_ge c_23_17 (by omega) (by omega) ?_ ?_
          · intro h41
            exfalso; omega
          · intro h42
            refine n_aload_n c_23_20 rfl ?_
            refine n_getR c_23_21 sc_4.n rfl rfl rfl r_4_2 ?_
            refine n_iload_n c_23_24 rfl ?_
            refine n_ialoadV c_23_25 sc_5.n rfl rfl rfl (by omega) (t_5k (z := 0) hS38 (by omega) (by omega) (by omega)) ?_
            intro z43 ez43 f44
            refine n_aload_n c_23_26 rfl ?_
            refine n_getR c_23_27 sc_4.n rfl rfl rfl r_4_3 ?_
            refine n_iload_n c_23_30 rfl ?_
            refine n_ialoadV c_23_31 sc_6.n rfl rfl rfl (by omega) (t_6k (z := 0) hS38 (by omega) (by omega) (by omega)) ?_
            intro z45 ez45 f46
            refine n_isub c_23_32 rfl ?_
            refine n_aload_n c_23_33 rfl ?_
            refine n_getR c_23_34 sc_4.n rfl rfl rfl r_4_4 ?_
            refine n_iload_n c_23_37 rfl ?_
            refine n_ialoadV c_23_38 sc_7.n rfl rfl rfl (by omega) (t_7k (z := 2) hS38 (by omega) (by omega) (by omega)) ?_
            intro z47 ez47 f48
            refine n_iadd c_23_39 rfl ?_
            refine n_istore_n (L2 := [some (2, 44), some (2, 4), some (0, ((0 + 1) + 1)), some (0, ((z43 - z45) + z47))]) c_23_40 rfl rfl ?_
            refine n_aload_n c_23_41 rfl ?_
            refine n_getR c_23_42 sc_44.n rfl rfl rfl r_44_4 ?_
            refine n_iload_n c_23_45 rfl ?_
            refine n_iload_n c_23_46 rfl ?_
            refine n_aload_n c_23_47 rfl ?_
            refine n_getV (bi := 5) c_23_48 sc_44.n rfl rfl rfl (t_44_5 hS38) ?_
            intro z49 ez49 f50
            obtain rfl : z49 = 3 := by omega
            refine n_iconst c_23_51 ?_
            refine n_if2_ne c_23_52 (by omega) (by omega) ?_ ?_
            · intro h51
              refine n_iconst c_23_59 ?_
              have hcst : (((z43 - z45) + z47) : Int) = 2 := by omega
              rw [hcst]
              refine n_s2I c_23_60 rfl rfl rfl rfl (fmod5_3  hS38 ) ?_
              intro z52 M53 hP54
              obtain ⟨eM, f54⟩ := hP54
              subst eM
              obtain rfl : z52 = 2 := by omega
              refine n_iastoreV hS38 c_23_63 sc_45.n rfl (by omega) (w_45 (by omega) (by omega)) ?_
              intro M55 eM55 hS55
              have g55_0 : M55 44 2 = M38 44 2 := by rw [eM55]; exact nu_a (by omega)
              have g55_1 : M55 44 0 = M38 44 0 := by rw [eM55]; exact nu_a (by omega)
              have g55_2 : M55 44 5 = M38 44 5 := by rw [eM55]; exact nu_a (by omega)
              refine n_iinc (L2 := [some (2, 44), some (2, 4), some (0, (((0 + 1) + 1) + 1)), some (0, 2)]) c_23_64 rfl rfl rfl ?_
              refine n_goto c_23_67 ?_
              refine n_iload_n c_23_12 rfl ?_
              refine n_aload_n c_23_13 rfl ?_
              refine n_getV (bi := 1) c_23_14 sc_4.n rfl rfl rfl (t_4_1 hS55) ?_
              intro z56 ez56 f57
              obtain rfl : z56 = 27 := by omega
              refine n_if2_ge c_23_17 (by omega) (by omega) ?_ ?_
              · intro h58
                exfalso; omega
              · intro h59
                refine n_aload_n c_23_20 rfl ?_
                refine n_getR c_23_21 sc_4.n rfl rfl rfl r_4_2 ?_
                refine n_iload_n c_23_24 rfl ?_
                refine n_ialoadV c_23_25 sc_5.n rfl rfl rfl (by omega) (t_5k (z := 0) hS55 (by omega) (by omega) (by omega)) ?_
                intro z60 ez60 f61
                refine n_aload_n c_23_26 rfl ?_
                refine n_getR c_23_27 sc_4.n rfl rfl rfl r_4_3 ?_
                refine n_iload_n c_23_30 rfl ?_
                refine n_ialoadV c_23_31 sc_6.n rfl rfl rfl (by omega) (t_6k (z := 1) hS55 (by omega) (by omega) (by omega)) ?_
                intro z62 ez62 f63
                refine n_isub c_23_32 rfl ?_
                refine n_aload_n c_23_33 rfl ?_
                refine n_getR c_23_34 sc_4.n rfl rfl rfl r_4_4 ?_
                refine n_iload_n c_23_37 rfl ?_
                refine n_ialoadV c_23_38 sc_7.n rfl rfl rfl (by omega) (t_7k (z := 0) hS55 (by omega) (by omega) (by omega)) ?_
                intro z64 ez64 f65
                refine n_iadd c_23_39 rfl ?_
                refine n_istore_n (L2 := [some (2, 44), some (2, 4), some (0, (((0 + 1) + 1) + 1)), some (0, ((z60 - z62) + z64))]) c_23_40 rfl rfl ?_
                refine n_aload_n c_23_41 rfl ?_
                refine n_getR c_23_42 sc_44.n rfl rfl rfl r_44_4 ?_
                refine n_iload_n c_23_45 rfl ?_
                refine n_iload_n c_23_46 rfl ?_
                refine n_aload_n c_23_47 rfl ?_
                refine n_getV (bi := 5) c_23_48 sc_44.n rfl rfl rfl (t_44_5 hS55) ?_
                intro z66 ez66 f67
                obtain rfl : z66 = 3 := by omega
                refine n_iconst c_23_51 ?_
                refine n_if2_ne c_23_52 (by omega) (by omega) ?_ ?_
                · intro h68
                  refine n_iconst c_23_59 ?_
                  have hcst : (((z60 - z62) + z64) : Int) = (-1) := by omega
                  rw [hcst]
                  refine n_s2I c_23_60 rfl rfl rfl rfl (fmod2_3  hS55 ) ?_
                  intro z69 M70 hP71
                  obtain ⟨eM, f71⟩ := hP71
                  subst eM
                  obtain rfl : z69 = 2 := by omega
                  refine n_iastoreV hS55 c_23_63 sc_45.n rfl (by omega) (w_45 (by omega) (by omega)) ?_
                  intro M72 eM72 hS72
                  have g72_0 : M72 44 2 = M55 44 2 := by rw [eM72]; exact nu_a (by omega)
                  have g72_1 : M72 44 0 = M55 44 0 := by rw [eM72]; exact nu_a (by omega)
                  have g72_2 : M72 44 5 = M55 44 5 := by rw [eM72]; exact nu_a (by omega)
                  refine n_iinc (L2 := [some (2, 44), some (2, 4), some (0, ((((0 + 1) + 1) + 1) + 1)), some (0, (-1))]) c_23_64 rfl rfl rfl ?_
                  refine n_goto c_23_67 ?_
                  refine n_iload_n c_23_12 rfl ?_
                  refine n_aload_n c_23_13 rfl ?_
                  refine n_getV (bi := 1) c_23_14 sc_4.n rfl rfl rfl (t_4_1 hS72) ?_
                  intro z73 ez73 f74
                  obtain rfl : z73 = 27 := by omega
                  refine n_if2_ge c_23_17 (by omega) (by omega) ?_ ?_
                  · intro h75
                    exfalso; omega
                  · intro h76
                    refine n_aload_n c_23_20 rfl ?_
                    refine n_getR c_23_21 sc_4.n rfl rfl rfl r_4_2 ?_
                    refine n_iload_n c_23_24 rfl ?_
                    refine n_ialoadV c_23_25 sc_5.n rfl rfl rfl (by omega) (t_5k (z := 0) hS72 (by omega) (by omega) (by omega)) ?_
                    intro z77 ez77 f78
                    refine n_aload_n c_23_26 rfl ?_
                    refine n_getR c_23_27 sc_4.n rfl rfl rfl r_4_3 ?_
                    refine n_iload_n c_23_30 rfl ?_
                    refine n_ialoadV c_23_31 sc_6.n rfl rfl rfl (by omega) (t_6k (z := 1) hS72 (by omega) (by omega) (by omega)) ?_
                    intro z79 ez79 f80
                    refine n_isub c_23_32 rfl ?_
                    refine n_aload_n c_23_33 rfl ?_
                    refine n_getR c_23_34 sc_4.n rfl rfl rfl r_4_4 ?_
                    refine n_iload_n c_23_37 rfl ?_
                    refine n_ialoadV c_23_38 sc_7.n rfl rfl rfl (by omega) (t_7k (z := 1) hS72 (by omega) (by omega) (by omega)) ?_
                    intro z81 ez81 f82
                    refine n_iadd c_23_39 rfl ?_
                    refine n_istore_n (L2 := [some (2, 44), some (2, 4), some (0, ((((0 + 1) + 1) + 1) + 1)), some (0, ((z77 - z79) + z81))]) c_23_40 rfl rfl ?_
                    refine n_aload_n c_23_41 rfl ?_
                    refine n_getR c_23_42 sc_44.n rfl rfl rfl r_44_4 ?_
                    refine n_iload_n c_23_45 rfl ?_
                    refine n_iload_n c_23_46 rfl ?_
                    refine n_aload_n c_23_47 rfl ?_
                    refine n_getV (bi := 5) c_23_48 sc_44.n rfl rfl rfl (t_44_5 hS72) ?_
                    intro z83 ez83 f84
                    obtain rfl : z83 = 3 := by omega
                    refine n_iconst c_23_51 ?_
                    refine n_if2_ne c_23_52 (by omega) (by omega) ?_ ?_
                    · intro h85
                      refine n_iconst c_23_59 ?_
                      have hcst : (((z77 - z79) + z81) : Int) = 0 := by omega
                      rw [hcst]
                      refine n_s2I c_23_60 rfl rfl rfl rfl (fmod3_3  hS72 ) ?_
                      intro z86 M87 hP88
                      obtain ⟨eM, f88⟩ := hP88
                      subst eM
                      obtain rfl : z86 = 0 := by omega
                      refine n_iastoreV hS72 c_23_63 sc_45.n rfl (by omega) (w_45 (by omega) (by omega)) ?_
                      intro M89 eM89 hS89
                      have g89_0 : M89 44 2 = M72 44 2 := by rw [eM89]; exact nu_a (by omega)
                      have g89_1 : M89 44 0 = M72 44 0 := by rw [eM89]; exact nu_a (by omega)
                      have g89_2 : M89 44 5 = M72 44 5 := by rw [eM89]; exact nu_a (by omega)
                      refine n_iinc (L2 := [some (2, 44), some (2, 4), some (0, (((((0 + 1) + 1) + 1) + 1) + 1)), some (0, 0)]) c_23_64 rfl rfl rfl ?_
                      refine n_goto c_23_67 ?_
                      refine n_iload_n c_23_12 rfl ?_
                      refine n_aload_n c_23_13 rfl ?_
                      refine n_getV (bi := 1) c_23_14 sc_4.n rfl rfl rfl (t_4_1 hS89) ?_
                      intro z90 ez90 f91
                      obtain rfl : z90 = 27 := by omega
                      refine n_if2_ge c_23_17 (by omega) (by omega) ?_ ?_
                      · intro h92
                        exfalso; omega
                      · intro h93
                        refine n_aload_n c_23_20 rfl ?_
                        refine n_getR c_23_21 sc_4.n rfl rfl rfl r_4_2 ?_
                        refine n_iload_n c_23_24 rfl ?_
                        refine n_ialoadV c_23_25 sc_5.n rfl rfl rfl (by omega) (t_5k (z := 0) hS89 (by omega) (by omega) (by omega)) ?_
                        intro z94 ez94 f95
                        refine n_aload_n c_23_26 rfl ?_
                        refine n_getR c_23_27 sc_4.n rfl rfl rfl r_4_3 ?_
                        refine n_iload_n c_23_30 rfl ?_
                        refine n_ialoadV c_23_31 sc_6.n rfl rfl rfl (by omega) (t_6k (z := 1) hS89 (by omega) (by omega) (by omega)) ?_
                        intro z96 ez96 f97
                        refine n_isub c_23_32 rfl ?_
                        refine n_aload_n c_23_33 rfl ?_
                        refine n_getR c_23_34 sc_4.n rfl rfl rfl r_4_4 ?_
                        refine n_iload_n c_23_37 rfl ?_
                        refine n_ialoadV c_23_38 sc_7.n rfl rfl rfl (by omega) (t_7k (z := 2) hS89 (by omega) (by omega) (by omega)) ?_
                        intro z98 ez98 f99
                        refine n_iadd c_23_39 rfl ?_
                        refine n_istore_n (L2 := [some (2, 44), some (2, 4), some (0, (((((0 + 1) + 1) + 1) + 1) + 1)), some (0, ((z94 - z96) + z98))]) c_23_40 rfl rfl ?_
                        refine n_aload_n c_23_41 rfl ?_
                        refine n_getR c_23_42 sc_44.n rfl rfl rfl r_44_4 ?_
                        refine n_iload_n c_23_45 rfl ?_
                        refine n_iload_n c_23_46 rfl ?_
                        refine n_aload_n c_23_47 rfl ?_
                        refine n_getV (bi := 5) c_23_48 sc_44.n rfl rfl rfl (t_44_5 hS89) ?_
                        intro z100 ez100 f101
                        obtain rfl : z100 = 3 := by omega
                        refine n_iconst c_23_51 ?_
                        refine n_if2_ne c_23_52 (by omega) (by omega) ?_ ?_
                        · intro h102
                          refine n_iconst c_23_59 ?_
                          have hcst : (((z94 - z96) + z98) : Int) = 1 := by omega
                          rw [hcst]
                          refine n_s2I c_23_60 rfl rfl rfl rfl (fmod4_3  hS89 ) ?_
                          intro z103 M104 hP105
                          obtain ⟨eM, f105⟩ := hP105
                          subst eM
                          obtain rfl : z103 = 1 := by omega
                          refine n_iastoreV hS89 c_23_63 sc_45.n rfl (by omega) (w_45 (by omega) (by omega)) ?_
                          intro M106 eM106 hS106
                          have g106_0 : M106 44 2 = M89 44 2 := by rw [eM106]; exact nu_a (by omega)
                          have g106_1 : M106 44 0 = M89 44 0 := by rw [eM106]; exact nu_a (by omega)
                          have g106_2 : M106 44 5 = M89 44 5 := by rw [eM106]; exact nu_a (by omega)
                          refine n_iinc (L2 := [some (2, 44), some (2, 4), some (0, ((((((0 + 1) + 1) + 1) + 1) + 1) + 1)), some (0, 1)]) c_23_64 rfl rfl rfl ?_
                          refine n_goto c_23_67 ?_
                          refine n_iload_n c_23_12 rfl ?_
                          refine n_aload_n c_23_13 rfl ?_
                          refine n_getV (bi := 1) c_23_14 sc_4.n rfl rfl rfl (t_4_1 hS106) ?_
                          intro z107 ez107 f108
                          obtain rfl : z107 = 27 := by omega
                          refine n_if2_ge c_23_17 (by omega) (by omega) ?_ ?_
                          · intro h109
                            exfalso; omega
                          · intro h110
                            refine n_aload_n c_23_20 rfl ?_
                            refine n_getR c_23_21 sc_4.n rfl rfl rfl r_4_2 ?_
                            refine n_iload_n c_23_24 rfl ?_
                            refine n_ialoadV c_23_25 sc_5.n rfl rfl rfl (by omega) (t_5k (z := 0) hS106 (by omega) (by omega) (by omega)) ?_
                            intro z111 ez111 f112
                            refine n_aload_n c_23_26 rfl ?_
                            refine n_getR c_23_27 sc_4.n rfl rfl rfl r_4_3 ?_
                            refine n_iload_n c_23_30 rfl ?_
                            refine n_ialoadV c_23_31 sc_6.n rfl rfl rfl (by omega) (t_6k (z := 2) hS106 (by omega) (by omega) (by omega)) ?_
                            intro z113 ez113 f114
                            refine n_isub c_23_32 rfl ?_
                            refine n_aload_n c_23_33 rfl ?_
                            refine n_getR c_23_34 sc_4.n rfl rfl rfl r_4_4 ?_
                            refine n_iload_n c_23_37 rfl ?_
                            refine n_ialoadV c_23_38 sc_7.n rfl rfl rfl (by omega) (t_7k (z := 0) hS106 (by omega) (by omega) (by omega)) ?_
                            intro z115 ez115 f116
                            refine n_iadd c_23_39 rfl ?_
                            refine n_istore_n (L2 := [some (2, 44), some (2, 4), some (0, ((((((0 + 1) + 1) + 1) + 1) + 1) + 1)), some (0, ((z111 - z113) + z115))]) c_23_40 rfl rfl ?_
                            refine n_aload_n c_23_41 rfl ?_
                            refine n_getR c_23_42 sc_44.n rfl rfl rfl r_44_4 ?_
                            refine n_iload_n c_23_45 rfl ?_
                            refine n_iload_n c_23_46 rfl ?_
                            refine n_aload_n c_23_47 rfl ?_
                            refine n_getV (bi := 5) c_23_48 sc_44.n rfl rfl rfl (t_44_5 hS106) ?_
                            intro z117 ez117 f118
                            obtain rfl : z117 = 3 := by omega
                            refine n_iconst c_23_51 ?_
                            refine n_if2_ne c_23_52 (by omega) (by omega) ?_ ?_
                            · intro h119
                              refine n_iconst c_23_59 ?_
                              have hcst : (((z111 - z113) + z115) : Int) = (-2) := by omega
                              rw [hcst]
                              refine n_s2I c_23_60 rfl rfl rfl rfl (fmod1_3  hS106 ) ?_
                              intro z120 M121 hP122
                              obtain ⟨eM, f122⟩ := hP122
                              subst eM
                              obtain rfl : z120 = 1 := by omega
                              refine n_iastoreV hS106 c_23_63 sc_45.n rfl (by omega) (w_45 (by omega) (by omega)) ?_
                              intro M123 eM123 hS123
                              have g123_0 : M123 44 2 = M106 44 2 := by rw [eM123]; exact nu_a (by omega)
                              have g123_1 : M123 44 0 = M106 44 0 := by rw [eM123]; exact nu_a (by omega)
                              have g123_2 : M123 44 5 = M106 44 5 := by rw [eM123]; exact nu_a (by omega)
                              refine n_iinc (L2 := [some (2, 44), some (2, 4), some (0, (((((((0 + 1) + 1) + 1) + 1) + 1) + 1) + 1)), some (0, (-2))]) c_23_64 rfl rfl rfl ?_
                              refine n_goto c_23_67 ?_
                              refine n_iload_n c_23_12 rfl ?_
                              refine n_aload_n c_23_13 rfl ?_
                              refine n_getV (bi := 1) c_23_14 sc_4.n rfl rfl rfl (t_4_1 hS123) ?_
                              intro z124 ez124 f125
                              obtain rfl : z124 = 27 := by omega
                              refine n_if2_ge c_23_17 (by omega) (by omega) ?_ ?_
                              · intro h126
                                exfalso; omega
                              · intro h127
                                refine n_aload_n c_23_20 rfl ?_
                                refine n_getR c_23_21 sc_4.n rfl rfl rfl r_4_2 ?_
                                refine n_iload_n c_23_24 rfl ?_
                                refine n_ialoadV c_23_25 sc_5.n rfl rfl rfl (by omega) (t_5k (z := 0) hS123 (by omega) (by omega) (by omega)) ?_
                                intro z128 ez128 f129
                                refine n_aload_n c_23_26 rfl ?_
                                refine n_getR c_23_27 sc_4.n rfl rfl rfl r_4_3 ?_
                                refine n_iload_n c_23_30 rfl ?_
                                refine n_ialoadV c_23_31 sc_6.n rfl rfl rfl (by omega) (t_6k (z := 2) hS123 (by omega) (by omega) (by omega)) ?_
                                intro z130 ez130 f131
                                refine n_isub c_23_32 rfl ?_
                                refine n_aload_n c_23_33 rfl ?_
                                refine n_getR c_23_34 sc_4.n rfl rfl rfl r_4_4 ?_
                                refine n_iload_n c_23_37 rfl ?_
                                refine n_ialoadV c_23_38 sc_7.n rfl rfl rfl (by omega) (t_7k (z := 1) hS123 (by omega) (by omega) (by omega)) ?_
                                intro z132 ez132 f133
                                refine n_iadd c_23_39 rfl ?_
                                refine n_istore_n (L2 := [some (2, 44), some (2, 4), some (0, (((((((0 + 1) + 1) + 1) + 1) + 1) + 1) + 1)), some (0, ((z128 - z130) + z132))]) c_23_40 rfl rfl ?_
                                refine n_aload_n c_23_41 rfl ?_
                                refine n_getR c_23_42 sc_44.n rfl rfl rfl r_44_4 ?_
                                refine n_iload_n c_23_45 rfl ?_
                                refine n_iload_n c_23_46 rfl ?_
                                refine n_aload_n c_23_47 rfl ?_
                                refine n_getV (bi := 5) c_23_48 sc_44.n rfl rfl rfl (t_44_5 hS123) ?_
                                intro z134 ez134 f135
                                obtain rfl : z134 = 3 := by omega
                                refine n_iconst c_23_51 ?_
                                refine n_if2_ne c_23_52 (by omega) (by omega) ?_ ?_
                                · intro h136
                                  refine n_iconst c_23_59 ?_
                                  have hcst : (((z128 - z130) + z132) : Int) = (-1) := by omega
                                  rw [hcst]
                                  refine n_s2I c_23_60 rfl rfl rfl rfl (fmod2_3  hS123 ) ?_
                                  intro z137 M138 hP139
                                  obtain ⟨eM, f139⟩ := hP139
                                  subst eM
                                  obtain rfl : z137 = 2 := by omega
                                  refine n_iastoreV hS123 c_23_63 sc_45.n rfl (by omega) (w_45 (by omega) (by omega)) ?_
                                  intro M140 eM140 hS140
                                  have g140_0 : M140 44 2 = M123 44 2 := by rw [eM140]; exact nu_a (by omega)
                                  have g140_1 : M140 44 0 = M123 44 0 := by rw [eM140]; exact nu_a (by omega)
                                  have g140_2 : M140 44 5 = M123 44 5 := by rw [eM140]; exact nu_a (by omega)
                                  refine n_iinc (L2 := [some (2, 44), some (2, 4), some (0, ((((((((0 + 1) + 1) + 1) + 1) + 1) + 1) + 1) + 1)), some (0, (-1))]) c_23_64 rfl rfl rfl ?_
                                  refine n_goto c_23_67 ?_
                                  refine n_iload_n c_23_12 rfl ?_
                                  refine n_aload_n c_23_13 rfl ?_
                                  refine n_getV (bi := 1) c_23_14 sc_4.n rfl rfl rfl (t_4_1 hS140) ?_
                                  intro z141 ez141 f142
                                  obtain rfl : z141 = 27 := by omega
                                  refine n_if2_ge c_23_17 (by omega) (by omega) ?_ ?_
                                  · intro h143
                                    exfalso; omega
                                  · intro h144
                                    refine n_aload_n c_23_20 rfl ?_
                                    refine n_getR c_23_21 sc_4.n rfl rfl rfl r_4_2 ?_
                                    refine n_iload_n c_23_24 rfl ?_
                                    refine n_ialoadV c_23_25 sc_5.n rfl rfl rfl (by omega) (t_5k (z := 0) hS140 (by omega) (by omega) (by omega)) ?_
                                    intro z145 ez145 f146
                                    refine n_aload_n c_23_26 rfl ?_
                                    refine n_getR c_23_27 sc_4.n rfl rfl rfl r_4_3 ?_
                                    refine n_iload_n c_23_30 rfl ?_
                                    refine n_ialoadV c_23_31 sc_6.n rfl rfl rfl (by omega) (t_6k (z := 2) hS140 (by omega) (by omega) (by omega)) ?_
                                    intro z147 ez147 f148
                                    refine n_isub c_23_32 rfl ?_
                                    refine n_aload_n c_23_33 rfl ?_
                                    refine n_getR c_23_34 sc_4.n rfl rfl rfl r_4_4 ?_
                                    refine n_iload_n c_23_37 rfl ?_
                                    refine n_ialoadV c_23_38 sc_7.n rfl rfl rfl (by omega) (t_7k (z := 2) hS140 (by omega) (by omega) (by omega)) ?_
                                    intro z149 ez149 f150
                                    refine n_iadd c_23_39 rfl ?_
                                    refine n_istore_n (L2 := [some (2, 44), some (2, 4), some (0, ((((((((0 + 1) + 1) + 1) + 1) + 1) + 1) + 1) + 1)), some (0, ((z145 - z147) + z149))]) c_23_40 rfl rfl ?_
                                    refine n_aload_n c_23_41 rfl ?_
                                    refine n_getR c_23_42 sc_44.n rfl rfl rfl r_44_4 ?_
                                    refine n_iload_n c_23_45 rfl ?_
                                    refine n_iload_n c_23_46 rfl ?_
                                    refine n_aload_n c_23_47 rfl ?_
                                    refine n_getV (bi := 5) c_23_48 sc_44.n rfl rfl rfl (t_44_5 hS140) ?_
                                    intro z151 ez151 f152
                                    obtain rfl : z151 = 3 := by omega
                                    refine n_iconst c_23_51 ?_
                                    refine n_if2_ne c_23_52 (by omega) (by omega) ?_ ?_
                                    · intro h153
                                      refine n_iconst c_23_59 ?_
                                      have hcst : (((z145 - z147) + z149) : Int) = 0 := by omega
                                      rw [hcst]
                                      refine n_s2I c_23_60 rfl rfl rfl rfl (fmod3_3  hS140 ) ?_
                                      intro z154 M155 hP156
                                      obtain ⟨eM, f156⟩ := hP156
                                      subst eM
                                      obtain rfl : z154 = 0 := by omega
                                      refine n_iastoreV hS140 c_23_63 sc_45.n rfl (by omega) (w_45 (by omega) (by omega)) ?_
                                      intro M157 eM157 hS157
                                      have g157_0 : M157 44 2 = M140 44 2 := by rw [eM157]; exact nu_a (by omega)
                                      have g157_1 : M157 44 0 = M140 44 0 := by rw [eM157]; exact nu_a (by omega)
                                      have g157_2 : M157 44 5 = M140 44 5 := by rw [eM157]; exact nu_a (by omega)
                                      refine n_iinc (L2 := [some (2, 44), some (2, 4), some (0, (((((((((0 + 1) + 1) + 1) + 1) + 1) + 1) + 1) + 1) + 1)), some (0, 0)]) c_23_64 rfl rfl rfl ?_
                                      refine n_goto c_23_67 ?_
                                      refine n_iload_n c_23_12 rfl ?_
                                      refine n_aload_n c_23_13 rfl ?_
                                      refine n_getV (bi := 1) c_23_14 sc_4.n rfl rfl rfl (t_4_1 hS157) ?_
                                      intro z158 ez158 f159
                                      obtain rfl : z158 = 27 := by omega
                                      refine n_if2_ge c_23_17 (by omega) (by omega) ?_ ?_
                                      · intro h160
                                        exfalso; omega
                                      · intro h161
                                        refine n_aload_n c_23_20 rfl ?_
                                        refine n_getR c_23_21 sc_4.n rfl rfl rfl r_4_2 ?_
                                        refine n_iload_n c_23_24 rfl ?_
                                        refine n_ialoadV c_23_25 sc_5.n rfl rfl rfl (by omega) (t_5k (z := 1) hS157 (by omega) (by omega) (by omega)) ?_
                                        intro z162 ez162 f163
                                        refine n_aload_n c_23_26 rfl ?_
                                        refine n_getR c_23_27 sc_4.n rfl rfl rfl r_4_3 ?_
                                        refine n_iload_n c_23_30 rfl ?_
                                        refine n_ialoadV c_23_31 sc_6.n rfl rfl rfl (by omega) (t_6k (z := 0) hS157 (by omega) (by omega) (by omega)) ?_
                                        intro z164 ez164 f165
                                        refine n_isub c_23_32 rfl ?_
                                        refine n_aload_n c_23_33 rfl ?_
                                        refine n_getR c_23_34 sc_4.n rfl rfl rfl r_4_4 ?_
                                        refine n_iload_n c_23_37 rfl ?_
                                        refine n_ialoadV c_23_38 sc_7.n rfl rfl rfl (by omega) (t_7k (z := 0) hS157 (by omega) (by omega) (by omega)) ?_
                                        intro z166 ez166 f167
                                        refine n_iadd c_23_39 rfl ?_
                                        refine n_istore_n (L2 := [some (2, 44), some (2, 4), some (0, (((((((((0 + 1) + 1) + 1) + 1) + 1) + 1) + 1) + 1) + 1)), some (0, ((z162 - z164) + z166))]) c_23_40 rfl rfl ?_
                                        refine n_aload_n c_23_41 rfl ?_
                                        refine n_getR c_23_42 sc_44.n rfl rfl rfl r_44_4 ?_
                                        refine n_iload_n c_23_45 rfl ?_
                                        refine n_iload_n c_23_46 rfl ?_
                                        refine n_aload_n c_23_47 rfl ?_
                                        refine n_getV (bi := 5) c_23_48 sc_44.n rfl rfl rfl (t_44_5 hS157) ?_
                                        intro z168 ez168 f169
                                        obtain rfl : z168 = 3 := by omega
                                        refine n_iconst c_23_51 ?_
                                        refine n_if2_ne c_23_52 (by omega) (by omega) ?_ ?_
                                        · intro h170
                                          refine n_iconst c_23_59 ?_
                                          have hcst : (((z162 - z164) + z166) : Int) = 1 := by omega
                                          rw [hcst]
                                          refine n_s2I c_23_60 rfl rfl rfl rfl (fmod4_3  hS157 ) ?_
                                          intro z171 M172 hP173
                                          obtain ⟨eM, f173⟩ := hP173
                                          subst eM
                                          obtain rfl : z171 = 1 := by omega
                                          refine n_iastoreV hS157 c_23_63 sc_45.n rfl (by omega) (w_45 (by omega) (by omega)) ?_
                                          intro M174 eM174 hS174
                                          have g174_0 : M174 44 2 = M157 44 2 := by rw [eM174]; exact nu_a (by omega)
                                          have g174_1 : M174 44 0 = M157 44 0 := by rw [eM174]; exact nu_a (by omega)
                                          have g174_2 : M174 44 5 = M157 44 5 := by rw [eM174]; exact nu_a (by omega)
                                          refine n_iinc (L2 := [some (2, 44), some (2, 4), some (0, ((((((((((0 + 1) + 1) + 1) + 1) + 1) + 1) + 1) + 1) + 1) + 1)), some (0, 1)]) c_23_64 rfl rfl rfl ?_
                                          refine n_goto c_23_67 ?_
                                          refine n_iload_n c_23_12 rfl ?_
                                          refine n_aload_n c_23_13 rfl ?_
                                          refine n_getV (bi := 1) c_23_14 sc_4.n rfl rfl rfl (t_4_1 hS174) ?_
                                          intro z175 ez175 f176
                                          obtain rfl : z175 = 27 := by omega
                                          refine n_if2_ge c_23_17 (by omega) (by omega) ?_ ?_
                                          · intro h177
                                            exfalso; omega
                                          · intro h178
                                            refine n_aload_n c_23_20 rfl ?_
                                            refine n_getR c_23_21 sc_4.n rfl rfl rfl r_4_2 ?_
                                            refine n_iload_n c_23_24 rfl ?_
                                            refine n_ialoadV c_23_25 sc_5.n rfl rfl rfl (by omega) (t_5k (z := 1) hS174 (by omega) (by omega) (by omega)) ?_
                                            intro z179 ez179 f180
                                            refine n_aload_n c_23_26 rfl ?_
                                            refine n_getR c_23_27 sc_4.n rfl rfl rfl r_4_3 ?_
                                            refine n_iload_n c_23_30 rfl ?_
                                            refine n_ialoadV c_23_31 sc_6.n rfl rfl rfl (by omega) (t_6k (z := 0) hS174 (by omega) (by omega) (by omega)) ?_
                                            intro z181 ez181 f182
                                            refine n_isub c_23_32 rfl ?_
                                            refine n_aload_n c_23_33 rfl ?_
                                            refine n_getR c_23_34 sc_4.n rfl rfl rfl r_4_4 ?_
                                            refine n_iload_n c_23_37 rfl ?_
                                            refine n_ialoadV c_23_38 sc_7.n rfl rfl rfl (by omega) (t_7k (z := 1) hS174 (by omega) (by omega) (by omega)) ?_
                                            intro z183 ez183 f184
                                            refine n_iadd c_23_39 rfl ?_
                                            refine n_istore_n (L2 := [some (2, 44), some (2, 4), some (0, ((((((((((0 + 1) + 1) + 1) + 1) + 1) + 1) + 1) + 1) + 1) + 1)), some (0, ((z179 - z181) + z183))]) c_23_40 rfl rfl ?_
                                            refine n_aload_n c_23_41 rfl ?_
                                            refine n_getR c_23_42 sc_44.n rfl rfl rfl r_44_4 ?_
                                            refine n_iload_n c_23_45 rfl ?_
                                            refine n_iload_n c_23_46 rfl ?_
                                            refine n_aload_n c_23_47 rfl ?_
                                            refine n_getV (bi := 5) c_23_48 sc_44.n rfl rfl rfl (t_44_5 hS174) ?_
                                            intro z185 ez185 f186
                                            obtain rfl : z185 = 3 := by omega
                                            refine n_iconst c_23_51 ?_
                                            refine n_if2_ne c_23_52 (by omega) (by omega) ?_ ?_
                                            · intro h187
                                              refine n_iconst c_23_59 ?_
                                              have hcst : (((z179 - z181) + z183) : Int) = 2 := by omega
                                              rw [hcst]
                                              refine n_s2I c_23_60 rfl rfl rfl rfl (fmod5_3  hS174 ) ?_
                                              intro z188 M189 hP190
                                              obtain ⟨eM, f190⟩ := hP190
                                              subst eM
                                              obtain rfl : z188 = 2 := by omega
                                              refine n_iastoreV hS174 c_23_63 sc_45.n rfl (by omega) (w_45 (by omega) (by omega)) ?_
                                              intro M191 eM191 hS191
                                              have g191_0 : M191 44 2 = M174 44 2 := by rw [eM191]; exact nu_a (by omega)
                                              have g191_1 : M191 44 0 = M174 44 0 := by rw [eM191]; exact nu_a (by omega)
                                              have g191_2 : M191 44 5 = M174 44 5 := by rw [eM191]; exact nu_a (by omega)
                                              refine n_iinc (L2 := [some (2, 44), some (2, 4), some (0, (((((((((((0 + 1) + 1) + 1) + 1) + 1) + 1) + 1) + 1) + 1) + 1) + 1)), some (0, 2)]) c_23_64 rfl rfl rfl ?_
                                              refine n_goto c_23_67 ?_
                                              refine n_iload_n c_23_12 rfl ?_
                                              refine n_aload_n c_23_13 rfl ?_
                                              refine n_getV (bi := 1) c_23_14 sc_4.n rfl rfl rfl (t_4_1 hS191) ?_
                                              intro z192 ez192 f193
                                              obtain rfl : z192 = 27 := by omega
                                              refine n_if2_ge c_23_17 (by omega) (by omega) ?_ ?_
                                              · intro h194
                                                exfalso; omega
                                              · intro h195
                                                refine n_aload_n c_23_20 rfl ?_
                                                refine n_getR c_23_21 sc_4.n rfl rfl rfl r_4_2 ?_
                                                refine n_iload_n c_23_24 rfl ?_
                                                refine n_ialoadV c_23_25 sc_5.n rfl rfl rfl (by omega) (t_5k (z := 1) hS191 (by omega) (by omega) (by omega)) ?_
                                                intro z196 ez196 f197
                                                refine n_aload_n c_23_26 rfl ?_
                                                refine n_getR c_23_27 sc_4.n rfl rfl rfl r_4_3 ?_
                                                refine n_iload_n c_23_30 rfl ?_
                                                refine n_ialoadV c_23_31 sc_6.n rfl rfl rfl (by omega) (t_6k (z := 0) hS191 (by omega) (by omega) (by omega)) ?_
                                                intro z198 ez198 f199
                                                refine n_isub c_23_32 rfl ?_
                                                refine n_aload_n c_23_33 rfl ?_
                                                refine n_getR c_23_34 sc_4.n rfl rfl rfl r_4_4 ?_
                                                refine n_iload_n c_23_37 rfl ?_
                                                refine n_ialoadV c_23_38 sc_7.n rfl rfl rfl (by omega) (t_7k (z := 2) hS191 (by omega) (by omega) (by omega)) ?_
                                                intro z200 ez200 f201
                                                refine n_iadd c_23_39 rfl ?_
                                                refine n_istore_n (L2 := [some (2, 44), some (2, 4), some (0, (((((((((((0 + 1) + 1) + 1) + 1) + 1) + 1) + 1) + 1) + 1) + 1) + 1)), some (0, ((z196 - z198) + z200))]) c_23_40 rfl rfl ?_
                                                refine n_aload_n c_23_41 rfl ?_
                                                refine n_getR c_23_42 sc_44.n rfl rfl rfl r_44_4 ?_
                                                refine n_iload_n c_23_45 rfl ?_
                                                refine n_iload_n c_23_46 rfl ?_
                                                refine n_aload_n c_23_47 rfl ?_
                                                refine n_getV (bi := 5) c_23_48 sc_44.n rfl rfl rfl (t_44_5 hS191) ?_
                                                intro z202 ez202 f203
                                                obtain rfl : z202 = 3 := by omega
                                                refine n_iconst c_23_51 ?_
                                                refine n_if2_ne c_23_52 (by omega) (by omega) ?_ ?_
                                                · intro h204
                                                  refine n_iconst c_23_59 ?_
                                                  have hcst : (((z196 - z198) + z200) : Int) = 3 := by omega
                                                  rw [hcst]
                                                  refine n_s2I c_23_60 rfl rfl rfl rfl (fmod6_3  hS191 ) ?_
                                                  intro z205 M206 hP207
                                                  obtain ⟨eM, f207⟩ := hP207
                                                  subst eM
                                                  obtain rfl : z205 = 0 := by omega
                                                  refine n_iastoreV hS191 c_23_63 sc_45.n rfl (by omega) (w_45 (by omega) (by omega)) ?_
                                                  intro M208 eM208 hS208
                                                  have g208_0 : M208 44 2 = M191 44 2 := by rw [eM208]; exact nu_a (by omega)
                                                  have g208_1 : M208 44 0 = M191 44 0 := by rw [eM208]; exact nu_a (by omega)
                                                  have g208_2 : M208 44 5 = M191 44 5 := by rw [eM208]; exact nu_a (by omega)
                                                  refine n_iinc (L2 := [some (2, 44), some (2, 4), some (0, ((((((((((((0 + 1) + 1) + 1) + 1) + 1) + 1) + 1) + 1) + 1) + 1) + 1) + 1)), some (0, 3)]) c_23_64 rfl rfl rfl ?_
                                                  refine n_goto c_23_67 ?_
                                                  refine n_iload_n c_23_12 rfl ?_
                                                  refine n_aload_n c_23_13 rfl ?_
                                                  refine n_getV (bi := 1) c_23_14 sc_4.n rfl rfl rfl (t_4_1 hS208) ?_
                                                  intro z209 ez209 f210
                                                  obtain rfl : z209 = 27 := by omega
                                                  refine n_if2_ge c_23_17 (by omega) (by omega) ?_ ?_
                                                  · intro h211
                                                    exfalso; omega
                                                  · intro h212
                                                    refine n_aload_n c_23_20 rfl ?_
                                                    refine n_getR c_23_21 sc_4.n rfl rfl rfl r_4_2 ?_
                                                    refine n_iload_n c_23_24 rfl ?_
                                                    refine n_ialoadV c_23_25 sc_5.n rfl rfl rfl (by omega) (t_5k (z := 1) hS208 (by omega) (by omega) (by omega)) ?_
                                                    intro z213 ez213 f214
                                                    refine n_aload_n c_23_26 rfl ?_
                                                    refine n_getR c_23_27 sc_4.n rfl rfl rfl r_4_3 ?_
                                                    refine n_iload_n c_23_30 rfl ?_
                                                    refine n_ialoadV c_23_31 sc_6.n rfl rfl rfl (by omega) (t_6k (z := 1) hS208 (by omega) (by omega) (by omega)) ?_
                                                    intro z215 ez215 f216
                                                    refine n_isub c_23_32 rfl ?_
                                                    refine n_aload_n c_23_33 rfl ?_
                                                    refine n_getR c_23_34 sc_4.n rfl rfl rfl r_4_4 ?_
                                                    refine n_iload_n c_23_37 rfl ?_
                                                    refine n_ialoadV c_23_38 sc_7.n rfl rfl rfl (by omega) (t_7k (z := 0) hS208 (by omega) (by omega) (by omega)) ?_
                                                    intro z217 ez217 f218
                                                    refine n_iadd c_23_39 rfl ?_
                                                    refine n_istore_n (L2 := [some (2, 44), some (2, 4), some (0, ((((((((((((0 + 1) + 1) + 1) + 1) + 1) + 1) + 1) + 1) + 1) + 1) + 1) + 1)), some (0, ((z213 - z215) + z217))]) c_23_40 rfl rfl ?_
                                                    refine n_aload_n c_23_41 rfl ?_
                                                    refine n_getR c_23_42 sc_44.n rfl rfl rfl r_44_4 ?_
                                                    refine n_iload_n c_23_45 rfl ?_
                                                    refine n_iload_n c_23_46 rfl ?_
                                                    refine n_aload_n c_23_47 rfl ?_
                                                    refine n_getV (bi := 5) c_23_48 sc_44.n rfl rfl rfl (t_44_5 hS208) ?_
                                                    intro z219 ez219 f220
                                                    obtain rfl : z219 = 3 := by omega
                                                    refine n_iconst c_23_51 ?_
                                                    refine n_if2_ne c_23_52 (by omega) (by omega) ?_ ?_
                                                    · intro h221
                                                      refine n_iconst c_23_59 ?_
                                                      have hcst : (((z213 - z215) + z217) : Int) = 0 := by omega
                                                      rw [hcst]
                                                      refine n_s2I c_23_60 rfl rfl rfl rfl (fmod3_3  hS208 ) ?_
                                                      intro z222 M223 hP224
                                                      obtain ⟨eM, f224⟩ := hP224
                                                      subst eM
                                                      obtain rfl : z222 = 0 := by omega
                                                      refine n_iastoreV hS208 c_23_63 sc_45.n rfl (by omega) (w_45 (by omega) (by omega)) ?_
                                                      intro M225 eM225 hS225
                                                      have g225_0 : M225 44 2 = M208 44 2 := by rw [eM225]; exact nu_a (by omega)
                                                      have g225_1 : M225 44 0 = M208 44 0 := by rw [eM225]; exact nu_a (by omega)
                                                      have g225_2 : M225 44 5 = M208 44 5 := by rw [eM225]; exact nu_a (by omega)
                                                      refine n_iinc (L2 := [some (2, 44), some (2, 4), some (0, (((((((((((((0 + 1) + 1) + 1) + 1) + 1) + 1) + 1) + 1) + 1) + 1) + 1) + 1) + 1)), some (0, 0)]) c_23_64 rfl rfl rfl ?_
                                                      refine n_goto c_23_67 ?_
                                                      refine n_iload_n c_23_12 rfl ?_
                                                      refine n_aload_n c_23_13 rfl ?_
                                                      refine n_getV (bi := 1) c_23_14 sc_4.n rfl rfl rfl (t_4_1 hS225) ?_
                                                      intro z226 ez226 f227
                                                      obtain rfl : z226 = 27 := by omega
                                                      refine n_if2_ge c_23_17 (by omega) (by omega) ?_ ?_
                                                      · intro h228
                                                        exfalso; omega
                                                      · intro h229
                                                        refine n_aload_n c_23_20 rfl ?_
                                                        refine n_getR c_23_21 sc_4.n rfl rfl rfl r_4_2 ?_
                                                        refine n_iload_n c_23_24 rfl ?_
                                                        refine n_ialoadV c_23_25 sc_5.n rfl rfl rfl (by omega) (t_5k (z := 1) hS225 (by omega) (by omega) (by omega)) ?_
                                                        intro z230 ez230 f231
                                                        refine n_aload_n c_23_26 rfl ?_
                                                        refine n_getR c_23_27 sc_4.n rfl rfl rfl r_4_3 ?_
                                                        refine n_iload_n c_23_30 rfl ?_
                                                        refine n_ialoadV c_23_31 sc_6.n rfl rfl rfl (by omega) (t_6k (z := 1) hS225 (by omega) (by omega) (by omega)) ?_
                                                        intro z232 ez232 f233
                                                        refine n_isub c_23_32 rfl ?_
                                                        refine n_aload_n c_23_33 rfl ?_
                                                        refine n_getR c_23_34 sc_4.n rfl rfl rfl r_4_4 ?_
                                                        refine n_iload_n c_23_37 rfl ?_
                                                        refine n_ialoadV c_23_38 sc_7.n rfl rfl rfl (by omega) (t_7k (z := 1) hS225 (by omega) (by omega) (by omega)) ?_
                                                        intro z234 ez234 f235
                                                        refine n_iadd c_23_39 rfl ?_
                                                        refine n_istore_n (L2 := [some (2, 44), some (2, 4), some (0, (((((((((((((0 + 1) + 1) + 1) + 1) + 1) + 1) + 1) + 1) + 1) + 1) + 1) + 1) + 1)), some (0, ((z230 - z232) + z234))]) c_23_40 rfl rfl ?_
                                                        refine n_aload_n c_23_41 rfl ?_
                                                        refine n_getR c_23_42 sc_44.n rfl rfl rfl r_44_4 ?_
                                                        refine n_iload_n c_23_45 rfl ?_
                                                        refine n_iload_n c_23_46 rfl ?_
                                                        refine n_aload_n c_23_47 rfl ?_
                                                        refine n_getV (bi := 5) c_23_48 sc_44.n rfl rfl rfl (t_44_5 hS225) ?_
                                                        intro z236 ez236 f237
                                                        obtain rfl : z236 = 3 := by omega
                                                        refine n_iconst c_23_51 ?_
                                                        refine n_if2_ne c_23_52 (by omega) (by omega) ?_ ?_
                                                        · intro h238
                                                          refine n_iconst c_23_59 ?_
                                                          have hcst : (((z230 - z232) + z234) : Int) = 1 := by omega
                                                          rw [hcst]
                                                          refine n_s2I c_23_60 rfl rfl rfl rfl (fmod4_3  hS225 ) ?_
                                                          intro z239 M240 hP241
                                                          obtain ⟨eM, f241⟩ := hP241
                                                          subst eM
                                                          obtain rfl : z239 = 1 := by omega
                                                          refine n_iastoreV hS225 c_23_63 sc_45.n rfl (by omega) (w_45 (by omega) (by omega)) ?_
                                                          intro M242 eM242 hS242
                                                          have g242_0 : M242 44 2 = M225 44 2 := by rw [eM242]; exact nu_a (by omega)
                                                          have g242_1 : M242 44 0 = M225 44 0 := by rw [eM242]; exact nu_a (by omega)
                                                          have g242_2 : M242 44 5 = M225 44 5 := by rw [eM242]; exact nu_a (by omega)
                                                          refine n_iinc (L2 := [some (2, 44), some (2, 4), some (0, ((((((((((((((0 + 1) + 1) + 1) + 1) + 1) + 1) + 1) + 1) + 1) + 1) + 1) + 1) + 1) + 1)), some (0, 1)]) c_23_64 rfl rfl rfl ?_
                                                          refine n_goto c_23_67 ?_
                                                          refine n_iload_n c_23_12 rfl ?_
                                                          refine n_aload_n c_23_13 rfl ?_
                                                          refine n_getV (bi := 1) c_23_14 sc_4.n rfl rfl rfl (t_4_1 hS242) ?_
                                                          intro z243 ez243 f244
                                                          obtain rfl : z243 = 27 := by omega
                                                          refine n_if2_ge c_23_17 (by omega) (by omega) ?_ ?_
                                                          · intro h245
                                                            exfalso; omega
                                                          · intro h246
                                                            refine n_aload_n c_23_20 rfl ?_
                                                            refine n_getR c_23_21 sc_4.n rfl rfl rfl r_4_2 ?_
                                                            refine n_iload_n c_23_24 rfl ?_
                                                            refine n_ialoadV c_23_25 sc_5.n rfl rfl rfl (by omega) (t_5k (z := 1) hS242 (by omega) (by omega) (by omega)) ?_
                                                            intro z247 ez247 f248
                                                            refine n_aload_n c_23_26 rfl ?_
                                                            refine n_getR c_23_27 sc_4.n rfl rfl rfl r_4_3 ?_
                                                            refine n_iload_n c_23_30 rfl ?_
                                                            refine n_ialoadV c_23_31 sc_6.n rfl rfl rfl (by omega) (t_6k (z := 1) hS242 (by omega) (by omega) (by omega)) ?_
                                                            intro z249 ez249 f250
                                                            refine n_isub c_23_32 rfl ?_
                                                            refine n_aload_n c_23_33 rfl ?_
                                                            refine n_getR c_23_34 sc_4.n rfl rfl rfl r_4_4 ?_
                                                            refine n_iload_n c_23_37 rfl ?_
                                                            refine n_ialoadV c_23_38 sc_7.n rfl rfl rfl (by omega) (t_7k (z := 2) hS242 (by omega) (by omega) (by omega)) ?_
                                                            intro z251 ez251 f252
                                                            refine n_iadd c_23_39 rfl ?_
                                                            refine n_istore_n (L2 := [some (2, 44), some (2, 4), some (0, ((((((((((((((0 + 1) + 1) + 1) + 1) + 1) + 1) + 1) + 1) + 1) + 1) + 1) + 1) + 1) + 1)), some (0, ((z247 - z249) + z251))]) c_23_40 rfl rfl ?_
                                                            refine n_aload_n c_23_41 rfl ?_
                                                            refine n_getR c_23_42 sc_44.n rfl rfl rfl r_44_4 ?_
                                                            refine n_iload_n c_23_45 rfl ?_
                                                            refine n_iload_n c_23_46 rfl ?_
                                                            refine n_aload_n c_23_47 rfl ?_
                                                            refine n_getV (bi := 5) c_23_48 sc_44.n rfl rfl rfl (t_44_5 hS242) ?_
                                                            intro z253 ez253 f254
                                                            obtain rfl : z253 = 3 := by omega
                                                            refine n_iconst c_23_51 ?_
                                                            refine n_if2_ne c_23_52 (by omega) (by omega) ?_ ?_
                                                            · intro h255
                                                              refine n_iconst c_23_59 ?_
                                                              have hcst : (((z247 - z249) + z251) : Int) = 2 := by omega
                                                              rw [hcst]
                                                              refine n_s2I c_23_60 rfl rfl rfl rfl (fmod5_3  hS242 ) ?_
                                                              intro z256 M257 hP258
                                                              obtain ⟨eM, f258⟩ := hP258
                                                              subst eM
                                                              obtain rfl : z256 = 2 := by omega
                                                              refine n_iastoreV hS242 c_23_63 sc_45.n rfl (by omega) (w_45 (by omega) (by omega)) ?_
                                                              intro M259 eM259 hS259
                                                              have g259_0 : M259 44 2 = M242 44 2 := by rw [eM259]; exact nu_a (by omega)
                                                              have g259_1 : M259 44 0 = M242 44 0 := by rw [eM259]; exact nu_a (by omega)
                                                              have g259_2 : M259 44 5 = M242 44 5 := by rw [eM259]; exact nu_a (by omega)
                                                              refine n_iinc (L2 := [some (2, 44), some (2, 4), some (0, (((((((((((((((0 + 1) + 1) + 1) + 1) + 1) + 1) + 1) + 1) + 1) + 1) + 1) + 1) + 1) + 1) + 1)), some (0, 2)]) c_23_64 rfl rfl rfl ?_
                                                              refine n_goto c_23_67 ?_
                                                              refine n_iload_n c_23_12 rfl ?_
                                                              refine n_aload_n c_23_13 rfl ?_
                                                              refine n_getV (bi := 1) c_23_14 sc_4.n rfl rfl rfl (t_4_1 hS259) ?_
                                                              intro z260 ez260 f261
                                                              obtain rfl : z260 = 27 := by omega
                                                              refine n_if2_ge c_23_17 (by omega) (by omega) ?_ ?_
                                                              · intro h262
                                                                exfalso; omega
                                                              · intro h263
                                                                refine n_aload_n c_23_20 rfl ?_
                                                                refine n_getR c_23_21 sc_4.n rfl rfl rfl r_4_2 ?_
                                                                refine n_iload_n c_23_24 rfl ?_
                                                                refine n_ialoadV c_23_25 sc_5.n rfl rfl rfl (by omega) (t_5k (z := 1) hS259 (by omega) (by omega) (by omega)) ?_
                                                                intro z264 ez264 f265
                                                                refine n_aload_n c_23_26 rfl ?_
                                                                refine n_getR c_23_27 sc_4.n rfl rfl rfl r_4_3 ?_
                                                                refine n_iload_n c_23_30 rfl ?_
                                                                refine n_ialoadV c_23_31 sc_6.n rfl rfl rfl (by omega) (t_6k (z := 2) hS259 (by omega) (by omega) (by omega)) ?_
                                                                intro z266 ez266 f267
                                                                refine n_isub c_23_32 rfl ?_
                                                                refine n_aload_n c_23_33 rfl ?_
                                                                refine n_getR c_23_34 sc_4.n rfl rfl rfl r_4_4 ?_
                                                                refine n_iload_n c_23_37 rfl ?_
                                                                refine n_ialoadV c_23_38 sc_7.n rfl rfl rfl (by omega) (t_7k (z := 0) hS259 (by omega) (by omega) (by omega)) ?_
                                                                intro z268 ez268 f269
                                                                refine n_iadd c_23_39 rfl ?_
                                                                refine n_istore_n (L2 := [some (2, 44), some (2, 4), some (0, (((((((((((((((0 + 1) + 1) + 1) + 1) + 1) + 1) + 1) + 1) + 1) + 1) + 1) + 1) + 1) + 1) + 1)), some (0, ((z264 - z266) + z268))]) c_23_40 rfl rfl ?_
                                                                refine n_aload_n c_23_41 rfl ?_
                                                                refine n_getR c_23_42 sc_44.n rfl rfl rfl r_44_4 ?_
                                                                refine n_iload_n c_23_45 rfl ?_
                                                                refine n_iload_n c_23_46 rfl ?_
                                                                refine n_aload_n c_23_47 rfl ?_
                                                                refine n_getV (bi := 5) c_23_48 sc_44.n rfl rfl rfl (t_44_5 hS259) ?_
                                                                intro z270 ez270 f271
                                                                obtain rfl : z270 = 3 := by omega
                                                                refine n_iconst c_23_51 ?_
                                                                refine n_if2_ne c_23_52 (by omega) (by omega) ?_ ?_
                                                                · intro h272
                                                                  refine n_iconst c_23_59 ?_
                                                                  have hcst : (((z264 - z266) + z268) : Int) = (-1) := by omega
                                                                  rw [hcst]
                                                                  refine n_s2I c_23_60 rfl rfl rfl rfl (fmod2_3  hS259 ) ?_
                                                                  intro z273 M274 hP275
                                                                  obtain ⟨eM, f275⟩ := hP275
                                                                  subst eM
                                                                  obtain rfl : z273 = 2 := by omega
                                                                  refine n_iastoreV hS259 c_23_63 sc_45.n rfl (by omega) (w_45 (by omega) (by omega)) ?_
                                                                  intro M276 eM276 hS276
                                                                  have g276_0 : M276 44 2 = M259 44 2 := by rw [eM276]; exact nu_a (by omega)
                                                                  have g276_1 : M276 44 0 = M259 44 0 := by rw [eM276]; exact nu_a (by omega)
                                                                  have g276_2 : M276 44 5 = M259 44 5 := by rw [eM276]; exact nu_a (by omega)
                                                                  refine n_iinc (L2 := [some (2, 44), some (2, 4), some (0, ((((((((((((((((0 + 1) + 1) + 1) + 1) + 1) + 1) + 1) + 1) + 1) + 1) + 1) + 1) + 1) + 1) + 1) + 1)), some (0, (-1))]) c_23_64 rfl rfl rfl ?_
                                                                  refine n_goto c_23_67 ?_
                                                                  refine n_iload_n c_23_12 rfl ?_
                                                                  refine n_aload_n c_23_13 rfl ?_
                                                                  refine n_getV (bi := 1) c_23_14 sc_4.n rfl rfl rfl (t_4_1 hS276) ?_
                                                                  intro z277 ez277 f278
                                                                  obtain rfl : z277 = 27 := by omega
                                                                  refine n_if2_ge c_23_17 (by omega) (by omega) ?_ ?_
                                                                  · intro h279
                                                                    exfalso; omega
                                                                  · intro h280
                                                                    refine n_aload_n c_23_20 rfl ?_
                                                                    refine n_getR c_23_21 sc_4.n rfl rfl rfl r_4_2 ?_
                                                                    refine n_iload_n c_23_24 rfl ?_
                                                                    refine n_ialoadV c_23_25 sc_5.n rfl rfl rfl (by omega) (t_5k (z := 1) hS276 (by omega) (by omega) (by omega)) ?_
                                                                    intro z281 ez281 f282
                                                                    refine n_aload_n c_23_26 rfl ?_
                                                                    refine n_getR c_23_27 sc_4.n rfl rfl rfl r_4_3 ?_
                                                                    refine n_iload_n c_23_30 rfl ?_
                                                                    refine n_ialoadV c_23_31 sc_6.n rfl rfl rfl (by omega) (t_6k (z := 2) hS276 (by omega) (by omega) (by omega)) ?_
                                                                    intro z283 ez283 f284
                                                                    refine n_isub c_23_32 rfl ?_
                                                                    refine n_aload_n c_23_33 rfl ?_
                                                                    refine n_getR c_23_34 sc_4.n rfl rfl rfl r_4_4 ?_
                                                                    refine n_iload_n c_23_37 rfl ?_
                                                                    refine n_ialoadV c_23_38 sc_7.n rfl rfl rfl (by omega) (t_7k (z := 1) hS276 (by omega) (by omega) (by omega)) ?_
                                                                    intro z285 ez285 f286
                                                                    refine n_iadd c_23_39 rfl ?_
                                                                    refine n_istore_n (L2 := [some (2, 44), some (2, 4), some (0, ((((((((((((((((0 + 1) + 1) + 1) + 1) + 1) + 1) + 1) + 1) + 1) + 1) + 1) + 1) + 1) + 1) + 1) + 1)), some (0, ((z281 - z283) + z285))]) c_23_40 rfl rfl ?_
                                                                    refine n_aload_n c_23_41 rfl ?_
                                                                    refine n_getR c_23_42 sc_44.n rfl rfl rfl r_44_4 ?_
                                                                    refine n_iload_n c_23_45 rfl ?_
                                                                    refine n_iload_n c_23_46 rfl ?_
                                                                    refine n_aload_n c_23_47 rfl ?_
                                                                    refine n_getV (bi := 5) c_23_48 sc_44.n rfl rfl rfl (t_44_5 hS276) ?_
                                                                    intro z287 ez287 f288
                                                                    obtain rfl : z287 = 3 := by omega
                                                                    refine n_iconst c_23_51 ?_
                                                                    refine n_if2_ne c_23_52 (by omega) (by omega) ?_ ?_
                                                                    · intro h289
                                                                      refine n_iconst c_23_59 ?_
                                                                      have hcst : (((z281 - z283) + z285) : Int) = 0 := by omega
                                                                      rw [hcst]
                                                                      refine n_s2I c_23_60 rfl rfl rfl rfl (fmod3_3  hS276 ) ?_
                                                                      intro z290 M291 hP292
                                                                      obtain ⟨eM, f292⟩ := hP292
                                                                      subst eM
                                                                      obtain rfl : z290 = 0 := by omega
                                                                      refine n_iastoreV hS276 c_23_63 sc_45.n rfl (by omega) (w_45 (by omega) (by omega)) ?_
                                                                      intro M293 eM293 hS293
                                                                      have g293_0 : M293 44 2 = M276 44 2 := by rw [eM293]; exact nu_a (by omega)
                                                                      have g293_1 : M293 44 0 = M276 44 0 := by rw [eM293]; exact nu_a (by omega)
                                                                      have g293_2 : M293 44 5 = M276 44 5 := by rw [eM293]; exact nu_a (by omega)
                                                                      refine n_iinc (L2 := [some (2, 44), some (2, 4), some (0, (((((((((((((((((0 + 1) + 1) + 1) + 1) + 1) + 1) + 1) + 1) + 1) + 1) + 1) + 1) + 1) + 1) + 1) + 1) + 1)), some (0, 0)]) c_23_64 rfl rfl rfl ?_
                                                                      refine n_goto c_23_67 ?_
                                                                      refine n_iload_n c_23_12 rfl ?_
                                                                      refine n_aload_n c_23_13 rfl ?_
                                                                      refine n_getV (bi := 1) c_23_14 sc_4.n rfl rfl rfl (t_4_1 hS293) ?_
                                                                      intro z294 ez294 f295
                                                                      obtain rfl : z294 = 27 := by omega
                                                                      refine n_if2_ge c_23_17 (by omega) (by omega) ?_ ?_
                                                                      · intro h296
                                                                        exfalso; omega
                                                                      · intro h297
                                                                        refine n_aload_n c_23_20 rfl ?_
                                                                        refine n_getR c_23_21 sc_4.n rfl rfl rfl r_4_2 ?_
                                                                        refine n_iload_n c_23_24 rfl ?_
                                                                        refine n_ialoadV c_23_25 sc_5.n rfl rfl rfl (by omega) (t_5k (z := 1) hS293 (by omega) (by omega) (by omega)) ?_
                                                                        intro z298 ez298 f299
                                                                        refine n_aload_n c_23_26 rfl ?_
                                                                        refine n_getR c_23_27 sc_4.n rfl rfl rfl r_4_3 ?_
                                                                        refine n_iload_n c_23_30 rfl ?_
                                                                        refine n_ialoadV c_23_31 sc_6.n rfl rfl rfl (by omega) (t_6k (z := 2) hS293 (by omega) (by omega) (by omega)) ?_
                                                                        intro z300 ez300 f301
                                                                        refine n_isub c_23_32 rfl ?_
                                                                        refine n_aload_n c_23_33 rfl ?_
                                                                        refine n_getR c_23_34 sc_4.n rfl rfl rfl r_4_4 ?_
                                                                        refine n_iload_n c_23_37 rfl ?_
                                                                        refine n_ialoadV c_23_38 sc_7.n rfl rfl rfl (by omega) (t_7k (z := 2) hS293 (by omega) (by omega) (by omega)) ?_
                                                                        intro z302 ez302 f303
                                                                        refine n_iadd c_23_39 rfl ?_
                                                                        refine n_istore_n (L2 := [some (2, 44), some (2, 4), some (0, (((((((((((((((((0 + 1) + 1) + 1) + 1) + 1) + 1) + 1) + 1) + 1) + 1) + 1) + 1) + 1) + 1) + 1) + 1) + 1)), some (0, ((z298 - z300) + z302))]) c_23_40 rfl rfl ?_
                                                                        refine n_aload_n c_23_41 rfl ?_
                                                                        refine n_getR c_23_42 sc_44.n rfl rfl rfl r_44_4 ?_
                                                                        refine n_iload_n c_23_45 rfl ?_
                                                                        refine n_iload_n c_23_46 rfl ?_
                                                                        refine n_aload_n c_23_47 rfl ?_
                                                                        refine n_getV (bi := 5) c_23_48 sc_44.n rfl rfl rfl (t_44_5 hS293) ?_
                                                                        intro z304 ez304 f305
                                                                        obtain rfl : z304 = 3 := by omega
                                                                        refine n_iconst c_23_51 ?_
                                                                        refine n_if2_ne c_23_52 (by omega) (by omega) ?_ ?_
                                                                        · intro h306
                                                                          refine n_iconst c_23_59 ?_
                                                                          have hcst : (((z298 - z300) + z302) : Int) = 1 := by omega
                                                                          rw [hcst]
                                                                          refine n_s2I c_23_60 rfl rfl rfl rfl (fmod4_3  hS293 ) ?_
                                                                          intro z307 M308 hP309
                                                                          obtain ⟨eM, f309⟩ := hP309
                                                                          subst eM
                                                                          obtain rfl : z307 = 1 := by omega
                                                                          refine n_iastoreV hS293 c_23_63 sc_45.n rfl (by omega) (w_45 (by omega) (by omega)) ?_
                                                                          intro M310 eM310 hS310
                                                                          have g310_0 : M310 44 2 = M293 44 2 := by rw [eM310]; exact nu_a (by omega)
                                                                          have g310_1 : M310 44 0 = M293 44 0 := by rw [eM310]; exact nu_a (by omega)
                                                                          have g310_2 : M310 44 5 = M293 44 5 := by rw [eM310]; exact nu_a (by omega)
                                                                          refine n_iinc (L2 := [some (2, 44), some (2, 4), some (0, ((((((((((((((((((0 + 1) + 1) + 1) + 1) + 1) + 1) + 1) + 1) + 1) + 1) + 1) + 1) + 1) + 1) + 1) + 1) + 1) + 1)), some (0, 1)]) c_23_64 rfl rfl rfl ?_
                                                                          refine n_goto c_23_67 ?_
                                                                          refine n_iload_n c_23_12 rfl ?_
                                                                          refine n_aload_n c_23_13 rfl ?_
                                                                          refine n_getV (bi := 1) c_23_14 sc_4.n rfl rfl rfl (t_4_1 hS310) ?_
                                                                          intro z311 ez311 f312
                                                                          obtain rfl : z311 = 27 := by omega
                                                                          refine n_if2_ge c_23_17 (by omega) (by omega) ?_ ?_
                                                                          · intro h313
                                                                            exfalso; omega
                                                                          · intro h314
                                                                            refine n_aload_n c_23_20 rfl ?_
                                                                            refine n_getR c_23_21 sc_4.n rfl rfl rfl r_4_2 ?_
                                                                            refine n_iload_n c_23_24 rfl ?_
                                                                            refine n_ialoadV c_23_25 sc_5.n rfl rfl rfl (by omega) (t_5k (z := 2) hS310 (by omega) (by omega) (by omega)) ?_
                                                                            intro z315 ez315 f316
                                                                            refine n_aload_n c_23_26 rfl ?_
                                                                            refine n_getR c_23_27 sc_4.n rfl rfl rfl r_4_3 ?_
                                                                            refine n_iload_n c_23_30 rfl ?_
                                                                            refine n_ialoadV c_23_31 sc_6.n rfl rfl rfl (by omega) (t_6k (z := 0) hS310 (by omega) (by omega) (by omega)) ?_
                                                                            intro z317 ez317 f318
                                                                            refine n_isub c_23_32 rfl ?_
                                                                            refine n_aload_n c_23_33 rfl ?_
                                                                            refine n_getR c_23_34 sc_4.n rfl rfl rfl r_4_4 ?_
                                                                            refine n_iload_n c_23_37 rfl ?_
                                                                            refine n_ialoadV c_23_38 sc_7.n rfl rfl rfl (by omega) (t_7k (z := 0) hS310 (by omega) (by omega) (by omega)) ?_
                                                                            intro z319 ez319 f320
                                                                            refine n_iadd c_23_39 rfl ?_
                                                                            refine n_istore_n (L2 := [some (2, 44), some (2, 4), some (0, ((((((((((((((((((0 + 1) + 1) + 1) + 1) + 1) + 1) + 1) + 1) + 1) + 1) + 1) + 1) + 1) + 1) + 1) + 1) + 1) + 1)), some (0, ((z315 - z317) + z319))]) c_23_40 rfl rfl ?_
                                                                            refine n_aload_n c_23_41 rfl ?_
                                                                            refine n_getR c_23_42 sc_44.n rfl rfl rfl r_44_4 ?_
                                                                            refine n_iload_n c_23_45 rfl ?_
                                                                            refine n_iload_n c_23_46 rfl ?_
                                                                            refine n_aload_n c_23_47 rfl ?_
                                                                            refine n_getV (bi := 5) c_23_48 sc_44.n rfl rfl rfl (t_44_5 hS310) ?_
                                                                            intro z321 ez321 f322
                                                                            obtain rfl : z321 = 3 := by omega
                                                                            refine n_iconst c_23_51 ?_
                                                                            refine n_if2_ne c_23_52 (by omega) (by omega) ?_ ?_
                                                                            · intro h323
                                                                              refine n_iconst c_23_59 ?_
                                                                              have hcst : (((z315 - z317) + z319) : Int) = 2 := by omega
                                                                              rw [hcst]
                                                                              refine n_s2I c_23_60 rfl rfl rfl rfl (fmod5_3  hS310 ) ?_
                                                                              intro z324 M325 hP326
                                                                              obtain ⟨eM, f326⟩ := hP326
                                                                              subst eM
                                                                              obtain rfl : z324 = 2 := by omega
                                                                              refine n_iastoreV hS310 c_23_63 sc_45.n rfl (by omega) (w_45 (by omega) (by omega)) ?_
                                                                              intro M327 eM327 hS327
                                                                              have g327_0 : M327 44 2 = M310 44 2 := by rw [eM327]; exact nu_a (by omega)
                                                                              have g327_1 : M327 44 0 = M310 44 0 := by rw [eM327]; exact nu_a (by omega)
                                                                              have g327_2 : M327 44 5 = M310 44 5 := by rw [eM327]; exact nu_a (by omega)
                                                                              refine n_iinc (L2 := [some (2, 44), some (2, 4), some (0, (((((((((((((((((((0 + 1) + 1) + 1) + 1) + 1) + 1) + 1) + 1) + 1) + 1) + 1) + 1) + 1) + 1) + 1) + 1) + 1) + 1) + 1)), some (0, 2)]) c_23_64 rfl rfl rfl ?_
                                                                              refine n_goto c_23_67 ?_
                                                                              refine n_iload_n c_23_12 rfl ?_
                                                                              refine n_aload_n c_23_13 rfl ?_
                                                                              refine n_getV (bi := 1) c_23_14 sc_4.n rfl rfl rfl (t_4_1 hS327) ?_
                                                                              intro z328 ez328 f329
                                                                              obtain rfl : z328 = 27 := by omega
                                                                              refine n_if2_ge c_23_17 (by omega) (by omega) ?_ ?_
                                                                              · intro h330
                                                                                exfalso; omega
                                                                              · intro h331
                                                                                refine n_aload_n c_23_20 rfl ?_
                                                                                refine n_getR c_23_21 sc_4.n rfl rfl rfl r_4_2 ?_
                                                                                refine n_iload_n c_23_24 rfl ?_
                                                                                refine n_ialoadV c_23_25 sc_5.n rfl rfl rfl (by omega) (t_5k (z := 2) hS327 (by omega) (by omega) (by omega)) ?_
                                                                                intro z332 ez332 f333
                                                                                refine n_aload_n c_23_26 rfl ?_
                                                                                refine n_getR c_23_27 sc_4.n rfl rfl rfl r_4_3 ?_
                                                                                refine n_iload_n c_23_30 rfl ?_
                                                                                refine n_ialoadV c_23_31 sc_6.n rfl rfl rfl (by omega) (t_6k (z := 0) hS327 (by omega) (by omega) (by omega)) ?_
                                                                                intro z334 ez334 f335
                                                                                refine n_isub c_23_32 rfl ?_
                                                                                refine n_aload_n c_23_33 rfl ?_
                                                                                refine n_getR c_23_34 sc_4.n rfl rfl rfl r_4_4 ?_
                                                                                refine n_iload_n c_23_37 rfl ?_
                                                                                refine n_ialoadV c_23_38 sc_7.n rfl rfl rfl (by omega) (t_7k (z := 1) hS327 (by omega) (by omega) (by omega)) ?_
                                                                                intro z336 ez336 f337
                                                                                refine n_iadd c_23_39 rfl ?_
                                                                                refine n_istore_n (L2 := [some (2, 44), some (2, 4), some (0, (((((((((((((((((((0 + 1) + 1) + 1) + 1) + 1) + 1) + 1) + 1) + 1) + 1) + 1) + 1) + 1) + 1) + 1) + 1) + 1) + 1) + 1)), some (0, ((z332 - z334) + z336))]) c_23_40 rfl rfl ?_
                                                                                refine n_aload_n c_23_41 rfl ?_
                                                                                refine n_getR c_23_42 sc_44.n rfl rfl rfl r_44_4 ?_
                                                                                refine n_iload_n c_23_45 rfl ?_
                                                                                refine n_iload_n c_23_46 rfl ?_
                                                                                refine n_aload_n c_23_47 rfl ?_
                                                                                refine n_getV (bi := 5) c_23_48 sc_44.n rfl rfl rfl (t_44_5 hS327) ?_
                                                                                intro z338 ez338 f339
                                                                                obtain rfl : z338 = 3 := by omega
                                                                                refine n_iconst c_23_51 ?_
                                                                                refine n_if2_ne c_23_52 (by omega) (by omega) ?_ ?_
                                                                                · intro h340
                                                                                  refine n_iconst c_23_59 ?_
                                                                                  have hcst : (((z332 - z334) + z336) : Int) = 3 := by omega
                                                                                  rw [hcst]
                                                                                  refine n_s2I c_23_60 rfl rfl rfl rfl (fmod6_3  hS327 ) ?_
                                                                                  intro z341 M342 hP343
                                                                                  obtain ⟨eM, f343⟩ := hP343
                                                                                  subst eM
                                                                                  obtain rfl : z341 = 0 := by omega
                                                                                  refine n_iastoreV hS327 c_23_63 sc_45.n rfl (by omega) (w_45 (by omega) (by omega)) ?_
                                                                                  intro M344 eM344 hS344
                                                                                  have g344_0 : M344 44 2 = M327 44 2 := by rw [eM344]; exact nu_a (by omega)
                                                                                  have g344_1 : M344 44 0 = M327 44 0 := by rw [eM344]; exact nu_a (by omega)
                                                                                  have g344_2 : M344 44 5 = M327 44 5 := by rw [eM344]; exact nu_a (by omega)
                                                                                  refine n_iinc (L2 := [some (2, 44), some (2, 4), some (0, ((((((((((((((((((((0 + 1) + 1) + 1) + 1) + 1) + 1) + 1) + 1) + 1) + 1) + 1) + 1) + 1) + 1) + 1) + 1) + 1) + 1) + 1) + 1)), some (0, 3)]) c_23_64 rfl rfl rfl ?_
                                                                                  refine n_goto c_23_67 ?_
                                                                                  refine n_iload_n c_23_12 rfl ?_
                                                                                  refine n_aload_n c_23_13 rfl ?_
                                                                                  refine n_getV (bi := 1) c_23_14 sc_4.n rfl rfl rfl (t_4_1 hS344) ?_
                                                                                  intro z345 ez345 f346
                                                                                  obtain rfl : z345 = 27 := by omega
                                                                                  refine n_if2_ge c_23_17 (by omega) (by omega) ?_ ?_
                                                                                  · intro h347
                                                                                    exfalso; omega
                                                                                  · intro h348
                                                                                    refine n_aload_n c_23_20 rfl ?_
                                                                                    refine n_getR c_23_21 sc_4.n rfl rfl rfl r_4_2 ?_
                                                                                    refine n_iload_n c_23_24 rfl ?_
                                                                                    refine n_ialoadV c_23_25 sc_5.n rfl rfl rfl (by omega) (t_5k (z := 2) hS344 (by omega) (by omega) (by omega)) ?_
                                                                                    intro z349 ez349 f350
                                                                                    refine n_aload_n c_23_26 rfl ?_
                                                                                    refine n_getR c_23_27 sc_4.n rfl rfl rfl r_4_3 ?_
                                                                                    refine n_iload_n c_23_30 rfl ?_
                                                                                    refine n_ialoadV c_23_31 sc_6.n rfl rfl rfl (by omega) (t_6k (z := 0) hS344 (by omega) (by omega) (by omega)) ?_
                                                                                    intro z351 ez351 f352
                                                                                    refine n_isub c_23_32 rfl ?_
                                                                                    refine n_aload_n c_23_33 rfl ?_
                                                                                    refine n_getR c_23_34 sc_4.n rfl rfl rfl r_4_4 ?_
                                                                                    refine n_iload_n c_23_37 rfl ?_
                                                                                    refine n_ialoadV c_23_38 sc_7.n rfl rfl rfl (by omega) (t_7k (z := 2) hS344 (by omega) (by omega) (by omega)) ?_
                                                                                    intro z353 ez353 f354
                                                                                    refine n_iadd c_23_39 rfl ?_
                                                                                    refine n_istore_n (L2 := [some (2, 44), some (2, 4), some (0, ((((((((((((((((((((0 + 1) + 1) + 1) + 1) + 1) + 1) + 1) + 1) + 1) + 1) + 1) + 1) + 1) + 1) + 1) + 1) + 1) + 1) + 1) + 1)), some (0, ((z349 - z351) + z353))]) c_23_40 rfl rfl ?_
                                                                                    refine n_aload_n c_23_41 rfl ?_
                                                                                    refine n_getR c_23_42 sc_44.n rfl rfl rfl r_44_4 ?_
                                                                                    refine n_iload_n c_23_45 rfl ?_
                                                                                    refine n_iload_n c_23_46 rfl ?_
                                                                                    refine n_aload_n c_23_47 rfl ?_
                                                                                    refine n_getV (bi := 5) c_23_48 sc_44.n rfl rfl rfl (t_44_5 hS344) ?_
                                                                                    intro z355 ez355 f356
                                                                                    obtain rfl : z355 = 3 := by omega
                                                                                    refine n_iconst c_23_51 ?_
                                                                                    refine n_if2_ne c_23_52 (by omega) (by omega) ?_ ?_
                                                                                    · intro h357
                                                                                      refine n_iconst c_23_59 ?_
                                                                                      have hcst : (((z349 - z351) + z353) : Int) = 4 := by omega
                                                                                      rw [hcst]
                                                                                      refine n_s2I c_23_60 rfl rfl rfl rfl (fmod7_3  hS344 ) ?_
                                                                                      intro z358 M359 hP360
                                                                                      obtain ⟨eM, f360⟩ := hP360
                                                                                      subst eM
                                                                                      obtain rfl : z358 = 1 := by omega
                                                                                      refine n_iastoreV hS344 c_23_63 sc_45.n rfl (by omega) (w_45 (by omega) (by omega)) ?_
                                                                                      intro M361 eM361 hS361
                                                                                      have g361_0 : M361 44 2 = M344 44 2 := by rw [eM361]; exact nu_a (by omega)
                                                                                      have g361_1 : M361 44 0 = M344 44 0 := by rw [eM361]; exact nu_a (by omega)
                                                                                      have g361_2 : M361 44 5 = M344 44 5 := by rw [eM361]; exact nu_a (by omega)
                                                                                      refine n_iinc (L2 := [some (2, 44), some (2, 4), some (0, (((((((((((((((((((((0 + 1) + 1) + 1) + 1) + 1) + 1) + 1) + 1) + 1) + 1) + 1) + 1) + 1) + 1) + 1) + 1) + 1) + 1) + 1) + 1) + 1)), some (0, 4)]) c_23_64 rfl rfl rfl ?_
                                                                                      refine n_goto c_23_67 ?_
                                                                                      refine n_iload_n c_23_12 rfl ?_
                                                                                      refine n_aload_n c_23_13 rfl ?_
                                                                                      refine n_getV (bi := 1) c_23_14 sc_4.n rfl rfl rfl (t_4_1 hS361) ?_
                                                                                      intro z362 ez362 f363
                                                                                      obtain rfl : z362 = 27 := by omega
                                                                                      refine n_if2_ge c_23_17 (by omega) (by omega) ?_ ?_
                                                                                      · intro h364
                                                                                        exfalso; omega
                                                                                      · intro h365
                                                                                        refine n_aload_n c_23_20 rfl ?_
                                                                                        refine n_getR c_23_21 sc_4.n rfl rfl rfl r_4_2 ?_
                                                                                        refine n_iload_n c_23_24 rfl ?_
                                                                                        refine n_ialoadV c_23_25 sc_5.n rfl rfl rfl (by omega) (t_5k (z := 2) hS361 (by omega) (by omega) (by omega)) ?_
                                                                                        intro z366 ez366 f367
                                                                                        refine n_aload_n c_23_26 rfl ?_
                                                                                        refine n_getR c_23_27 sc_4.n rfl rfl rfl r_4_3 ?_
                                                                                        refine n_iload_n c_23_30 rfl ?_
                                                                                        refine n_ialoadV c_23_31 sc_6.n rfl rfl rfl (by omega) (t_6k (z := 1) hS361 (by omega) (by omega) (by omega)) ?_
                                                                                        intro z368 ez368 f369
                                                                                        refine n_isub c_23_32 rfl ?_
                                                                                        refine n_aload_n c_23_33 rfl ?_
                                                                                        refine n_getR c_23_34 sc_4.n rfl rfl rfl r_4_4 ?_
                                                                                        refine n_iload_n c_23_37 rfl ?_
                                                                                        refine n_ialoadV c_23_38 sc_7.n rfl rfl rfl (by omega) (t_7k (z := 0) hS361 (by omega) (by omega) (by omega)) ?_
                                                                                        intro z370 ez370 f371
                                                                                        refine n_iadd c_23_39 rfl ?_
                                                                                        refine n_istore_n (L2 := [some (2, 44), some (2, 4), some (0, (((((((((((((((((((((0 + 1) + 1) + 1) + 1) + 1) + 1) + 1) + 1) + 1) + 1) + 1) + 1) + 1) + 1) + 1) + 1) + 1) + 1) + 1) + 1) + 1)), some (0, ((z366 - z368) + z370))]) c_23_40 rfl rfl ?_
                                                                                        refine n_aload_n c_23_41 rfl ?_
                                                                                        refine n_getR c_23_42 sc_44.n rfl rfl rfl r_44_4 ?_
                                                                                        refine n_iload_n c_23_45 rfl ?_
                                                                                        refine n_iload_n c_23_46 rfl ?_
                                                                                        refine n_aload_n c_23_47 rfl ?_
                                                                                        refine n_getV (bi := 5) c_23_48 sc_44.n rfl rfl rfl (t_44_5 hS361) ?_
                                                                                        intro z372 ez372 f373
                                                                                        obtain rfl : z372 = 3 := by omega
                                                                                        refine n_iconst c_23_51 ?_
                                                                                        refine n_if2_ne c_23_52 (by omega) (by omega) ?_ ?_
                                                                                        · intro h374
                                                                                          refine n_iconst c_23_59 ?_
                                                                                          have hcst : (((z366 - z368) + z370) : Int) = 1 := by omega
                                                                                          rw [hcst]
                                                                                          refine n_s2I c_23_60 rfl rfl rfl rfl (fmod4_3  hS361 ) ?_
                                                                                          intro z375 M376 hP377
                                                                                          obtain ⟨eM, f377⟩ := hP377
                                                                                          subst eM
                                                                                          obtain rfl : z375 = 1 := by omega
                                                                                          refine n_iastoreV hS361 c_23_63 sc_45.n rfl (by omega) (w_45 (by omega) (by omega)) ?_
                                                                                          intro M378 eM378 hS378
                                                                                          have g378_0 : M378 44 2 = M361 44 2 := by rw [eM378]; exact nu_a (by omega)
                                                                                          have g378_1 : M378 44 0 = M361 44 0 := by rw [eM378]; exact nu_a (by omega)
                                                                                          have g378_2 : M378 44 5 = M361 44 5 := by rw [eM378]; exact nu_a (by omega)
                                                                                          refine n_iinc (L2 := [some (2, 44), some (2, 4), some (0, ((((((((((((((((((((((0 + 1) + 1) + 1) + 1) + 1) + 1) + 1) + 1) + 1) + 1) + 1) + 1) + 1) + 1) + 1) + 1) + 1) + 1) + 1) + 1) + 1) + 1)), some (0, 1)]) c_23_64 rfl rfl rfl ?_
                                                                                          refine n_goto c_23_67 ?_
                                                                                          refine n_iload_n c_23_12 rfl ?_
                                                                                          refine n_aload_n c_23_13 rfl ?_
                                                                                          refine n_getV (bi := 1) c_23_14 sc_4.n rfl rfl rfl (t_4_1 hS378) ?_
                                                                                          intro z379 ez379 f380
                                                                                          obtain rfl : z379 = 27 := by omega
                                                                                          refine n_if2_ge c_23_17 (by omega) (by omega) ?_ ?_
                                                                                          · intro h381
                                                                                            exfalso; omega
                                                                                          · intro h382
                                                                                            refine n_aload_n c_23_20 rfl ?_
                                                                                            refine n_getR c_23_21 sc_4.n rfl rfl rfl r_4_2 ?_
                                                                                            refine n_iload_n c_23_24 rfl ?_
                                                                                            refine n_ialoadV c_23_25 sc_5.n rfl rfl rfl (by omega) (t_5k (z := 2) hS378 (by omega) (by omega) (by omega)) ?_
                                                                                            intro z383 ez383 f384
                                                                                            refine n_aload_n c_23_26 rfl ?_
                                                                                            refine n_getR c_23_27 sc_4.n rfl rfl rfl r_4_3 ?_
                                                                                            refine n_iload_n c_23_30 rfl ?_
                                                                                            refine n_ialoadV c_23_31 sc_6.n rfl rfl rfl (by omega) (t_6k (z := 1) hS378 (by omega) (by omega) (by omega)) ?_
                                                                                            intro z385 ez385 f386
                                                                                            refine n_isub c_23_32 rfl ?_
                                                                                            refine n_aload_n c_23_33 rfl ?_
                                                                                            refine n_getR c_23_34 sc_4.n rfl rfl rfl r_4_4 ?_
                                                                                            refine n_iload_n c_23_37 rfl ?_
                                                                                            refine n_ialoadV c_23_38 sc_7.n rfl rfl rfl (by omega) (t_7k (z := 1) hS378 (by omega) (by omega) (by omega)) ?_
                                                                                            intro z387 ez387 f388
                                                                                            refine n_iadd c_23_39 rfl ?_
                                                                                            refine n_istore_n (L2 := [some (2, 44), some (2, 4), some (0, ((((((((((((((((((((((0 + 1) + 1) + 1) + 1) + 1) + 1) + 1) + 1) + 1) + 1) + 1) + 1) + 1) + 1) + 1) + 1) + 1) + 1) + 1) + 1) + 1) + 1)), some (0, ((z383 - z385) + z387))]) c_23_40 rfl rfl ?_
                                                                                            refine n_aload_n c_23_41 rfl ?_
                                                                                            refine n_getR c_23_42 sc_44.n rfl rfl rfl r_44_4 ?_
                                                                                            refine n_iload_n c_23_45 rfl ?_
                                                                                            refine n_iload_n c_23_46 rfl ?_
                                                                                            refine n_aload_n c_23_47 rfl ?_
                                                                                            refine n_getV (bi := 5) c_23_48 sc_44.n rfl rfl rfl (t_44_5 hS378) ?_
                                                                                            intro z389 ez389 f390
                                                                                            obtain rfl : z389 = 3 := by omega
                                                                                            refine n_iconst c_23_51 ?_
                                                                                            refine n_if2_ne c_23_52 (by omega) (by omega) ?_ ?_
                                                                                            · intro h391
                                                                                              refine n_iconst c_23_59 ?_
                                                                                              have hcst : (((z383 - z385) + z387) : Int) = 2 := by omega
                                                                                              rw [hcst]
                                                                                              refine n_s2I c_23_60 rfl rfl rfl rfl (fmod5_3  hS378 ) ?_
                                                                                              intro z392 M393 hP394
                                                                                              obtain ⟨eM, f394⟩ := hP394
                                                                                              subst eM
                                                                                              obtain rfl : z392 = 2 := by omega
                                                                                              refine n_iastoreV hS378 c_23_63 sc_45.n rfl (by omega) (w_45 (by omega) (by omega)) ?_
                                                                                              intro M395 eM395 hS395
                                                                                              have g395_0 : M395 44 2 = M378 44 2 := by rw [eM395]; exact nu_a (by omega)
                                                                                              have g395_1 : M395 44 0 = M378 44 0 := by rw [eM395]; exact nu_a (by omega)
                                                                                              have g395_2 : M395 44 5 = M378 44 5 := by rw [eM395]; exact nu_a (by omega)
                                                                                              refine n_iinc (L2 := [some (2, 44), some (2, 4), some (0, (((((((((((((((((((((((0 + 1) + 1) + 1) + 1) + 1) + 1) + 1) + 1) + 1) + 1) + 1) + 1) + 1) + 1) + 1) + 1) + 1) + 1) + 1) + 1) + 1) + 1) + 1)), some (0, 2)]) c_23_64 rfl rfl rfl ?_
                                                                                              refine n_goto c_23_67 ?_
                                                                                              refine n_iload_n c_23_12 rfl ?_
                                                                                              refine n_aload_n c_23_13 rfl ?_
                                                                                              refine n_getV (bi := 1) c_23_14 sc_4.n rfl rfl rfl (t_4_1 hS395) ?_
                                                                                              intro z396 ez396 f397
                                                                                              obtain rfl : z396 = 27 := by omega
                                                                                              refine n_if2_ge c_23_17 (by omega) (by omega) ?_ ?_
                                                                                              · intro h398
                                                                                                exfalso; omega
                                                                                              · intro h399
                                                                                                refine n_aload_n c_23_20 rfl ?_
                                                                                                refine n_getR c_23_21 sc_4.n rfl rfl rfl r_4_2 ?_
                                                                                                refine n_iload_n c_23_24 rfl ?_
                                                                                                refine n_ialoadV c_23_25 sc_5.n rfl rfl rfl (by omega) (t_5k (z := 2) hS395 (by omega) (by omega) (by omega)) ?_
                                                                                                intro z400 ez400 f401
                                                                                                refine n_aload_n c_23_26 rfl ?_
                                                                                                refine n_getR c_23_27 sc_4.n rfl rfl rfl r_4_3 ?_
                                                                                                refine n_iload_n c_23_30 rfl ?_
                                                                                                refine n_ialoadV c_23_31 sc_6.n rfl rfl rfl (by omega) (t_6k (z := 1) hS395 (by omega) (by omega) (by omega)) ?_
                                                                                                intro z402 ez402 f403
                                                                                                refine n_isub c_23_32 rfl ?_
                                                                                                refine n_aload_n c_23_33 rfl ?_
                                                                                                refine n_getR c_23_34 sc_4.n rfl rfl rfl r_4_4 ?_
                                                                                                refine n_iload_n c_23_37 rfl ?_
                                                                                                refine n_ialoadV c_23_38 sc_7.n rfl rfl rfl (by omega) (t_7k (z := 2) hS395 (by omega) (by omega) (by omega)) ?_
                                                                                                intro z404 ez404 f405
                                                                                                refine n_iadd c_23_39 rfl ?_
                                                                                                refine n_istore_n (L2 := [some (2, 44), some (2, 4), some (0, (((((((((((((((((((((((0 + 1) + 1) + 1) + 1) + 1) + 1) + 1) + 1) + 1) + 1) + 1) + 1) + 1) + 1) + 1) + 1) + 1) + 1) + 1) + 1) + 1) + 1) + 1)), some (0, ((z400 - z402) + z404))]) c_23_40 rfl rfl ?_
                                                                                                refine n_aload_n c_23_41 rfl ?_
                                                                                                refine n_getR c_23_42 sc_44.n rfl rfl rfl r_44_4 ?_
                                                                                                refine n_iload_n c_23_45 rfl ?_
                                                                                                refine n_iload_n c_23_46 rfl ?_
                                                                                                refine n_aload_n c_23_47 rfl ?_
                                                                                                refine n_getV (bi := 5) c_23_48 sc_44.n rfl rfl rfl (t_44_5 hS395) ?_
                                                                                                intro z406 ez406 f407
                                                                                                obtain rfl : z406 = 3 := by omega
                                                                                                refine n_iconst c_23_51 ?_
                                                                                                refine n_if2_ne c_23_52 (by omega) (by omega) ?_ ?_
                                                                                                · intro h408
                                                                                                  refine n_iconst c_23_59 ?_
                                                                                                  have hcst : (((z400 - z402) + z404) : Int) = 3 := by omega
                                                                                                  rw [hcst]
                                                                                                  refine n_s2I c_23_60 rfl rfl rfl rfl (fmod6_3  hS395 ) ?_
                                                                                                  intro z409 M410 hP411
                                                                                                  obtain ⟨eM, f411⟩ := hP411
                                                                                                  subst eM
                                                                                                  obtain rfl : z409 = 0 := by omega
                                                                                                  refine n_iastoreV hS395 c_23_63 sc_45.n rfl (by omega) (w_45 (by omega) (by omega)) ?_
                                                                                                  intro M412 eM412 hS412
                                                                                                  have g412_0 : M412 44 2 = M395 44 2 := by rw [eM412]; exact nu_a (by omega)
                                                                                                  have g412_1 : M412 44 0 = M395 44 0 := by rw [eM412]; exact nu_a (by omega)
                                                                                                  have g412_2 : M412 44 5 = M395 44 5 := by rw [eM412]; exact nu_a (by omega)
                                                                                                  refine n_iinc (L2 := [some (2, 44), some (2, 4), some (0, ((((((((((((((((((((((((0 + 1) + 1) + 1) + 1) + 1) + 1) + 1) + 1) + 1) + 1) + 1) + 1) + 1) + 1) + 1) + 1) + 1) + 1) + 1) + 1) + 1) + 1) + 1) + 1)), some (0, 3)]) c_23_64 rfl rfl rfl ?_
                                                                                                  refine n_goto c_23_67 ?_
                                                                                                  refine n_iload_n c_23_12 rfl ?_
                                                                                                  refine n_aload_n c_23_13 rfl ?_
                                                                                                  refine n_getV (bi := 1) c_23_14 sc_4.n rfl rfl rfl (t_4_1 hS412) ?_
                                                                                                  intro z413 ez413 f414
                                                                                                  obtain rfl : z413 = 27 := by omega
                                                                                                  refine n_if2_ge c_23_17 (by omega) (by omega) ?_ ?_
                                                                                                  · intro h415
                                                                                                    exfalso; omega
                                                                                                  · intro h416
                                                                                                    refine n_aload_n c_23_20 rfl ?_
                                                                                                    refine n_getR c_23_21 sc_4.n rfl rfl rfl r_4_2 ?_
                                                                                                    refine n_iload_n c_23_24 rfl ?_
                                                                                                    refine n_ialoadV c_23_25 sc_5.n rfl rfl rfl (by omega) (t_5k (z := 2) hS412 (by omega) (by omega) (by omega)) ?_
                                                                                                    intro z417 ez417 f418
                                                                                                    refine n_aload_n c_23_26 rfl ?_
                                                                                                    refine n_getR c_23_27 sc_4.n rfl rfl rfl r_4_3 ?_
                                                                                                    refine n_iload_n c_23_30 rfl ?_
                                                                                                    refine n_ialoadV c_23_31 sc_6.n rfl rfl rfl (by omega) (t_6k (z := 2) hS412 (by omega) (by omega) (by omega)) ?_
                                                                                                    intro z419 ez419 f420
                                                                                                    refine n_isub c_23_32 rfl ?_
                                                                                                    refine n_aload_n c_23_33 rfl ?_
                                                                                                    refine n_getR c_23_34 sc_4.n rfl rfl rfl r_4_4 ?_
                                                                                                    refine n_iload_n c_23_37 rfl ?_
                                                                                                    refine n_ialoadV c_23_38 sc_7.n rfl rfl rfl (by omega) (t_7k (z := 0) hS412 (by omega) (by omega) (by omega)) ?_
                                                                                                    intro z421 ez421 f422
                                                                                                    refine n_iadd c_23_39 rfl ?_
                                                                                                    refine n_istore_n (L2 := [some (2, 44), some (2, 4), some (0, ((((((((((((((((((((((((0 + 1) + 1) + 1) + 1) + 1) + 1) + 1) + 1) + 1) + 1) + 1) + 1) + 1) + 1) + 1) + 1) + 1) + 1) + 1) + 1) + 1) + 1) + 1) + 1)), some (0, ((z417 - z419) + z421))]) c_23_40 rfl rfl ?_
                                                                                                    refine n_aload_n c_23_41 rfl ?_
                                                                                                    refine n_getR c_23_42 sc_44.n rfl rfl rfl r_44_4 ?_
                                                                                                    refine n_iload_n c_23_45 rfl ?_
                                                                                                    refine n_iload_n c_23_46 rfl ?_
                                                                                                    refine n_aload_n c_23_47 rfl ?_
                                                                                                    refine n_getV (bi := 5) c_23_48 sc_44.n rfl rfl rfl (t_44_5 hS412) ?_
                                                                                                    intro z423 ez423 f424
                                                                                                    obtain rfl : z423 = 3 := by omega
                                                                                                    refine n_iconst c_23_51 ?_
                                                                                                    refine n_if2_ne c_23_52 (by omega) (by omega) ?_ ?_
                                                                                                    · intro h425
                                                                                                      refine n_iconst c_23_59 ?_
                                                                                                      have hcst : (((z417 - z419) + z421) : Int) = 0 := by omega
                                                                                                      rw [hcst]
                                                                                                      refine n_s2I c_23_60 rfl rfl rfl rfl (fmod3_3  hS412 ) ?_
                                                                                                      intro z426 M427 hP428
                                                                                                      obtain ⟨eM, f428⟩ := hP428
                                                                                                      subst eM
                                                                                                      obtain rfl : z426 = 0 := by omega
                                                                                                      refine n_iastoreV hS412 c_23_63 sc_45.n rfl (by omega) (w_45 (by omega) (by omega)) ?_
                                                                                                      intro M429 eM429 hS429
                                                                                                      have g429_0 : M429 44 2 = M412 44 2 := by rw [eM429]; exact nu_a (by omega)
                                                                                                      have g429_1 : M429 44 0 = M412 44 0 := by rw [eM429]; exact nu_a (by omega)
                                                                                                      have g429_2 : M429 44 5 = M412 44 5 := by rw [eM429]; exact nu_a (by omega)
                                                                                                      refine n_iinc (L2 := [some (2, 44), some (2, 4), some (0, (((((((((((((((((((((((((0 + 1) + 1) + 1) + 1) + 1) + 1) + 1) + 1) + 1) + 1) + 1) + 1) + 1) + 1) + 1) + 1) + 1) + 1) + 1) + 1) + 1) + 1) + 1) + 1) + 1)), some (0, 0)]) c_23_64 rfl rfl rfl ?_
                                                                                                      refine n_goto c_23_67 ?_
                                                                                                      refine n_iload_n c_23_12 rfl ?_
                                                                                                      refine n_aload_n c_23_13 rfl ?_
                                                                                                      refine n_getV (bi := 1) c_23_14 sc_4.n rfl rfl rfl (t_4_1 hS429) ?_
                                                                                                      intro z430 ez430 f431
                                                                                                      obtain rfl : z430 = 27 := by omega
                                                                                                      refine n_if2_ge c_23_17 (by omega) (by omega) ?_ ?_
                                                                                                      · intro h432
                                                                                                        exfalso; omega
                                                                                                      · intro h433
                                                                                                        refine n_aload_n c_23_20 rfl ?_
                                                                                                        refine n_getR c_23_21 sc_4.n rfl rfl rfl r_4_2 ?_
                                                                                                        refine n_iload_n c_23_24 rfl ?_
                                                                                                        refine n_ialoadV c_23_25 sc_5.n rfl rfl rfl (by omega) (t_5k (z := 2) hS429 (by omega) (by omega) (by omega)) ?_
                                                                                                        intro z434 ez434 f435
                                                                                                        refine n_aload_n c_23_26 rfl ?_
                                                                                                        refine n_getR c_23_27 sc_4.n rfl rfl rfl r_4_3 ?_
                                                                                                        refine n_iload_n c_23_30 rfl ?_
                                                                                                        refine n_ialoadV c_23_31 sc_6.n rfl rfl rfl (by omega) (t_6k (z := 2) hS429 (by omega) (by omega) (by omega)) ?_
                                                                                                        intro z436 ez436 f437
                                                                                                        refine n_isub c_23_32 rfl ?_
                                                                                                        refine n_aload_n c_23_33 rfl ?_
                                                                                                        refine n_getR c_23_34 sc_4.n rfl rfl rfl r_4_4 ?_
                                                                                                        refine n_iload_n c_23_37 rfl ?_
                                                                                                        refine n_ialoadV c_23_38 sc_7.n rfl rfl rfl (by omega) (t_7k (z := 1) hS429 (by omega) (by omega) (by omega)) ?_
                                                                                                        intro z438 ez438 f439
                                                                                                        refine n_iadd c_23_39 rfl ?_
                                                                                                        refine n_istore_n (L2 := [some (2, 44), some (2, 4), some (0, (((((((((((((((((((((((((0 + 1) + 1) + 1) + 1) + 1) + 1) + 1) + 1) + 1) + 1) + 1) + 1) + 1) + 1) + 1) + 1) + 1) + 1) + 1) + 1) + 1) + 1) + 1) + 1) + 1)), some (0, ((z434 - z436) + z438))]) c_23_40 rfl rfl ?_
                                                                                                        refine n_aload_n c_23_41 rfl ?_
                                                                                                        refine n_getR c_23_42 sc_44.n rfl rfl rfl r_44_4 ?_
                                                                                                        refine n_iload_n c_23_45 rfl ?_
                                                                                                        refine n_iload_n c_23_46 rfl ?_
                                                                                                        refine n_aload_n c_23_47 rfl ?_
                                                                                                        refine n_getV (bi := 5) c_23_48 sc_44.n rfl rfl rfl (t_44_5 hS429) ?_
                                                                                                        intro z440 ez440 f441
                                                                                                        obtain rfl : z440 = 3 := by omega
                                                                                                        refine n_iconst c_23_51 ?_
                                                                                                        refine n_if2_ne c_23_52 (by omega) (by omega) ?_ ?_
                                                                                                        · intro h442
                                                                                                          refine n_iconst c_23_59 ?_
                                                                                                          have hcst : (((z434 - z436) + z438) : Int) = 1 := by omega
                                                                                                          rw [hcst]
                                                                                                          refine n_s2I c_23_60 rfl rfl rfl rfl (fmod4_3  hS429 ) ?_
                                                                                                          intro z443 M444 hP445
                                                                                                          obtain ⟨eM, f445⟩ := hP445
                                                                                                          subst eM
                                                                                                          obtain rfl : z443 = 1 := by omega
                                                                                                          refine n_iastoreV hS429 c_23_63 sc_45.n rfl (by omega) (w_45 (by omega) (by omega)) ?_
                                                                                                          intro M446 eM446 hS446
                                                                                                          have g446_0 : M446 44 2 = M429 44 2 := by rw [eM446]; exact nu_a (by omega)
                                                                                                          have g446_1 : M446 44 0 = M429 44 0 := by rw [eM446]; exact nu_a (by omega)
                                                                                                          have g446_2 : M446 44 5 = M429 44 5 := by rw [eM446]; exact nu_a (by omega)
                                                                                                          refine n_iinc (L2 := [some (2, 44), some (2, 4), some (0, ((((((((((((((((((((((((((0 + 1) + 1) + 1) + 1) + 1) + 1) + 1) + 1) + 1) + 1) + 1) + 1) + 1) + 1) + 1) + 1) + 1) + 1) + 1) + 1) + 1) + 1) + 1) + 1) + 1) + 1)), some (0, 1)]) c_23_64 rfl rfl rfl ?_
                                                                                                          refine n_goto c_23_67 ?_
                                                                                                          refine n_iload_n c_23_12 rfl ?_
                                                                                                          refine n_aload_n c_23_13 rfl ?_
                                                                                                          refine n_getV (bi := 1) c_23_14 sc_4.n rfl rfl rfl (t_4_1 hS446) ?_
                                                                                                          intro z447 ez447 f448
                                                                                                          obtain rfl : z447 = 27 := by omega
                                                                                                          refine n_if2_ge c_23_17 (by omega) (by omega) ?_ ?_
                                                                                                          · intro h449
                                                                                                            exfalso; omega
                                                                                                          · intro h450
                                                                                                            refine n_aload_n c_23_20 rfl ?_
                                                                                                            refine n_getR c_23_21 sc_4.n rfl rfl rfl r_4_2 ?_
                                                                                                            refine n_iload_n c_23_24 rfl ?_
                                                                                                            refine n_ialoadV c_23_25 sc_5.n rfl rfl rfl (by omega) (t_5k (z := 2) hS446 (by omega) (by omega) (by omega)) ?_
                                                                                                            intro z451 ez451 f452
                                                                                                            refine n_aload_n c_23_26 rfl ?_
                                                                                                            refine n_getR c_23_27 sc_4.n rfl rfl rfl r_4_3 ?_
                                                                                                            refine n_iload_n c_23_30 rfl ?_
                                                                                                            refine n_ialoadV c_23_31 sc_6.n rfl rfl rfl (by omega) (t_6k (z := 2) hS446 (by omega) (by omega) (by omega)) ?_
                                                                                                            intro z453 ez453 f454
                                                                                                            refine n_isub c_23_32 rfl ?_
                                                                                                            refine n_aload_n c_23_33 rfl ?_
                                                                                                            refine n_getR c_23_34 sc_4.n rfl rfl rfl r_4_4 ?_
                                                                                                            refine n_iload_n c_23_37 rfl ?_
                                                                                                            refine n_ialoadV c_23_38 sc_7.n rfl rfl rfl (by omega) (t_7k (z := 2) hS446 (by omega) (by omega) (by omega)) ?_
                                                                                                            intro z455 ez455 f456
                                                                                                            refine n_iadd c_23_39 rfl ?_
                                                                                                            refine n_istore_n (L2 := [some (2, 44), some (2, 4), some (0, ((((((((((((((((((((((((((0 + 1) + 1) + 1) + 1) + 1) + 1) + 1) + 1) + 1) + 1) + 1) + 1) + 1) + 1) + 1) + 1) + 1) + 1) + 1) + 1) + 1) + 1) + 1) + 1) + 1) + 1)), some (0, ((z451 - z453) + z455))]) c_23_40 rfl rfl ?_
                                                                                                            refine n_aload_n c_23_41 rfl ?_
                                                                                                            refine n_getR c_23_42 sc_44.n rfl rfl rfl r_44_4 ?_
                                                                                                            refine n_iload_n c_23_45 rfl ?_
                                                                                                            refine n_iload_n c_23_46 rfl ?_
                                                                                                            refine n_aload_n c_23_47 rfl ?_
                                                                                                            refine n_getV (bi := 5) c_23_48 sc_44.n rfl rfl rfl (t_44_5 hS446) ?_
                                                                                                            intro z457 ez457 f458
                                                                                                            obtain rfl : z457 = 3 := by omega
                                                                                                            refine n_iconst c_23_51 ?_
                                                                                                            refine n_if2_ne c_23_52 (by omega) (by omega) ?_ ?_
                                                                                                            · intro h459
                                                                                                              refine n_iconst c_23_59 ?_
                                                                                                              have hcst : (((z451 - z453) + z455) : Int) = 2 := by omega
                                                                                                              rw [hcst]
                                                                                                              refine n_s2I c_23_60 rfl rfl rfl rfl (fmod5_3  hS446 ) ?_
                                                                                                              intro z460 M461 hP462
                                                                                                              obtain ⟨eM, f462⟩ := hP462
                                                                                                              subst eM
                                                                                                              obtain rfl : z460 = 2 := by omega
                                                                                                              refine n_iastoreV hS446 c_23_63 sc_45.n rfl (by omega) (w_45 (by omega) (by omega)) ?_
                                                                                                              intro M463 eM463 hS463
                                                                                                              have g463_0 : M463 44 2 = M446 44 2 := by rw [eM463]; exact nu_a (by omega)
                                                                                                              have g463_1 : M463 44 0 = M446 44 0 := by rw [eM463]; exact nu_a (by omega)
                                                                                                              have g463_2 : M463 44 5 = M446 44 5 := by rw [eM463]; exact nu_a (by omega)
                                                                                                              refine n_iinc (L2 := [some (2, 44), some (2, 4), some (0, (((((((((((((((((((((((((((0 + 1) + 1) + 1) + 1) + 1) + 1) + 1) + 1) + 1) + 1) + 1) + 1) + 1) + 1) + 1) + 1) + 1) + 1) + 1) + 1) + 1) + 1) + 1) + 1) + 1) + 1) + 1)), some (0, 2)]) c_23_64 rfl rfl rfl ?_
                                                                                                              refine n_goto c_23_67 ?_
                                                                                                              refine n_iload_n c_23_12 rfl ?_
                                                                                                              refine n_aload_n c_23_13 rfl ?_
                                                                                                              refine n_getV (bi := 1) c_23_14 sc_4.n rfl rfl rfl (t_4_1 hS463) ?_
                                                                                                              intro z464 ez464 f465
                                                                                                              obtain rfl : z464 = 27 := by omega
                                                                                                              refine n_if2_ge c_23_17 (by omega) (by omega) ?_ ?_
                                                                                                              · intro h466
                                                                                                                exact n_rV c_23_70 rfl hS463
                                                                                                              · intro h467
                                                                                                                exfalso; omega
                                                                                                            · intro h468
                                                                                                              exfalso; omega
                                                                                                        · intro h469
                                                                                                          exfalso; omega
                                                                                                    · intro h470
                                                                                                      exfalso; omega
                                                                                                · intro h471
                                                                                                  exfalso; omega
                                                                                            · intro h472
                                                                                              exfalso; omega
                                                                                        · intro h473
                                                                                          exfalso; omega
                                                                                    · intro h474
                                                                                      exfalso; omega
                                                                                · intro h475
                                                                                  exfalso; omega
                                                                            · intro h476
                                                                              exfalso; omega
                                                                        · intro h477
                                                                          exfalso; omega
                                                                    · intro h478
                                                                      exfalso; omega
                                                                · intro h479
                                                                  exfalso; omega
                                                            · intro h480
                                                              exfalso; omega
                                                        · intro h481
                                                          exfalso; omega
                                                    · intro h482
                                                      exfalso; omega
                                                · intro h483
                                                  exfalso; omega
                                            · intro h484
                                              exfalso; omega
                                        · intro h485
                                          exfalso; omega
                                    · intro h486
                                      exfalso; omega
                                · intro h487
                                  exfalso; omega
                            · intro h488
                              exfalso; omega
                        · intro h489
                          exfalso; omega
                    · intro h490
                      exfalso; omega
                · intro h491
                  exfalso; omega
            · intro h492
              exfalso; omega
        · intro h493
          exfalso; omega
    · intro h494
      exfalso; omega
