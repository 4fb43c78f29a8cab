/-! The methods, by program. -/
set_option maxHeartbeats 4000000 in
theorem beSum_2 {xs : List Int32} {e : Nat} {ac : Int} {M0 M : nM} (hS : Sf 2 ac M0 M)  : nW xs (e + 1) 23 0 [some (2, 44), some (2, 4), none, none] [] M (nPV fun M1 => Sf 2 ac M0 M1) := by
  have hd : (2 : Int) = 2 ∨ (2 : Int) = 3 := by decide
  have hac := hS.2.2.2.2
  refine n_aload_n c_23_0 rfl ?_
  refine n_iconst c_23_1 ?_
  refine n_aload_n c_23_2 rfl ?_
  refine n_getV (bi := 0) c_23_3 sc_4.n rfl rfl rfl (t_4_0 hS) ?_
  intro z1 ez1 f2
  obtain rfl : z1 = 2 := by omega
  refine n_aload_n c_23_6 rfl ?_
  refine n_v3V c_23_7 rfl sc_44.n rfl rfl rfl rfl (begin_2 (n := 3) (c := 2) hS (by omega) (by omega)) ?_
  intro  M3 hP4
  obtain ⟨hS3, f4p0⟩ := hP4
  refine n_iconst c_23_10 ?_
  refine n_istore_n (L2 := [some (2, 44), some (2, 4), some (0, 0), none]) c_23_11 rfl rfl ?_
  refine n_iload_n c_23_12 rfl ?_
  refine n_aload_n c_23_13 rfl ?_
  refine n_getV (bi := 1) c_23_14 sc_4.n rfl rfl rfl (t_4_1 hS3) ?_
  intro z5 ez5 f6
  obtain rfl : z5 = 8 := by omega
  refine n_if2_ge c_23_17 (by omega) (by omega) ?_ ?_
  · intro h7
    exfalso; omega
  · intro h8
    refine n_aload_n c_23_20 rfl ?_
    refine n_getR c_23_21 sc_4.n rfl rfl rfl r_4_2 ?_
    refine n_iload_n c_23_24 rfl ?_
    refine n_ialoadV c_23_25 sc_5.n rfl rfl rfl (by omega) (t_5k (z := 0) hS3 (by omega) (by omega) (by omega)) ?_
    intro z9 ez9 f10
    refine n_aload_n c_23_26 rfl ?_
    refine n_getR c_23_27 sc_4.n rfl rfl rfl r_4_3 ?_
    refine n_iload_n c_23_30 rfl ?_
    refine n_ialoadV c_23_31 sc_6.n rfl rfl rfl (by omega) (t_6k (z := 0) hS3 (by omega) (by omega) (by omega)) ?_
    intro z11 ez11 f12
    refine n_isub c_23_32 rfl ?_
    refine n_aload_n c_23_33 rfl ?_
    refine n_getR c_23_34 sc_4.n rfl rfl rfl r_4_4 ?_
    refine n_iload_n c_23_37 rfl ?_
    refine n_ialoadV c_23_38 sc_7.n rfl rfl rfl (by omega) (t_7k (z := 0) hS3 (by omega) (by omega) (by omega)) ?_
    intro z13 ez13 f14
    refine n_iadd c_23_39 rfl ?_
    refine n_istore_n (L2 := [some (2, 44), some (2, 4), some (0, 0), some (0, ((z9 - z11) + z13))]) c_23_40 rfl rfl ?_
    refine n_aload_n c_23_41 rfl ?_
    refine n_getR c_23_42 sc_44.n rfl rfl rfl r_44_4 ?_
    refine n_iload_n c_23_45 rfl ?_
    refine n_iload_n c_23_46 rfl ?_
    refine n_aload_n c_23_47 rfl ?_
    refine n_getV (bi := 5) c_23_48 sc_44.n rfl rfl rfl (t_44_5 hS3) ?_
    intro z15 ez15 f16
    obtain rfl : z15 = 2 := by omega
    refine n_iconst c_23_51 ?_
    refine n_if2_ne c_23_52 (by omega) (by omega) ?_ ?_
    · intro h17
      exfalso; omega
    · intro h18
      refine n_iconst c_23_55 ?_
      refine n_goto c_23_56 ?_
      have hcst : (((z9 - z11) + z13) : Int) = 0 := by omega
      rw [hcst]
      refine n_s2I c_23_60 rfl rfl rfl rfl (fmod2_2  hS3 ) ?_
      intro z19 M20 hP21
      obtain ⟨eM, f21⟩ := hP21
      subst eM
      obtain rfl : z19 = 0 := by omega
      refine n_iastoreV hS3 c_23_63 sc_45.n rfl (by omega) (w_45 (by omega) (by omega)) ?_
      intro M22 eM22 hS22
      have g22_0 : M22 44 2 = M3 44 2 := by rw [eM22]; exact nu_a (by omega)
      have g22_1 : M22 44 0 = M3 44 0 := by rw [eM22]; exact nu_a (by omega)
      have g22_2 : M22 44 5 = M3 44 5 := by rw [eM22]; exact nu_a (by omega)
      have g22_3 : M22 45 0 = 0 := by rw [eM22]; exact nu_s _ _ _ _
      refine n_iinc (L2 := [some (2, 44), some (2, 4), some (0, (0 + 1)), some (0, 0)]) c_23_64 rfl rfl rfl ?_
      refine n_goto c_23_67 ?_
      refine n_iload_n c_23_12 rfl ?_
      refine n_aload_n c_23_13 rfl ?_
      refine n_getV (bi := 1) c_23_14 sc_4.n rfl rfl rfl (t_4_1 hS22) ?_
      intro z23 ez23 f24
      obtain rfl : z23 = 8 := by omega
      refine n_if2_ge c_23_17 (by omega) (by omega) ?_ ?_
      · intro h25
        exfalso; omega
      · intro h26
        refine n_aload_n c_23_20 rfl ?_
        refine n_getR c_23_21 sc_4.n rfl rfl rfl r_4_2 ?_
        refine n_iload_n c_23_24 rfl ?_
        refine n_ialoadV c_23_25 sc_5.n rfl rfl rfl (by omega) (t_5k (z := 0) hS22 (by omega) (by omega) (by omega)) ?_
        intro z27 ez27 f28
        refine n_aload_n c_23_26 rfl ?_
        refine n_getR c_23_27 sc_4.n rfl rfl rfl r_4_3 ?_
        refine n_iload_n c_23_30 rfl ?_
        refine n_ialoadV c_23_31 sc_6.n rfl rfl rfl (by omega) (t_6k (z := 0) hS22 (by omega) (by omega) (by omega)) ?_
        intro z29 ez29 f30
        refine n_isub c_23_32 rfl ?_
        refine n_aload_n c_23_33 rfl ?_
        refine n_getR c_23_34 sc_4.n rfl rfl rfl r_4_4 ?_
        refine n_iload_n c_23_37 rfl ?_
        refine n_ialoadV c_23_38 sc_7.n rfl rfl rfl (by omega) (t_7k (z := 1) hS22 (by omega) (by omega) (by omega)) ?_
        intro z31 ez31 f32
        refine n_iadd c_23_39 rfl ?_
        refine n_istore_n (L2 := [some (2, 44), some (2, 4), some (0, (0 + 1)), some (0, ((z27 - z29) + z31))]) c_23_40 rfl rfl ?_
        refine n_aload_n c_23_41 rfl ?_
        refine n_getR c_23_42 sc_44.n rfl rfl rfl r_44_4 ?_
        refine n_iload_n c_23_45 rfl ?_
        refine n_iload_n c_23_46 rfl ?_
        refine n_aload_n c_23_47 rfl ?_
        refine n_getV (bi := 5) c_23_48 sc_44.n rfl rfl rfl (t_44_5 hS22) ?_
        intro z33 ez33 f34
        obtain rfl : z33 = 2 := by omega
        refine n_iconst c_23_51 ?_
        refine n_if2_ne c_23_52 (by omega) (by omega) ?_ ?_
        · intro h35
          exfalso; omega
        · intro h36
          refine n_iconst c_23_55 ?_
          refine n_goto c_23_56 ?_
          have hcst : (((z27 - z29) + z31) : Int) = 1 := by omega
          rw [hcst]
          refine n_s2I c_23_60 rfl rfl rfl rfl (fmod3_2  hS22 ) ?_
          intro z37 M38 hP39
          obtain ⟨eM, f39⟩ := hP39
          subst eM
          obtain rfl : z37 = 1 := by omega
          refine n_iastoreV hS22 c_23_63 sc_45.n rfl (by omega) (w_45 (by omega) (by omega)) ?_
          intro M40 eM40 hS40
          have g40_0 : M40 44 2 = M22 44 2 := by rw [eM40]; exact nu_a (by omega)
          have g40_1 : M40 44 0 = M22 44 0 := by rw [eM40]; exact nu_a (by omega)
          have g40_2 : M40 44 5 = M22 44 5 := by rw [eM40]; exact nu_a (by omega)
          have g40_3 : M40 45 (0 + 1) = 1 := by rw [eM40]; exact nu_s _ _ _ _
          refine n_iinc (L2 := [some (2, 44), some (2, 4), some (0, ((0 + 1) + 1)), some (0, 1)]) c_23_64 rfl rfl rfl ?_
          refine n_goto c_23_67 ?_
          refine n_iload_n c_23_12 rfl ?_
          refine n_aload_n c_23_13 rfl ?_
          refine n_getV (bi := 1) c_23_14 sc_4.n rfl rfl rfl (t_4_1 hS40) ?_
          intro z41 ez41 f42
          obtain rfl : z41 = 8 := by omega
          refine n_if2_ge c_23_17 (by omega) (by omega) ?_ ?_
          · intro h43
            exfalso; omega
          · intro h44
            refine n_aload_n c_23_20 rfl ?_
            refine n_getR c_23_21 sc_4.n rfl rfl rfl r_4_2 ?_
            refine n_iload_n c_23_24 rfl ?_
            refine n_ialoadV c_23_25 sc_5.n rfl rfl rfl (by omega) (t_5k (z := 0) hS40 (by omega) (by omega) (by omega)) ?_
            intro z45 ez45 f46
            refine n_aload_n c_23_26 rfl ?_
            refine n_getR c_23_27 sc_4.n rfl rfl rfl r_4_3 ?_
            refine n_iload_n c_23_30 rfl ?_
            refine n_ialoadV c_23_31 sc_6.n rfl rfl rfl (by omega) (t_6k (z := 1) hS40 (by omega) (by omega) (by omega)) ?_
            intro z47 ez47 f48
            refine n_isub c_23_32 rfl ?_
            refine n_aload_n c_23_33 rfl ?_
            refine n_getR c_23_34 sc_4.n rfl rfl rfl r_4_4 ?_
            refine n_iload_n c_23_37 rfl ?_
            refine n_ialoadV c_23_38 sc_7.n rfl rfl rfl (by omega) (t_7k (z := 0) hS40 (by omega) (by omega) (by omega)) ?_
            intro z49 ez49 f50
            refine n_iadd c_23_39 rfl ?_
            refine n_istore_n (L2 := [some (2, 44), some (2, 4), some (0, ((0 + 1) + 1)), some (0, ((z45 - z47) + z49))]) c_23_40 rfl rfl ?_
            refine n_aload_n c_23_41 rfl ?_
            refine n_getR c_23_42 sc_44.n rfl rfl rfl r_44_4 ?_
            refine n_iload_n c_23_45 rfl ?_
            refine n_iload_n c_23_46 rfl ?_
            refine n_aload_n c_23_47 rfl ?_
            refine n_getV (bi := 5) c_23_48 sc_44.n rfl rfl rfl (t_44_5 hS40) ?_
            intro z51 ez51 f52
            obtain rfl : z51 = 2 := by omega
            refine n_iconst c_23_51 ?_
            refine n_if2_ne c_23_52 (by omega) (by omega) ?_ ?_
            · intro h53
              exfalso; omega
            · intro h54
              refine n_iconst c_23_55 ?_
              refine n_goto c_23_56 ?_
              have hcst : (((z45 - z47) + z49) : Int) = (-1) := by omega
              rw [hcst]
              refine n_s2I c_23_60 rfl rfl rfl rfl (fmod1_2  hS40 ) ?_
              intro z55 M56 hP57
              obtain ⟨eM, f57⟩ := hP57
              subst eM
              obtain rfl : z55 = 1 := by omega
              refine n_iastoreV hS40 c_23_63 sc_45.n rfl (by omega) (w_45 (by omega) (by omega)) ?_
              intro M58 eM58 hS58
              have g58_0 : M58 44 2 = M40 44 2 := by rw [eM58]; exact nu_a (by omega)
              have g58_1 : M58 44 0 = M40 44 0 := by rw [eM58]; exact nu_a (by omega)
              have g58_2 : M58 44 5 = M40 44 5 := by rw [eM58]; exact nu_a (by omega)
              have g58_3 : M58 45 ((0 + 1) + 1) = 1 := by rw [eM58]; exact nu_s _ _ _ _
              refine n_iinc (L2 := [some (2, 44), some (2, 4), some (0, (((0 + 1) + 1) + 1)), some (0, (-1))]) c_23_64 rfl rfl rfl ?_
              refine n_goto c_23_67 ?_
              refine n_iload_n c_23_12 rfl ?_
              refine n_aload_n c_23_13 rfl ?_
              refine n_getV (bi := 1) c_23_14 sc_4.n rfl rfl rfl (t_4_1 hS58) ?_
              intro z59 ez59 f60
              obtain rfl : z59 = 8 := by omega
              refine n_if2_ge c_23_17 (by omega) (by omega) ?_ ?_
              · intro h61
                exfalso; omega
              · intro h62
                refine n_aload_n c_23_20 rfl ?_
                refine n_getR c_23_21 sc_4.n rfl rfl rfl r_4_2 ?_
                refine n_iload_n c_23_24 rfl ?_
                refine n_ialoadV c_23_25 sc_5.n rfl rfl rfl (by omega) (t_5k (z := 0) hS58 (by omega) (by omega) (by omega)) ?_
                intro z63 ez63 f64
                refine n_aload_n c_23_26 rfl ?_
                refine n_getR c_23_27 sc_4.n rfl rfl rfl r_4_3 ?_
                refine n_iload_n c_23_30 rfl ?_
                refine n_ialoadV c_23_31 sc_6.n rfl rfl rfl (by omega) (t_6k (z := 1) hS58 (by omega) (by omega) (by omega)) ?_
                intro z65 ez65 f66
                refine n_isub c_23_32 rfl ?_
                refine n_aload_n c_23_33 rfl ?_
                refine n_getR c_23_34 sc_4.n rfl rfl rfl r_4_4 ?_
                refine n_iload_n c_23_37 rfl ?_
                refine n_ialoadV c_23_38 sc_7.n rfl rfl rfl (by omega) (t_7k (z := 1) hS58 (by omega) (by omega) (by omega)) ?_
                intro z67 ez67 f68
                refine n_iadd c_23_39 rfl ?_
                refine n_istore_n (L2 := [some (2, 44), some (2, 4), some (0, (((0 + 1) + 1) + 1)), some (0, ((z63 - z65) + z67))]) c_23_40 rfl rfl ?_
                refine n_aload_n c_23_41 rfl ?_
                refine n_getR c_23_42 sc_44.n rfl rfl rfl r_44_4 ?_
                refine n_iload_n c_23_45 rfl ?_
                refine n_iload_n c_23_46 rfl ?_
                refine n_aload_n c_23_47 rfl ?_
                refine n_getV (bi := 5) c_23_48 sc_44.n rfl rfl rfl (t_44_5 hS58) ?_
                intro z69 ez69 f70
                obtain rfl : z69 = 2 := by omega
                refine n_iconst c_23_51 ?_
                refine n_if2_ne c_23_52 (by omega) (by omega) ?_ ?_
                · intro h71
                  exfalso; omega
                · intro h72
                  refine n_iconst c_23_55 ?_
                  refine n_goto c_23_56 ?_
                  have hcst : (((z63 - z65) + z67) : Int) = 0 := by omega
                  rw [hcst]
                  refine n_s2I c_23_60 rfl rfl rfl rfl (fmod2_2  hS58 ) ?_
                  intro z73 M74 hP75
                  obtain ⟨eM, f75⟩ := hP75
                  subst eM
                  obtain rfl : z73 = 0 := by omega
                  refine n_iastoreV hS58 c_23_63 sc_45.n rfl (by omega) (w_45 (by omega) (by omega)) ?_
                  intro M76 eM76 hS76
                  have g76_0 : M76 44 2 = M58 44 2 := by rw [eM76]; exact nu_a (by omega)
                  have g76_1 : M76 44 0 = M58 44 0 := by rw [eM76]; exact nu_a (by omega)
                  have g76_2 : M76 44 5 = M58 44 5 := by rw [eM76]; exact nu_a (by omega)
                  have g76_3 : M76 45 (((0 + 1) + 1) + 1) = 0 := by rw [eM76]; exact nu_s _ _ _ _
                  refine n_iinc (L2 := [some (2, 44), some (2, 4), some (0, ((((0 + 1) + 1) + 1) + 1)), some (0, 0)]) c_23_64 rfl rfl rfl ?_
                  refine n_goto c_23_67 ?_
                  refine n_iload_n c_23_12 rfl ?_
                  refine n_aload_n c_23_13 rfl ?_
                  refine n_getV (bi := 1) c_23_14 sc_4.n rfl rfl rfl (t_4_1 hS76) ?_
                  intro z77 ez77 f78
                  obtain rfl : z77 = 8 := by omega
                  refine n_if2_ge c_23_17 (by omega) (by omega) ?_ ?_
                  · intro h79
                    exfalso; omega
                  · intro h80
                    refine n_aload_n c_23_20 rfl ?_
                    refine n_getR c_23_21 sc_4.n rfl rfl rfl r_4_2 ?_
                    refine n_iload_n c_23_24 rfl ?_
                    refine n_ialoadV c_23_25 sc_5.n rfl rfl rfl (by omega) (t_5k (z := 1) hS76 (by omega) (by omega) (by omega)) ?_
                    intro z81 ez81 f82
                    refine n_aload_n c_23_26 rfl ?_
                    refine n_getR c_23_27 sc_4.n rfl rfl rfl r_4_3 ?_
                    refine n_iload_n c_23_30 rfl ?_
                    refine n_ialoadV c_23_31 sc_6.n rfl rfl rfl (by omega) (t_6k (z := 0) hS76 (by omega) (by omega) (by omega)) ?_
                    intro z83 ez83 f84
                    refine n_isub c_23_32 rfl ?_
                    refine n_aload_n c_23_33 rfl ?_
                    refine n_getR c_23_34 sc_4.n rfl rfl rfl r_4_4 ?_
                    refine n_iload_n c_23_37 rfl ?_
                    refine n_ialoadV c_23_38 sc_7.n rfl rfl rfl (by omega) (t_7k (z := 0) hS76 (by omega) (by omega) (by omega)) ?_
                    intro z85 ez85 f86
                    refine n_iadd c_23_39 rfl ?_
                    refine n_istore_n (L2 := [some (2, 44), some (2, 4), some (0, ((((0 + 1) + 1) + 1) + 1)), some (0, ((z81 - z83) + z85))]) c_23_40 rfl rfl ?_
                    refine n_aload_n c_23_41 rfl ?_
                    refine n_getR c_23_42 sc_44.n rfl rfl rfl r_44_4 ?_
                    refine n_iload_n c_23_45 rfl ?_
                    refine n_iload_n c_23_46 rfl ?_
                    refine n_aload_n c_23_47 rfl ?_
                    refine n_getV (bi := 5) c_23_48 sc_44.n rfl rfl rfl (t_44_5 hS76) ?_
                    intro z87 ez87 f88
                    obtain rfl : z87 = 2 := by omega
                    refine n_iconst c_23_51 ?_
                    refine n_if2_ne c_23_52 (by omega) (by omega) ?_ ?_
                    · intro h89
                      exfalso; omega
                    · intro h90
                      refine n_iconst c_23_55 ?_
                      refine n_goto c_23_56 ?_
                      have hcst : (((z81 - z83) + z85) : Int) = 1 := by omega
                      rw [hcst]
                      refine n_s2I c_23_60 rfl rfl rfl rfl (fmod3_2  hS76 ) ?_
                      intro z91 M92 hP93
                      obtain ⟨eM, f93⟩ := hP93
                      subst eM
                      obtain rfl : z91 = 1 := by omega
                      refine n_iastoreV hS76 c_23_63 sc_45.n rfl (by omega) (w_45 (by omega) (by omega)) ?_
                      intro M94 eM94 hS94
                      have g94_0 : M94 44 2 = M76 44 2 := by rw [eM94]; exact nu_a (by omega)
                      have g94_1 : M94 44 0 = M76 44 0 := by rw [eM94]; exact nu_a (by omega)
                      have g94_2 : M94 44 5 = M76 44 5 := by rw [eM94]; exact nu_a (by omega)
                      have g94_3 : M94 45 ((((0 + 1) + 1) + 1) + 1) = 1 := by rw [eM94]; exact nu_s _ _ _ _
                      refine n_iinc (L2 := [some (2, 44), some (2, 4), some (0, (((((0 + 1) + 1) + 1) + 1) + 1)), some (0, 1)]) c_23_64 rfl rfl rfl ?_
                      refine n_goto c_23_67 ?_
                      refine n_iload_n c_23_12 rfl ?_
                      refine n_aload_n c_23_13 rfl ?_
                      refine n_getV (bi := 1) c_23_14 sc_4.n rfl rfl rfl (t_4_1 hS94) ?_
                      intro z95 ez95 f96
                      obtain rfl : z95 = 8 := by omega
                      refine n_if2_ge c_23_17 (by omega) (by omega) ?_ ?_
                      · intro h97
                        exfalso; omega
                      · intro h98
                        refine n_aload_n c_23_20 rfl ?_
                        refine n_getR c_23_21 sc_4.n rfl rfl rfl r_4_2 ?_
                        refine n_iload_n c_23_24 rfl ?_
                        refine n_ialoadV c_23_25 sc_5.n rfl rfl rfl (by omega) (t_5k (z := 1) hS94 (by omega) (by omega) (by omega)) ?_
                        intro z99 ez99 f100
                        refine n_aload_n c_23_26 rfl ?_
                        refine n_getR c_23_27 sc_4.n rfl rfl rfl r_4_3 ?_
                        refine n_iload_n c_23_30 rfl ?_
                        refine n_ialoadV c_23_31 sc_6.n rfl rfl rfl (by omega) (t_6k (z := 0) hS94 (by omega) (by omega) (by omega)) ?_
                        intro z101 ez101 f102
                        refine n_isub c_23_32 rfl ?_
                        refine n_aload_n c_23_33 rfl ?_
                        refine n_getR c_23_34 sc_4.n rfl rfl rfl r_4_4 ?_
                        refine n_iload_n c_23_37 rfl ?_
                        refine n_ialoadV c_23_38 sc_7.n rfl rfl rfl (by omega) (t_7k (z := 1) hS94 (by omega) (by omega) (by omega)) ?_
                        intro z103 ez103 f104
                        refine n_iadd c_23_39 rfl ?_
                        refine n_istore_n (L2 := [some (2, 44), some (2, 4), some (0, (((((0 + 1) + 1) + 1) + 1) + 1)), some (0, ((z99 - z101) + z103))]) c_23_40 rfl rfl ?_
                        refine n_aload_n c_23_41 rfl ?_
                        refine n_getR c_23_42 sc_44.n rfl rfl rfl r_44_4 ?_
                        refine n_iload_n c_23_45 rfl ?_
                        refine n_iload_n c_23_46 rfl ?_
                        refine n_aload_n c_23_47 rfl ?_
                        refine n_getV (bi := 5) c_23_48 sc_44.n rfl rfl rfl (t_44_5 hS94) ?_
                        intro z105 ez105 f106
                        obtain rfl : z105 = 2 := by omega
                        refine n_iconst c_23_51 ?_
                        refine n_if2_ne c_23_52 (by omega) (by omega) ?_ ?_
                        · intro h107
                          exfalso; omega
                        · intro h108
                          refine n_iconst c_23_55 ?_
                          refine n_goto c_23_56 ?_
                          have hcst : (((z99 - z101) + z103) : Int) = 2 := by omega
                          rw [hcst]
                          refine n_s2I c_23_60 rfl rfl rfl rfl (fmod4_2  hS94 ) ?_
                          intro z109 M110 hP111
                          obtain ⟨eM, f111⟩ := hP111
                          subst eM
                          obtain rfl : z109 = 0 := by omega
                          refine n_iastoreV hS94 c_23_63 sc_45.n rfl (by omega) (w_45 (by omega) (by omega)) ?_
                          intro M112 eM112 hS112
                          have g112_0 : M112 44 2 = M94 44 2 := by rw [eM112]; exact nu_a (by omega)
                          have g112_1 : M112 44 0 = M94 44 0 := by rw [eM112]; exact nu_a (by omega)
                          have g112_2 : M112 44 5 = M94 44 5 := by rw [eM112]; exact nu_a (by omega)
                          have g112_3 : M112 45 (((((0 + 1) + 1) + 1) + 1) + 1) = 0 := by rw [eM112]; exact nu_s _ _ _ _
                          refine n_iinc (L2 := [some (2, 44), some (2, 4), some (0, ((((((0 + 1) + 1) + 1) + 1) + 1) + 1)), some (0, 2)]) c_23_64 rfl rfl rfl ?_
                          refine n_goto c_23_67 ?_
                          refine n_iload_n c_23_12 rfl ?_
                          refine n_aload_n c_23_13 rfl ?_
                          refine n_getV (bi := 1) c_23_14 sc_4.n rfl rfl rfl (t_4_1 hS112) ?_
                          intro z113 ez113 f114
                          obtain rfl : z113 = 8 := by omega
                          refine n_if2_ge c_23_17 (by omega) (by omega) ?_ ?_
                          · intro h115
                            exfalso; omega
                          · intro h116
                            refine n_aload_n c_23_20 rfl ?_
                            refine n_getR c_23_21 sc_4.n rfl rfl rfl r_4_2 ?_
                            refine n_iload_n c_23_24 rfl ?_
                            refine n_ialoadV c_23_25 sc_5.n rfl rfl rfl (by omega) (t_5k (z := 1) hS112 (by omega) (by omega) (by omega)) ?_
                            intro z117 ez117 f118
                            refine n_aload_n c_23_26 rfl ?_
                            refine n_getR c_23_27 sc_4.n rfl rfl rfl r_4_3 ?_
                            refine n_iload_n c_23_30 rfl ?_
                            refine n_ialoadV c_23_31 sc_6.n rfl rfl rfl (by omega) (t_6k (z := 1) hS112 (by omega) (by omega) (by omega)) ?_
                            intro z119 ez119 f120
                            refine n_isub c_23_32 rfl ?_
                            refine n_aload_n c_23_33 rfl ?_
                            refine n_getR c_23_34 sc_4.n rfl rfl rfl r_4_4 ?_
                            refine n_iload_n c_23_37 rfl ?_
                            refine n_ialoadV c_23_38 sc_7.n rfl rfl rfl (by omega) (t_7k (z := 0) hS112 (by omega) (by omega) (by omega)) ?_
                            intro z121 ez121 f122
                            refine n_iadd c_23_39 rfl ?_
                            refine n_istore_n (L2 := [some (2, 44), some (2, 4), some (0, ((((((0 + 1) + 1) + 1) + 1) + 1) + 1)), some (0, ((z117 - z119) + z121))]) c_23_40 rfl rfl ?_
                            refine n_aload_n c_23_41 rfl ?_
                            refine n_getR c_23_42 sc_44.n rfl rfl rfl r_44_4 ?_
                            refine n_iload_n c_23_45 rfl ?_
                            refine n_iload_n c_23_46 rfl ?_
                            refine n_aload_n c_23_47 rfl ?_
                            refine n_getV (bi := 5) c_23_48 sc_44.n rfl rfl rfl (t_44_5 hS112) ?_
                            intro z123 ez123 f124
                            obtain rfl : z123 = 2 := by omega
                            refine n_iconst c_23_51 ?_
                            refine n_if2_ne c_23_52 (by omega) (by omega) ?_ ?_
                            · intro h125
                              exfalso; omega
                            · intro h126
                              refine n_iconst c_23_55 ?_
                              refine n_goto c_23_56 ?_
                              have hcst : (((z117 - z119) + z121) : Int) = 0 := by omega
                              rw [hcst]
                              refine n_s2I c_23_60 rfl rfl rfl rfl (fmod2_2  hS112 ) ?_
                              intro z127 M128 hP129
                              obtain ⟨eM, f129⟩ := hP129
                              subst eM
                              obtain rfl : z127 = 0 := by omega
                              refine n_iastoreV hS112 c_23_63 sc_45.n rfl (by omega) (w_45 (by omega) (by omega)) ?_
                              intro M130 eM130 hS130
                              have g130_0 : M130 44 2 = M112 44 2 := by rw [eM130]; exact nu_a (by omega)
                              have g130_1 : M130 44 0 = M112 44 0 := by rw [eM130]; exact nu_a (by omega)
                              have g130_2 : M130 44 5 = M112 44 5 := by rw [eM130]; exact nu_a (by omega)
                              have g130_3 : M130 45 ((((((0 + 1) + 1) + 1) + 1) + 1) + 1) = 0 := by rw [eM130]; exact nu_s _ _ _ _
                              refine n_iinc (L2 := [some (2, 44), some (2, 4), some (0, (((((((0 + 1) + 1) + 1) + 1) + 1) + 1) + 1)), some (0, 0)]) c_23_64 rfl rfl rfl ?_
                              refine n_goto c_23_67 ?_
                              refine n_iload_n c_23_12 rfl ?_
                              refine n_aload_n c_23_13 rfl ?_
                              refine n_getV (bi := 1) c_23_14 sc_4.n rfl rfl rfl (t_4_1 hS130) ?_
                              intro z131 ez131 f132
                              obtain rfl : z131 = 8 := by omega
                              refine n_if2_ge c_23_17 (by omega) (by omega) ?_ ?_
                              · intro h133
                                exfalso; omega
                              · intro h134
                                refine n_aload_n c_23_20 rfl ?_
                                refine n_getR c_23_21 sc_4.n rfl rfl rfl r_4_2 ?_
                                refine n_iload_n c_23_24 rfl ?_
                                refine n_ialoadV c_23_25 sc_5.n rfl rfl rfl (by omega) (t_5k (z := 1) hS130 (by omega) (by omega) (by omega)) ?_
                                intro z135 ez135 f136
                                refine n_aload_n c_23_26 rfl ?_
                                refine n_getR c_23_27 sc_4.n rfl rfl rfl r_4_3 ?_
                                refine n_iload_n c_23_30 rfl ?_
                                refine n_ialoadV c_23_31 sc_6.n rfl rfl rfl (by omega) (t_6k (z := 1) hS130 (by omega) (by omega) (by omega)) ?_
                                intro z137 ez137 f138
                                refine n_isub c_23_32 rfl ?_
                                refine n_aload_n c_23_33 rfl ?_
                                refine n_getR c_23_34 sc_4.n rfl rfl rfl r_4_4 ?_
                                refine n_iload_n c_23_37 rfl ?_
                                refine n_ialoadV c_23_38 sc_7.n rfl rfl rfl (by omega) (t_7k (z := 1) hS130 (by omega) (by omega) (by omega)) ?_
                                intro z139 ez139 f140
                                refine n_iadd c_23_39 rfl ?_
                                refine n_istore_n (L2 := [some (2, 44), some (2, 4), some (0, (((((((0 + 1) + 1) + 1) + 1) + 1) + 1) + 1)), some (0, ((z135 - z137) + z139))]) c_23_40 rfl rfl ?_
                                refine n_aload_n c_23_41 rfl ?_
                                refine n_getR c_23_42 sc_44.n rfl rfl rfl r_44_4 ?_
                                refine n_iload_n c_23_45 rfl ?_
                                refine n_iload_n c_23_46 rfl ?_
                                refine n_aload_n c_23_47 rfl ?_
                                refine n_getV (bi := 5) c_23_48 sc_44.n rfl rfl rfl (t_44_5 hS130) ?_
                                intro z141 ez141 f142
                                obtain rfl : z141 = 2 := by omega
                                refine n_iconst c_23_51 ?_
                                refine n_if2_ne c_23_52 (by omega) (by omega) ?_ ?_
                                · intro h143
                                  exfalso; omega
                                · intro h144
                                  refine n_iconst c_23_55 ?_
                                  refine n_goto c_23_56 ?_
                                  have hcst : (((z135 - z137) + z139) : Int) = 1 := by omega
                                  rw [hcst]
                                  refine n_s2I c_23_60 rfl rfl rfl rfl (fmod3_2  hS130 ) ?_
                                  intro z145 M146 hP147
                                  obtain ⟨eM, f147⟩ := hP147
                                  subst eM
                                  obtain rfl : z145 = 1 := by omega
                                  refine n_iastoreV hS130 c_23_63 sc_45.n rfl (by omega) (w_45 (by omega) (by omega)) ?_
                                  intro M148 eM148 hS148
                                  have g148_0 : M148 44 2 = M130 44 2 := by rw [eM148]; exact nu_a (by omega)
                                  have g148_1 : M148 44 0 = M130 44 0 := by rw [eM148]; exact nu_a (by omega)
                                  have g148_2 : M148 44 5 = M130 44 5 := by rw [eM148]; exact nu_a (by omega)
                                  have g148_3 : M148 45 (((((((0 + 1) + 1) + 1) + 1) + 1) + 1) + 1) = 1 := by rw [eM148]; exact nu_s _ _ _ _
                                  refine n_iinc (L2 := [some (2, 44), some (2, 4), some (0, ((((((((0 + 1) + 1) + 1) + 1) + 1) + 1) + 1) + 1)), some (0, 1)]) c_23_64 rfl rfl rfl ?_
                                  refine n_goto c_23_67 ?_
                                  refine n_iload_n c_23_12 rfl ?_
                                  refine n_aload_n c_23_13 rfl ?_
                                  refine n_getV (bi := 1) c_23_14 sc_4.n rfl rfl rfl (t_4_1 hS148) ?_
                                  intro z149 ez149 f150
                                  obtain rfl : z149 = 8 := by omega
                                  refine n_if2_ge c_23_17 (by omega) (by omega) ?_ ?_
                                  · intro h151
                                    exact n_rV c_23_70 rfl hS148
                                  · intro h152
                                    exfalso; omega

set_option maxHeartbeats 4000000 in
theorem variableAt5_2 {xs : List Int32} {e : Nat} {ac : Int} {M0 M : nM} {i j k : Int} (hS : Sf 2 ac M0 M) (hi : 0 ≤ i ∧ i ≤ 26) (hj : 0 ≤ j ∧ j ≤ 26) (hk : 0 ≤ k ∧ k ≤ 26) : nW xs e 24 0 [some (2, 44), some (2, 5), some (0, i), some (0, j), some (0, k)] [] M (nPI fun z M1 => M = M1 ∧ (0 ≤ z ∧ z ≤ 8)) := by
  have hd : (2 : Int) = 2 ∨ (2 : Int) = 3 := by decide
  have hac := hS.2.2.2.2
  refine n_aload_n c_24_0 rfl ?_
  refine n_getR c_24_1 sc_44.n rfl rfl rfl r_44_4 ?_
  refine n_aload_n c_24_4 rfl ?_
  refine n_iload_n c_24_5 rfl ?_
  refine n_ialoadV c_24_6 sc_5.n rfl rfl rfl (by omega) (t_5 hS hd (by omega)) ?_
  intro z1 ez1 f2
  refine n_aload_n c_24_7 rfl ?_
  refine n_getV (bi := 5) c_24_8 sc_44.n rfl rfl rfl (t_44_5 hS) ?_
  intro z3 ez3 f4
  rcases (show z3 = 2 ∨ z3 = 3 by omega) with rfl | rfl
  · skip
    refine n_imul c_24_11 rfl ?_
    refine n_aload_n c_24_12 rfl ?_
    refine n_iload_n c_24_13 rfl ?_
    refine n_ialoadV c_24_14 sc_5.n rfl rfl rfl (by omega) (t_5 hS hd (by omega)) ?_
    intro z5 ez5 f6
    refine n_iadd c_24_15 rfl ?_
    refine n_aload_n c_24_16 rfl ?_
    refine n_getV (bi := 5) c_24_17 sc_44.n rfl rfl rfl (t_44_5 hS) ?_
    intro z7 ez7 f8
    obtain rfl : z7 = 2 := by omega
    refine n_imul c_24_20 rfl ?_
    refine n_aload_n c_24_21 rfl ?_
    refine n_iload c_24_22 rfl ?_
    refine n_ialoadV c_24_24 sc_5.n rfl rfl rfl (by omega) (t_5 hS hd (by omega)) ?_
    intro z9 ez9 f10
    refine n_iadd c_24_25 rfl ?_
    refine n_ialoadV c_24_26 sc_45.n rfl rfl rfl (by omega) (t_45 hS (by omega)) ?_
    intro z11 ez11 f12
    exact n_rI c_24_27 rfl ⟨rfl, by omega⟩
  · skip
    refine n_imul c_24_11 rfl ?_
    refine n_aload_n c_24_12 rfl ?_
    refine n_iload_n c_24_13 rfl ?_
    refine n_ialoadV c_24_14 sc_5.n rfl rfl rfl (by omega) (t_5 hS hd (by omega)) ?_
    intro z13 ez13 f14
    refine n_iadd c_24_15 rfl ?_
    refine n_aload_n c_24_16 rfl ?_
    refine n_getV (bi := 5) c_24_17 sc_44.n rfl rfl rfl (t_44_5 hS) ?_
    intro z15 ez15 f16
    obtain rfl : z15 = 3 := by omega
    refine n_imul c_24_20 rfl ?_
    refine n_aload_n c_24_21 rfl ?_
    refine n_iload c_24_22 rfl ?_
    refine n_ialoadV c_24_24 sc_5.n rfl rfl rfl (by omega) (t_5 hS hd (by omega)) ?_
    intro z17 ez17 f18
    refine n_iadd c_24_25 rfl ?_
    refine n_ialoadV c_24_26 sc_45.n rfl rfl rfl (by omega) (t_45 hS (by omega)) ?_
    intro z19 ez19 f20
    exact n_rI c_24_27 rfl ⟨rfl, by omega⟩

set_option maxHeartbeats 4000000 in
theorem variableAt6_2 {xs : List Int32} {e : Nat} {ac : Int} {M0 M : nM} {i j k : Int} (hS : Sf 2 ac M0 M) (hi : 0 ≤ i ∧ i ≤ 26) (hj : 0 ≤ j ∧ j ≤ 26) (hk : 0 ≤ k ∧ k ≤ 26) : nW xs e 24 0 [some (2, 44), some (2, 6), some (0, i), some (0, j), some (0, k)] [] M (nPI fun z M1 => M = M1 ∧ (0 ≤ z ∧ z ≤ 8)) := by
  have hd : (2 : Int) = 2 ∨ (2 : Int) = 3 := by decide
  have hac := hS.2.2.2.2
  refine n_aload_n c_24_0 rfl ?_
  refine n_getR c_24_1 sc_44.n rfl rfl rfl r_44_4 ?_
  refine n_aload_n c_24_4 rfl ?_
  refine n_iload_n c_24_5 rfl ?_
  refine n_ialoadV c_24_6 sc_6.n rfl rfl rfl (by omega) (t_6 hS hd (by omega)) ?_
  intro z1 ez1 f2
  refine n_aload_n c_24_7 rfl ?_
  refine n_getV (bi := 5) c_24_8 sc_44.n rfl rfl rfl (t_44_5 hS) ?_
  intro z3 ez3 f4
  rcases (show z3 = 2 ∨ z3 = 3 by omega) with rfl | rfl
  · skip
    refine n_imul c_24_11 rfl ?_
    refine n_aload_n c_24_12 rfl ?_
    refine n_iload_n c_24_13 rfl ?_
    refine n_ialoadV c_24_14 sc_6.n rfl rfl rfl (by omega) (t_6 hS hd (by omega)) ?_
    intro z5 ez5 f6
    refine n_iadd c_24_15 rfl ?_
    refine n_aload_n c_24_16 rfl ?_
    refine n_getV (bi := 5) c_24_17 sc_44.n rfl rfl rfl (t_44_5 hS) ?_
    intro z7 ez7 f8
    obtain rfl : z7 = 2 := by omega
    refine n_imul c_24_20 rfl ?_
    refine n_aload_n c_24_21 rfl ?_
    refine n_iload c_24_22 rfl ?_
    refine n_ialoadV c_24_24 sc_6.n rfl rfl rfl (by omega) (t_6 hS hd (by omega)) ?_
    intro z9 ez9 f10
    refine n_iadd c_24_25 rfl ?_
    refine n_ialoadV c_24_26 sc_45.n rfl rfl rfl (by omega) (t_45 hS (by omega)) ?_
    intro z11 ez11 f12
    exact n_rI c_24_27 rfl ⟨rfl, by omega⟩
  · skip
    refine n_imul c_24_11 rfl ?_
    refine n_aload_n c_24_12 rfl ?_
    refine n_iload_n c_24_13 rfl ?_
    refine n_ialoadV c_24_14 sc_6.n rfl rfl rfl (by omega) (t_6 hS hd (by omega)) ?_
    intro z13 ez13 f14
    refine n_iadd c_24_15 rfl ?_
    refine n_aload_n c_24_16 rfl ?_
    refine n_getV (bi := 5) c_24_17 sc_44.n rfl rfl rfl (t_44_5 hS) ?_
    intro z15 ez15 f16
    obtain rfl : z15 = 3 := by omega
    refine n_imul c_24_20 rfl ?_
    refine n_aload_n c_24_21 rfl ?_
    refine n_iload c_24_22 rfl ?_
    refine n_ialoadV c_24_24 sc_6.n rfl rfl rfl (by omega) (t_6 hS hd (by omega)) ?_
    intro z17 ez17 f18
    refine n_iadd c_24_25 rfl ?_
    refine n_ialoadV c_24_26 sc_45.n rfl rfl rfl (by omega) (t_45 hS (by omega)) ?_
    intro z19 ez19 f20
    exact n_rI c_24_27 rfl ⟨rfl, by omega⟩

set_option maxHeartbeats 4000000 in
theorem variableAt7_2 {xs : List Int32} {e : Nat} {ac : Int} {M0 M : nM} {i j k : Int} (hS : Sf 2 ac M0 M) (hi : 0 ≤ i ∧ i ≤ 26) (hj : 0 ≤ j ∧ j ≤ 26) (hk : 0 ≤ k ∧ k ≤ 26) : nW xs e 24 0 [some (2, 44), some (2, 7), some (0, i), some (0, j), some (0, k)] [] M (nPI fun z M1 => M = M1 ∧ (0 ≤ z ∧ z ≤ 8)) := by
  have hd : (2 : Int) = 2 ∨ (2 : Int) = 3 := by decide
  have hac := hS.2.2.2.2
  refine n_aload_n c_24_0 rfl ?_
  refine n_getR c_24_1 sc_44.n rfl rfl rfl r_44_4 ?_
  refine n_aload_n c_24_4 rfl ?_
  refine n_iload_n c_24_5 rfl ?_
  refine n_ialoadV c_24_6 sc_7.n rfl rfl rfl (by omega) (t_7 hS hd (by omega)) ?_
  intro z1 ez1 f2
  refine n_aload_n c_24_7 rfl ?_
  refine n_getV (bi := 5) c_24_8 sc_44.n rfl rfl rfl (t_44_5 hS) ?_
  intro z3 ez3 f4
  rcases (show z3 = 2 ∨ z3 = 3 by omega) with rfl | rfl
  · skip
    refine n_imul c_24_11 rfl ?_
    refine n_aload_n c_24_12 rfl ?_
    refine n_iload_n c_24_13 rfl ?_
    refine n_ialoadV c_24_14 sc_7.n rfl rfl rfl (by omega) (t_7 hS hd (by omega)) ?_
    intro z5 ez5 f6
    refine n_iadd c_24_15 rfl ?_
    refine n_aload_n c_24_16 rfl ?_
    refine n_getV (bi := 5) c_24_17 sc_44.n rfl rfl rfl (t_44_5 hS) ?_
    intro z7 ez7 f8
    obtain rfl : z7 = 2 := by omega
    refine n_imul c_24_20 rfl ?_
    refine n_aload_n c_24_21 rfl ?_
    refine n_iload c_24_22 rfl ?_
    refine n_ialoadV c_24_24 sc_7.n rfl rfl rfl (by omega) (t_7 hS hd (by omega)) ?_
    intro z9 ez9 f10
    refine n_iadd c_24_25 rfl ?_
    refine n_ialoadV c_24_26 sc_45.n rfl rfl rfl (by omega) (t_45 hS (by omega)) ?_
    intro z11 ez11 f12
    exact n_rI c_24_27 rfl ⟨rfl, by omega⟩
  · skip
    refine n_imul c_24_11 rfl ?_
    refine n_aload_n c_24_12 rfl ?_
    refine n_iload_n c_24_13 rfl ?_
    refine n_ialoadV c_24_14 sc_7.n rfl rfl rfl (by omega) (t_7 hS hd (by omega)) ?_
    intro z13 ez13 f14
    refine n_iadd c_24_15 rfl ?_
    refine n_aload_n c_24_16 rfl ?_
    refine n_getV (bi := 5) c_24_17 sc_44.n rfl rfl rfl (t_44_5 hS) ?_
    intro z15 ez15 f16
    obtain rfl : z15 = 3 := by omega
    refine n_imul c_24_20 rfl ?_
    refine n_aload_n c_24_21 rfl ?_
    refine n_iload c_24_22 rfl ?_
    refine n_ialoadV c_24_24 sc_7.n rfl rfl rfl (by omega) (t_7 hS hd (by omega)) ?_
    intro z17 ez17 f18
    refine n_iadd c_24_25 rfl ?_
    refine n_ialoadV c_24_26 sc_45.n rfl rfl rfl (by omega) (t_45 hS (by omega)) ?_
    intro z19 ez19 f20
    exact n_rI c_24_27 rfl ⟨rfl, by omega⟩

set_option maxHeartbeats 4000000 in
theorem told_2 {xs : List Int32} {e : Nat} {ac : Int} {M0 M : nM} {a b : Int} (hS : Sf 2 ac M0 M) (ha : 0 ≤ a ∧ a ≤ 2) (hb : 0 ≤ b ∧ b ≤ 2) : nW xs e 29 0 [some (2, 44), some (2, 39), some (0, a), some (0, b)] [] M (nPI fun z M1 => M = M1 ∧ (0 ≤ z ∧ z ≤ 2)) := by
  have hd : (2 : Int) = 2 ∨ (2 : Int) = 3 := by decide
  have hac := hS.2.2.2.2
  refine n_aload_n c_29_0 rfl ?_
  refine n_aload_n c_29_1 rfl ?_
  refine n_getR c_29_2 sc_44.n rfl rfl rfl r_44_4 ?_
  refine n_iload_n c_29_5 rfl ?_
  refine n_aload_n c_29_6 rfl ?_
  refine n_getV (bi := 5) c_29_7 sc_44.n rfl rfl rfl (t_44_5 hS) ?_
  intro z1 ez1 f2
  rcases (show z1 = 2 ∨ z1 = 3 by omega) with rfl | rfl
  · skip
    refine n_imul c_29_10 rfl ?_
    refine n_iload_n c_29_11 rfl ?_
    refine n_iadd c_29_12 rfl ?_
    refine n_ialoadV c_29_13 sc_45.n rfl rfl rfl (by omega) (t_45 hS (by omega)) ?_
    intro z3 ez3 f4
    refine n_ialoadV c_29_14 sc_39.n rfl rfl rfl (by omega) (t_39 hS (by omega)) ?_
    intro z5 ez5 f6
    exact n_rI c_29_15 rfl ⟨rfl, by omega⟩
  · skip
    refine n_imul c_29_10 rfl ?_
    refine n_iload_n c_29_11 rfl ?_
    refine n_iadd c_29_12 rfl ?_
    refine n_ialoadV c_29_13 sc_45.n rfl rfl rfl (by omega) (t_45 hS (by omega)) ?_
    intro z7 ez7 f8
    refine n_ialoadV c_29_14 sc_39.n rfl rfl rfl (by omega) (t_39 hS (by omega)) ?_
    intro z9 ez9 f10
    exact n_rI c_29_15 rfl ⟨rfl, by omega⟩

set_option maxHeartbeats 4000000 in
theorem suits_2_c {xs : List Int32} {e : Nat} {ac : Int} {M0 M : nM} {t : Int} (hS : Sf 2 ac M0 M) (ht : 0 ≤ t ∧ t ≤ 3) : ∀ nn : Nat, (∀ (x3 : Int), (0 ≤ x3 ∧ x3 ≤ 3) → (3 - x3) * 31 + 31 < (nn : Int) → nW xs (e + 1) 25 11 [some (2, 44), some (2, 39), some (0, t), some (0, x3), none, none, none] [] M (nPI fun z M1 => M = M1 ∧ (0 ≤ z ∧ z ≤ 1))) ∧ (∀ (x3 x4 : Int), (1 ≤ t ∧ t ≤ 3) → (0 ≤ x3 ∧ x3 ≤ 2) → (0 ≤ x4 ∧ x4 ≤ 3) → (3 - x3) * 31 + (3 - x4) * 6 + 6 < (nn : Int) → nW xs (e + 1) 25 19 [some (2, 44), some (2, 39), some (0, t), some (0, x3), some (0, x4), none, none] [] M (nPI fun z M1 => M = M1 ∧ (0 ≤ z ∧ z ≤ 1))) ∧ (∀ (x3 x4 x5 : Int), (1 ≤ t ∧ t ≤ 3) → (0 ≤ x3 ∧ x3 ≤ 2) → (0 ≤ x4 ∧ x4 ≤ 2) → (0 ≤ x5 ∧ x5 ≤ 3) → (3 - x3) * 31 + (3 - x4) * 6 + (3 - x5) * 1 + 1 < (nn : Int) → nW xs (e + 1) 25 28 [some (2, 44), some (2, 39), some (0, t), some (0, x3), some (0, x4), some (0, x5), none] [] M (nPI fun z M1 => M = M1 ∧ (0 ≤ z ∧ z ≤ 1))) := by
  have hd : (2 : Int) = 2 ∨ (2 : Int) = 3 := by decide
  have hac := hS.2.2.2.2
  intro nn
  induction nn with
  | zero => refine ⟨?_, ?_, ?_⟩ <;> (intros; omega)
  | succ nn ih =>
    refine ⟨?_, ?_, ?_⟩
    · intro x3 k3 hnn
      refine n_iload_n c_25_11 rfl ?_
      refine n_iload_n c_25_12 rfl ?_
      refine n_if2_ge c_25_13 (by omega) (by omega) ?_ ?_
      · intro h1
        refine n_iconst c_25_91 ?_
        exact n_rZ c_25_92 rfl (by omega) ⟨rfl, by omega⟩
      · intro h2
        refine n_iconst c_25_16 ?_
        refine n_istore (L2 := [some (2, 44), some (2, 39), some (0, t), some (0, x3), some (0, 0), none, none]) c_25_17 rfl rfl ?_
        refine n_fg (le_s (le_s (le_s (le_s (le_s (le_n (le_n le_0))))))) ?_
        exact ih.2.1 _ _ (by omega) (by omega) (by omega) (by omega)
    · intro x3 x4 k2 k3 k4 hnn
      refine n_iload c_25_19 rfl ?_
      refine n_iload_n c_25_21 rfl ?_
      refine n_if2_ge c_25_22 (by omega) (by omega) ?_ ?_
      · intro h1
        refine n_iinc (L2 := [some (2, 44), some (2, 39), some (0, t), some (0, (x3 + 1)), some (0, x4), none, none]) c_25_85 rfl rfl rfl ?_
        refine n_goto c_25_88 ?_
        refine n_fg (le_s (le_s (le_s (le_s (le_n (le_n (le_n le_0))))))) ?_
        exact ih.1 _ (by omega) (by omega)
      · intro h2
        refine n_iconst c_25_25 ?_
        refine n_istore (L2 := [some (2, 44), some (2, 39), some (0, t), some (0, x3), some (0, x4), some (0, 0), none]) c_25_26 rfl rfl ?_
        refine n_fg (le_s (le_s (le_s (le_s (le_s (le_s (le_n le_0))))))) ?_
        exact ih.2.2 _ _ _ (by omega) (by omega) (by omega) (by omega) (by omega)
    · intro x3 x4 x5 k2 k3 k4 k5 hnn
      refine n_iload c_25_28 rfl ?_
      refine n_iload_n c_25_30 rfl ?_
      refine n_if2_ge c_25_31 (by omega) (by omega) ?_ ?_
      · intro h1
        refine n_iinc (L2 := [some (2, 44), some (2, 39), some (0, t), some (0, x3), some (0, (x4 + 1)), some (0, x5), none]) c_25_79 rfl rfl rfl ?_
        refine n_goto c_25_82 ?_
        refine n_fg (le_s (le_s (le_s (le_s (le_s (le_n (le_n le_0))))))) ?_
        exact ih.2.1 _ _ (by omega) (by omega) (by omega) (by omega)
      · intro h2
        refine n_aload_n c_25_34 rfl ?_
        refine n_aload_n c_25_35 rfl ?_
        refine n_aload_n c_25_36 rfl ?_
        refine n_aload_n c_25_37 rfl ?_
        refine n_iload_n c_25_38 rfl ?_
        refine n_iload c_25_39 rfl ?_
        refine n_v3I c_25_41 rfl sc_44.n rfl rfl rfl rfl (told_2 (a := x3) (b := x4) hS (by omega) (by omega)) ?_
        intro z3 M4 hP5
        obtain ⟨eM, f5⟩ := hP5
        subst eM
        refine n_iload c_25_44 rfl ?_
        refine n_v3I c_25_46 rfl sc_44.n rfl rfl rfl rfl (told_2 (a := z3) (b := x5) hS (by omega) (by omega)) ?_
        intro z6 M7 hP8
        obtain ⟨eM, f8⟩ := hP8
        subst eM
        refine n_istore (L2 := [some (2, 44), some (2, 39), some (0, t), some (0, x3), some (0, x4), some (0, x5), some (0, z6)]) c_25_49 rfl rfl ?_
        refine n_iload c_25_51 rfl ?_
        refine n_aload_n c_25_53 rfl ?_
        refine n_aload_n c_25_54 rfl ?_
        refine n_iload_n c_25_55 rfl ?_
        refine n_aload_n c_25_56 rfl ?_
        refine n_aload_n c_25_57 rfl ?_
        refine n_iload c_25_58 rfl ?_
        refine n_iload c_25_60 rfl ?_
        refine n_v3I c_25_62 rfl sc_44.n rfl rfl rfl rfl (told_2 (a := x4) (b := x5) hS (by omega) (by omega)) ?_
        intro z9 M10 hP11
        obtain ⟨eM, f11⟩ := hP11
        subst eM
        refine n_v3I c_25_65 rfl sc_44.n rfl rfl rfl rfl (told_2 (a := x3) (b := z9) hS (by omega) (by omega)) ?_
        intro z12 M13 hP14
        obtain ⟨eM, f14⟩ := hP14
        subst eM
        refine n_if2_eq c_25_68 (by omega) (by omega) ?_ ?_
        · intro h15
          refine n_iinc (L2 := [some (2, 44), some (2, 39), some (0, t), some (0, x3), some (0, x4), some (0, (x5 + 1)), some (0, z6)]) c_25_73 rfl rfl rfl ?_
          refine n_goto c_25_76 ?_
          refine n_fg (le_s (le_s (le_s (le_s (le_s (le_s (le_n le_0))))))) ?_
          exact ih.2.2 _ _ _ (by omega) (by omega) (by omega) (by omega) (by omega)
        · intro h16
          refine n_iconst c_25_71 ?_
          exact n_rZ c_25_72 rfl (by omega) ⟨rfl, by omega⟩
set_option maxHeartbeats 4000000 in
theorem suits_2 {xs : List Int32} {e : Nat} {ac : Int} {M0 M : nM} {t : Int} (hS : Sf 2 ac M0 M) (ht : 0 ≤ t ∧ t ≤ 3) : nW xs (e + 1) 25 0 [some (2, 44), some (2, 39), some (0, t), none, none, none, none] [] M (nPI fun z M1 => M = M1 ∧ (0 ≤ z ∧ z ≤ 1)) := by
  have hd : (2 : Int) = 2 ∨ (2 : Int) = 3 := by decide
  have hac := hS.2.2.2.2
  refine n_aload_n c_25_0 rfl ?_
  refine n_getV (bi := 3) c_25_1 sc_44.n rfl rfl rfl (t_44_3 hS) ?_
  intro z1 ez1 f2
  refine n_if0_ne c_25_4 (by omega) ?_ ?_
  · intro h3
    refine n_iconst c_25_9 ?_
    refine n_istore_n (L2 := [some (2, 44), some (2, 39), some (0, t), some (0, 0), none, none, none]) c_25_10 rfl rfl ?_
    refine n_fg (le_s (le_s (le_s (le_s (le_n (le_n (le_n le_0))))))) ?_
    exact (suits_2_c hS ht 320).1 _ (by omega) (by omega)
  · intro h4
    refine n_iconst c_25_7 ?_
    exact n_rZ c_25_8 rfl (by omega) ⟨rfl, by omega⟩

set_option maxHeartbeats 4000000 in
theorem fcode_2_c {xs : List Int32} {e : Nat} {ac : Int} {M0 M : nM} (hS : Sf 2 ac M0 M)  : ∀ nn : Nat, (∀ (x3 x5 : Int), (-9223372036854775808 ≤ x3 ∧ x3 ≤ 9223372036854775807) → (-1 ≤ x5 ∧ x5 ≤ 7) → (x5 - (-1)) * 1 + 1 < (nn : Int) → nW xs (e + 1) 26 14 [some (2, 44), some (2, 39), some (2, 4), some (1, x3), none, some (0, x5)] [] M (nPJ fun z M1 => M = M1 ∧ (-9223372036854775808 ≤ z ∧ z ≤ 9223372036854775807))) := by
  have hd : (2 : Int) = 2 ∨ (2 : Int) = 3 := by decide
  have hac := hS.2.2.2.2
  intro nn
  induction nn with
  | zero => intros; omega
  | succ nn ih =>
    intro x3 x5 k3 k5 hnn
    refine n_iload c_26_14 rfl ?_
    refine n_if0_lt c_26_16 (by omega) ?_ ?_
    · intro h1
      refine n_lload_n c_26_44 rfl ?_
      exact n_rJ c_26_45 rfl ⟨rfl, by omega⟩
    · intro h2
      refine n_lload_n c_26_19 rfl ?_
      refine n_aload_n c_26_20 rfl ?_
      refine n_getV (bi := 0) c_26_21 sc_4.n rfl rfl rfl (t_4_0 hS) ?_
      intro z3 ez3 f4
      obtain rfl : z3 = 2 := by omega
      refine n_i2l c_26_24 (by omega) ?_
      refine n_lmul c_26_25 rfl ?_
      refine n_wrapl ?_
      have f5 := n_wl_r (x3 * 2)
      generalize n_wl (x3 * 2) = z6 at f5 ⊢
      refine n_aload_n c_26_26 rfl ?_
      refine n_aload_n c_26_27 rfl ?_
      refine n_getR c_26_28 sc_44.n rfl rfl rfl r_44_4 ?_
      refine n_iload c_26_31 rfl ?_
      refine n_ialoadV c_26_33 sc_45.n rfl rfl rfl (by omega) (t_45 hS (by omega)) ?_
      intro z7 ez7 f8
      refine n_ialoadV c_26_34 sc_39.n rfl rfl rfl (by omega) (t_39 hS (by omega)) ?_
      intro z9 ez9 f10
      refine n_i2l c_26_35 (by omega) ?_
      refine n_ladd c_26_36 rfl ?_
      refine n_wrapl ?_
      have f11 := n_wl_r (z6 + z9)
      generalize n_wl (z6 + z9) = z12 at f11 ⊢
      refine n_lstore_n (L2 := [some (2, 44), some (2, 39), some (2, 4), some (1, z12), none, some (0, x5)]) c_26_37 rfl rfl ?_
      refine n_iinc (L2 := [some (2, 44), some (2, 39), some (2, 4), some (1, z12), none, some (0, (x5 + (-1)))]) c_26_38 rfl rfl rfl ?_
      refine n_goto c_26_41 ?_
      refine n_fg (le_s (le_s (le_s (le_s (le_n (le_s le_0)))))) ?_
      exact ih _ _ (by omega) (by omega) (by omega)
set_option maxHeartbeats 4000000 in
theorem fcode_2 {xs : List Int32} {e : Nat} {ac : Int} {M0 M : nM} (hS : Sf 2 ac M0 M)  : nW xs (e + 1) 26 0 [some (2, 44), some (2, 39), some (2, 4), none, none, none] [] M (nPJ fun z M1 => M = M1 ∧ (-9223372036854775808 ≤ z ∧ z ≤ 9223372036854775807)) := by
  have hd : (2 : Int) = 2 ∨ (2 : Int) = 3 := by decide
  have hac := hS.2.2.2.2
  refine n_lconst (n := 0) c_26_0 rfl ?_
  refine n_lstore_n (L2 := [some (2, 44), some (2, 39), some (2, 4), some (1, 0), none, none]) c_26_1 rfl rfl ?_
  refine n_aload_n c_26_2 rfl ?_
  refine n_aload_n c_26_3 rfl ?_
  refine n_getV (bi := 0) c_26_4 sc_44.n rfl rfl rfl (t_44_0 hS) ?_
  intro z1 ez1 f2
  refine n_v1I c_26_7 rfl sc_4.n rfl rfl rfl rfl (powerU_2 (n := z1) hS (by omega)) ?_
  intro z3 M4 hP5
  obtain ⟨eM, f5⟩ := hP5
  subst eM
  refine n_iconst c_26_10 ?_
  refine n_isub c_26_11 rfl ?_
  refine n_istore (L2 := [some (2, 44), some (2, 39), some (2, 4), some (1, 0), none, some (0, (z3 - 1))]) c_26_12 rfl rfl ?_
  refine n_fg (le_s (le_s (le_s (le_s (le_n (le_s le_0)))))) ?_
  exact (fcode_2_c hS  30) _ _ (by omega) (by omega) (by omega)

set_option maxHeartbeats 4000000 in
theorem nstart_2 {xs : List Int32} {e : Nat} {ac : Int} {M0 M : nM} {c : Int} (hS : Sf 2 ac M0 M) (hc : 0 ≤ c ∧ c ≤ 9) : nW xs (e + 1) 64 0 [some (2, 38), some (0, 2), some (0, c)] [] M (nPV fun M1 => Sf 2 ac M0 M1) := by
  have hd : (2 : Int) = 2 ∨ (2 : Int) = 3 := by decide
  have hac := hS.2.2.2.2
  refine n_aload_n c_64_0 rfl ?_
  refine n_iload_n c_64_1 rfl ?_
  refine n_putV (bi := 5) hS c_64_2 sc_38.n rfl rfl rfl rfl (w_38_5 (by omega)) ?_
  intro M1 eM1 hS1
  have g1_0 : M1 38 5 = 2 := by rw [eM1]; exact nu_s _ _ _ _
  refine n_aload_n c_64_5 rfl ?_
  refine n_iload_n c_64_6 rfl ?_
  refine n_bipush c_64_7 rfl ?_
  refine n_s2I c_64_9 rfl rfl rfl rfl (imin_2 (x := c) (y := 9) hS1 (by omega) (by omega)) ?_
  intro z2 M3 hP4
  obtain ⟨eM, f4, f4p0⟩ := hP4
  subst eM
  refine n_putV (bi := 6) hS1 c_64_12 sc_38.n rfl rfl rfl rfl (w_38_6 (by omega)) ?_
  intro M5 eM5 hS5
  have g5_0 : M5 38 5 = M1 38 5 := by rw [eM5]; exact nu_i (by omega)
  have g5_1 : M5 38 6 = z2 := by rw [eM5]; exact nu_s _ _ _ _
  refine n_aload_n c_64_15 rfl ?_
  refine n_iconst c_64_16 ?_
  refine n_aload_n c_64_17 rfl ?_
  refine n_getV (bi := 5) c_64_18 sc_38.n rfl rfl rfl (t_38_5 hS5) ?_
  intro z6 ez6 f7
  obtain rfl : z6 = 2 := by omega
  refine n_aload_n c_64_21 rfl ?_
  refine n_getV (bi := 5) c_64_22 sc_38.n rfl rfl rfl (t_38_5 hS5) ?_
  intro z8 ez8 f9
  obtain rfl : z8 = 2 := by omega
  refine n_imul c_64_25 rfl ?_
  refine n_aload_n c_64_26 rfl ?_
  refine n_getV (bi := 5) c_64_27 sc_38.n rfl rfl rfl (t_38_5 hS5) ?_
  intro z10 ez10 f11
  obtain rfl : z10 = 2 := by omega
  refine n_imul c_64_30 rfl ?_
  refine n_i_ishl (z := 256) c_64_31 (by decide) ?_
  refine n_iconst c_64_32 ?_
  refine n_isub c_64_33 rfl ?_
  refine n_putV (bi := 7) hS5 c_64_34 sc_38.n rfl rfl rfl rfl (w_38_7 (by omega)) ?_
  intro M12 eM12 hS12
  have g12_0 : M12 38 5 = M5 38 5 := by rw [eM12]; exact nu_i (by omega)
  have g12_1 : M12 38 6 = M5 38 6 := by rw [eM12]; exact nu_i (by omega)
  have g12_2 : M12 38 7 = (256 - 1) := by rw [eM12]; exact nu_s _ _ _ _
  refine n_aload_n c_64_37 rfl ?_
  refine n_getR c_64_38 sc_38.n rfl rfl rfl r_38_1 ?_
  refine n_aload_n c_64_41 rfl ?_
  refine n_getV (bi := 7) c_64_42 sc_38.n rfl rfl rfl (t_38_7 hS12) ?_
  intro z13 ez13 f14
  obtain rfl : z13 = 255 := by omega
  refine n_s2V c_64_45 rfl rfl rfl rfl (fill40_2 (v := 255) hS12 (by omega)) ?_
  intro  M15 hP16
  have hS15 := hP16
  exact n_rV c_64_48 rfl hS15

set_option maxHeartbeats 4000000 in
theorem limit_2 {xs : List Int32} {e : Nat} {ac : Int} {M0 M : nM} {p q r w : Int} (hS : Sf 2 ac M0 M) (hp : 0 ≤ p ∧ p ≤ 8) (hq : 0 ≤ q ∧ q ≤ 8) (hr : 0 ≤ r ∧ r ≤ 8) (hw : -2147483648 ≤ w ∧ w ≤ 2147483647) : nW xs e 65 0 [some (2, 38), some (0, p), some (0, q), some (0, r), some (0, w)] [] M (nPV fun M1 => Sf 2 ac M0 M1) := by
  have hd : (2 : Int) = 2 ∨ (2 : Int) = 3 := by decide
  have hac := hS.2.2.2.2
  refine n_aload_n c_65_0 rfl ?_
  refine n_getR c_65_1 sc_38.n rfl rfl rfl r_38_1 ?_
  refine n_iload_n c_65_4 rfl ?_
  refine n_bipush c_65_5 rfl ?_
  refine n_imul c_65_7 rfl ?_
  refine n_iload_n c_65_8 rfl ?_
  refine n_iadd c_65_9 rfl ?_
  refine n_bipush c_65_10 rfl ?_
  refine n_imul c_65_12 rfl ?_
  refine n_iload_n c_65_13 rfl ?_
  refine n_iadd c_65_14 rfl ?_
  refine n_dup202 c_65_15 ?_
  refine n_ialoadV c_65_16 sc_40.n rfl rfl rfl (by omega) (t_40 hS (by omega)) ?_
  intro z1 ez1 f2
  refine n_iload c_65_17 rfl ?_
  refine n_i_iand c_65_19 rfl ?_
  have f3 := n_and_r z1 w
  generalize (n_and z1 w) = z4 at f3 ⊢
  refine n_iastoreV hS c_65_20 sc_40.n rfl (by omega) (w_40 (by omega) (by omega)) ?_
  intro M5 eM5 hS5
  have g5_0 : M5 40 ((((p * 9) + q) * 9) + r) = z4 := by rw [eM5]; exact nu_s _ _ _ _
  exact n_rV c_65_21 rfl hS5

set_option maxHeartbeats 4000000 in
theorem restrain_2_c {xs : List Int32} {e : Nat} {ac : Int} {M0 M : nM} {w : Int} (hS : Sf 2 ac M0 M) (hw : LawAt w) : ∀ nn : Nat, (∀ (x4 x5 x6 : Int) (M : nM), Sf 2 ac M0 M → (0 ≤ x4 ∧ x4 ≤ 27) → (0 ≤ x5 ∧ x5 ≤ 27) → (0 ≤ x6 ∧ x6 ≤ 27) → (27 - x6) * 871 + 871 < (nn : Int) → nW xs (e + 2) 66 34 [some (2, 38), some (2, 44), some (2, w), some (2, 4), some (0, x4), some (0, x5), some (0, x6), none, none, none, none, none] [] M (nPV fun M1 => Sf 2 ac M0 M1)) ∧ (∀ (x4 x5 x6 x7 : Int) (M : nM), Sf 2 ac M0 M → (1 ≤ x4 ∧ x4 ≤ 27) → (0 ≤ x5 ∧ x5 ≤ 27) → (0 ≤ x6 ∧ x6 ≤ 26) → (0 ≤ x7 ∧ x7 ≤ 27) → (27 - x6) * 871 + (27 - x7) * 30 + 30 < (nn : Int) → nW xs (e + 2) 66 44 [some (2, 38), some (2, 44), some (2, w), some (2, 4), some (0, x4), some (0, x5), some (0, x6), some (0, x7), none, none, none, none] [] M (nPV fun M1 => Sf 2 ac M0 M1)) ∧ (∀ (x4 x5 x6 x7 x8 : Int) (M : nM), Sf 2 ac M0 M → (1 ≤ x4 ∧ x4 ≤ 27) → (1 ≤ x5 ∧ x5 ≤ 27) → (0 ≤ x6 ∧ x6 ≤ 26) → (0 ≤ x7 ∧ x7 ≤ 26) → (0 ≤ x8 ∧ x8 ≤ 27) → (27 - x6) * 871 + (27 - x7) * 30 + (27 - x8) * 1 + 1 < (nn : Int) → nW xs (e + 2) 66 54 [some (2, 38), some (2, 44), some (2, w), some (2, 4), some (0, x4), some (0, x5), some (0, x6), some (0, x7), some (0, x8), none, none, none] [] M (nPV fun M1 => Sf 2 ac M0 M1)) := by
  have hd : (2 : Int) = 2 ∨ (2 : Int) = 3 := by decide
  have hac := hS.2.2.2.2
  intro nn
  induction nn with
  | zero => refine ⟨?_, ?_, ?_⟩ <;> (intros; omega)
  | succ nn ih =>
    refine ⟨?_, ?_, ?_⟩
    · intro x4 x5 x6 M hS k4 k5 k6 hnn
      refine n_iload c_66_34 rfl ?_
      refine n_iload c_66_36 rfl ?_
      refine n_if2_ge c_66_38 (by omega) (by omega) ?_ ?_
      · intro h1
        exact n_rV c_66_188 rfl hS
      · intro h2
        refine n_iconst c_66_41 ?_
        refine n_istore (L2 := [some (2, 38), some (2, 44), some (2, w), some (2, 4), some (0, x4), some (0, x5), some (0, x6), some (0, 0), none, none, none, none]) c_66_42 rfl rfl ?_
        refine n_fg (le_s (le_s (le_s (le_s (le_s (le_s (le_s (le_s (le_n (le_n (le_n (le_n le_0)))))))))))) ?_
        exact ih.2.1 _ _ _ _ M hS (by omega) (by omega) (by omega) (by omega) (by omega)
    · intro x4 x5 x6 x7 M hS k4 k5 k6 k7 hnn
      refine n_iload c_66_44 rfl ?_
      refine n_iload c_66_46 rfl ?_
      refine n_if2_ge c_66_48 (by omega) (by omega) ?_ ?_
      · intro h1
        refine n_iinc (L2 := [some (2, 38), some (2, 44), some (2, w), some (2, 4), some (0, x4), some (0, x5), some (0, (x6 + 1)), some (0, x7), none, none, none, none]) c_66_182 rfl rfl rfl ?_
        refine n_goto c_66_185 ?_
        refine n_fg (le_s (le_s (le_s (le_s (le_s (le_s (le_s (le_n (le_n (le_n (le_n (le_n le_0)))))))))))) ?_
        exact ih.1 _ _ _ M hS (by omega) (by omega) (by omega) (by omega)
      · intro h2
        refine n_iconst c_66_51 ?_
        refine n_istore (L2 := [some (2, 38), some (2, 44), some (2, w), some (2, 4), some (0, x4), some (0, x5), some (0, x6), some (0, x7), some (0, 0), none, none, none]) c_66_52 rfl rfl ?_
        refine n_fg (le_s (le_s (le_s (le_s (le_s (le_s (le_s (le_s (le_s (le_n (le_n (le_n le_0)))))))))))) ?_
        exact ih.2.2 _ _ _ _ _ M hS (by omega) (by omega) (by omega) (by omega) (by omega) (by omega)
    · intro x4 x5 x6 x7 x8 M hS k4 k5 k6 k7 k8 hnn
      refine n_iload c_66_54 rfl ?_
      refine n_aload_n c_66_56 rfl ?_
      refine n_getV (bi := 3) c_66_57 hw.c0.1.n rfl rfl rfl (t_law hS hw).2.2.2 ?_
      intro z1 ez1 f2
      refine n_if2_ge c_66_60 (by omega) (by omega) ?_ ?_
      · intro h3
        refine n_iinc (L2 := [some (2, 38), some (2, 44), some (2, w), some (2, 4), some (0, x4), some (0, x5), some (0, x6), some (0, (x7 + 1)), some (0, x8), none, none, none]) c_66_176 rfl rfl rfl ?_
        refine n_goto c_66_179 ?_
        refine n_fg (le_s (le_s (le_s (le_s (le_s (le_s (le_s (le_s (le_n (le_n (le_n (le_n le_0)))))))))))) ?_
        exact ih.2.1 _ _ _ _ M hS (by omega) (by omega) (by omega) (by omega) (by omega)
      · intro h4
        refine n_aload_n c_66_63 rfl ?_
        refine n_aload_n c_66_64 rfl ?_
        refine n_getR c_66_65 sc_4.n rfl rfl rfl r_4_2 ?_
        refine n_aload_n c_66_68 rfl ?_
        refine n_getR c_66_69 hw.c0.1.n rfl rfl rfl hw.r ?_
        refine n_iload c_66_72 rfl ?_
        refine n_ialoadV c_66_74 hw.c0.2.n rfl rfl rfl (by omega) (t_lawr hS hw (by omega)) ?_
        intro z5 ez5 f6
        refine n_aload_n c_66_75 rfl ?_
        refine n_getR c_66_76 hw.c0.1.n rfl rfl rfl hw.r ?_
        refine n_iload c_66_79 rfl ?_
        refine n_ialoadV c_66_81 hw.c0.2.n rfl rfl rfl (by omega) (t_lawr hS hw (by omega)) ?_
        intro z7 ez7 f8
        refine n_aload_n c_66_82 rfl ?_
        refine n_getR c_66_83 hw.c0.1.n rfl rfl rfl hw.r ?_
        refine n_iload c_66_86 rfl ?_
        refine n_ialoadV c_66_88 hw.c0.2.n rfl rfl rfl (by omega) (t_lawr hS hw (by omega)) ?_
        intro z9 ez9 f10
        refine n_v4I c_66_89 rfl sc_44.n rfl rfl rfl rfl (variableAt5_2 (i := z5) (j := z7) (k := z9) hS (by omega) (by omega) (by omega)) ?_
        intro z11 M12 hP13
        obtain ⟨eM, f13⟩ := hP13
        subst eM
        refine n_istore (L2 := [some (2, 38), some (2, 44), some (2, w), some (2, 4), some (0, x4), some (0, x5), some (0, x6), some (0, x7), some (0, x8), some (0, z11), none, none]) c_66_92 rfl rfl ?_
        refine n_aload_n c_66_94 rfl ?_
        refine n_aload_n c_66_95 rfl ?_
        refine n_getR c_66_96 sc_4.n rfl rfl rfl r_4_3 ?_
        refine n_aload_n c_66_99 rfl ?_
        refine n_getR c_66_100 hw.c0.1.n rfl rfl rfl hw.r ?_
        refine n_iload c_66_103 rfl ?_
        refine n_ialoadV c_66_105 hw.c0.2.n rfl rfl rfl (by omega) (t_lawr hS hw (by omega)) ?_
        intro z14 ez14 f15
        refine n_aload_n c_66_106 rfl ?_
        refine n_getR c_66_107 hw.c0.1.n rfl rfl rfl hw.r ?_
        refine n_iload c_66_110 rfl ?_
        refine n_ialoadV c_66_112 hw.c0.2.n rfl rfl rfl (by omega) (t_lawr hS hw (by omega)) ?_
        intro z16 ez16 f17
        refine n_aload_n c_66_113 rfl ?_
        refine n_getR c_66_114 hw.c0.1.n rfl rfl rfl hw.r ?_
        refine n_iload c_66_117 rfl ?_
        refine n_ialoadV c_66_119 hw.c0.2.n rfl rfl rfl (by omega) (t_lawr hS hw (by omega)) ?_
        intro z18 ez18 f19
        refine n_v4I c_66_120 rfl sc_44.n rfl rfl rfl rfl (variableAt6_2 (i := z14) (j := z16) (k := z18) hS (by omega) (by omega) (by omega)) ?_
        intro z20 M21 hP22
        obtain ⟨eM, f22⟩ := hP22
        subst eM
        refine n_istore (L2 := [some (2, 38), some (2, 44), some (2, w), some (2, 4), some (0, x4), some (0, x5), some (0, x6), some (0, x7), some (0, x8), some (0, z11), some (0, z20), none]) c_66_123 rfl rfl ?_
        refine n_aload_n c_66_125 rfl ?_
        refine n_aload_n c_66_126 rfl ?_
        refine n_getR c_66_127 sc_4.n rfl rfl rfl r_4_4 ?_
        refine n_aload_n c_66_130 rfl ?_
        refine n_getR c_66_131 hw.c0.1.n rfl rfl rfl hw.r ?_
        refine n_iload c_66_134 rfl ?_
        refine n_ialoadV c_66_136 hw.c0.2.n rfl rfl rfl (by omega) (t_lawr hS hw (by omega)) ?_
        intro z23 ez23 f24
        refine n_aload_n c_66_137 rfl ?_
        refine n_getR c_66_138 hw.c0.1.n rfl rfl rfl hw.r ?_
        refine n_iload c_66_141 rfl ?_
        refine n_ialoadV c_66_143 hw.c0.2.n rfl rfl rfl (by omega) (t_lawr hS hw (by omega)) ?_
        intro z25 ez25 f26
        refine n_aload_n c_66_144 rfl ?_
        refine n_getR c_66_145 hw.c0.1.n rfl rfl rfl hw.r ?_
        refine n_iload c_66_148 rfl ?_
        refine n_ialoadV c_66_150 hw.c0.2.n rfl rfl rfl (by omega) (t_lawr hS hw (by omega)) ?_
        intro z27 ez27 f28
        refine n_v4I c_66_151 rfl sc_44.n rfl rfl rfl rfl (variableAt7_2 (i := z23) (j := z25) (k := z27) hS (by omega) (by omega) (by omega)) ?_
        intro z29 M30 hP31
        obtain ⟨eM, f31⟩ := hP31
        subst eM
        refine n_istore (L2 := [some (2, 38), some (2, 44), some (2, w), some (2, 4), some (0, x4), some (0, x5), some (0, x6), some (0, x7), some (0, x8), some (0, z11), some (0, z20), some (0, z29)]) c_66_154 rfl rfl ?_
        refine n_aload_n c_66_156 rfl ?_
        refine n_iload c_66_157 rfl ?_
        refine n_iload c_66_159 rfl ?_
        refine n_iload c_66_161 rfl ?_
        refine n_aload_n c_66_163 rfl ?_
        refine n_getV (bi := 2) c_66_164 hw.c0.1.n rfl rfl rfl (t_law hS hw).2.2.1 ?_
        intro z32 ez32 f33
        refine n_v4V c_66_167 rfl sc_38.n rfl rfl rfl rfl (limit_2 (p := z11) (q := z20) (r := z29) (w := z32) hS (by omega) (by omega) (by omega) (by omega)) ?_
        intro  M34 hP35
        have hS34 := hP35
        refine n_iinc (L2 := [some (2, 38), some (2, 44), some (2, w), some (2, 4), some (0, x4), some (0, x5), some (0, x6), some (0, x7), some (0, (x8 + 1)), some (0, z11), some (0, z20), some (0, z29)]) c_66_170 rfl rfl rfl ?_
        refine n_goto c_66_173 ?_
        refine n_fg (le_s (le_s (le_s (le_s (le_s (le_s (le_s (le_s (le_s (le_n (le_n (le_n le_0)))))))))))) ?_
        exact ih.2.2 _ _ _ _ _ M34 hS34 (by omega) (by omega) (by omega) (by omega) (by omega) (by omega)
set_option maxHeartbeats 4000000 in
theorem restrain_2 {xs : List Int32} {e : Nat} {ac : Int} {M0 M : nM} {w : Int} (hS : Sf 2 ac M0 M) (hw : LawAt w) : nW xs (e + 2) 66 0 [some (2, 38), some (2, 44), some (2, w), some (2, 4), none, none, none, none, none, none, none, none] [] M (nPV fun M1 => Sf 2 ac M0 M1) := by
  have hd : (2 : Int) = 2 ∨ (2 : Int) = 3 := by decide
  have hac := hS.2.2.2.2
  refine n_aload_n c_66_0 rfl ?_
  refine n_aload_n c_66_1 rfl ?_
  refine n_v1I c_66_2 rfl hw.c0.1.n rfl rfl rfl rfl (hasAllRows_2 (q := w) hS hw) ?_
  intro z1 M2 hP3
  obtain ⟨eM, f3⟩ := hP3
  subst eM
  refine n_if0_eq c_66_5 (by omega) ?_ ?_
  · intro h4
    refine n_aload_n c_66_9 rfl ?_
    refine n_aload_n c_66_10 rfl ?_
    refine n_getV (bi := 0) c_66_11 sc_44.n rfl rfl rfl (t_44_0 hS) ?_
    intro z5 ez5 f6
    refine n_iconst c_66_14 ?_
    refine n_v2I c_66_15 rfl hw.c0.1.n rfl rfl rfl rfl (tried_2 (q := w) (a := z5) (n := 3) hS hw (by omega) (by omega)) ?_
    intro z7 M8 hP9
    obtain ⟨eM, f9⟩ := hP9
    subst eM
    refine n_istore (L2 := [some (2, 38), some (2, 44), some (2, w), some (2, 4), some (0, z7), none, none, none, none, none, none, none]) c_66_18 rfl rfl ?_
    refine n_aload_n c_66_20 rfl ?_
    refine n_aload_n c_66_21 rfl ?_
    refine n_getV (bi := 0) c_66_22 sc_44.n rfl rfl rfl (t_44_0 hS) ?_
    intro z10 ez10 f11
    refine n_iconst c_66_25 ?_
    refine n_v2I c_66_26 rfl hw.c0.1.n rfl rfl rfl rfl (tried_2 (q := w) (a := z10) (n := 2) hS hw (by omega) (by omega)) ?_
    intro z12 M13 hP14
    obtain ⟨eM, f14⟩ := hP14
    subst eM
    refine n_istore (L2 := [some (2, 38), some (2, 44), some (2, w), some (2, 4), some (0, z7), some (0, z12), none, none, none, none, none, none]) c_66_29 rfl rfl ?_
    refine n_iconst c_66_31 ?_
    refine n_istore (L2 := [some (2, 38), some (2, 44), some (2, w), some (2, 4), some (0, z7), some (0, z12), some (0, 0), none, none, none, none, none]) c_66_32 rfl rfl ?_
    refine n_fg (le_s (le_s (le_s (le_s (le_s (le_s (le_s (le_n (le_n (le_n (le_n (le_n le_0)))))))))))) ?_
    exact (restrain_2_c hS hw 50528).1 _ _ _ M hS (by omega) (by omega) (by omega) (by omega)
  · intro h15
    exact n_rV c_66_8 rfl hS

set_option maxHeartbeats 4000000 in
theorem isUnknown_2_c {xs : List Int32} {e : Nat} {ac : Int} {M0 M : nM} {u : Int} (hS : Sf 2 ac M0 M) (hu : -2147483648 ≤ u ∧ u ≤ 2147483647) : ∀ nn : Nat, (1 < (nn : Int) → nW xs e 75 16 [none, none] [] M (nPI fun z M1 => M = M1 ∧ (0 ≤ z ∧ z ≤ 1) ∧ (z = 0 ∨ (0 ≤ u ∧ u ≤ 7)))) := by
  have hd : (2 : Int) = 2 ∨ (2 : Int) = 3 := by decide
  have hac := hS.2.2.2.2
  intro nn
  induction nn with
  | zero => intros; omega
  | succ nn ih =>
    intro hnn
    refine n_iconst c_75_16 ?_
    exact n_rZ c_75_17 rfl (by omega) ⟨rfl, by omega, by omega⟩
set_option maxHeartbeats 4000000 in
theorem isUnknown_2 {xs : List Int32} {e : Nat} {ac : Int} {M0 M : nM} {u : Int} (hS : Sf 2 ac M0 M) (hu : -2147483648 ≤ u ∧ u ≤ 2147483647) : nW xs e 75 0 [some (2, 32), some (0, u)] [] M (nPI fun z M1 => M = M1 ∧ (0 ≤ z ∧ z ≤ 1) ∧ (z = 0 ∨ (0 ≤ u ∧ u ≤ 7))) := by
  have hd : (2 : Int) = 2 ∨ (2 : Int) = 3 := by decide
  have hac := hS.2.2.2.2
  refine n_iload_n c_75_0 rfl ?_
  refine n_if0_lt c_75_1 (by omega) ?_ ?_
  · intro h1
    refine n_fg (le_n (le_n le_0)) ?_
    exact (isUnknown_2_c hS hu 12)   (by omega)
  · intro h2
    refine n_iload_n c_75_4 rfl ?_
    refine n_aload_n c_75_5 rfl ?_
    refine n_getV (bi := 0) c_75_6 sc_32.n rfl rfl rfl (t_32_0 hS) ?_
    intro z3 ez3 f4
    refine n_if2_ge c_75_9 (by omega) (by omega) ?_ ?_
    · intro h5
      refine n_fg (le_n (le_n le_0)) ?_
      exact (isUnknown_2_c hS hu 12)   (by omega)
    · intro h6
      refine n_iconst c_75_12 ?_
      refine n_goto c_75_13 ?_
      exact n_rZ c_75_17 rfl (by omega) ⟨rfl, by omega, by omega⟩

set_option maxHeartbeats 4000000 in
theorem lawMask_2_c {xs : List Int32} {e : Nat} {ac : Int} {M0 M : nM} (hS : Sf 2 ac M0 M)  : ∀ nn : Nat, (∀ (x1 x2 : Int), (0 ≤ x1 ∧ x1 ≤ 4095) → (0 ≤ x2 ∧ x2 ≤ 30) → (30 - x2) * 1 + 1 < (nn : Int) → nW xs e 77 4 [some (2, 32), some (0, x1), some (0, x2)] [] M (nPI fun z M1 => M = M1 ∧ (-2147483648 ≤ z ∧ z ≤ 2147483647))) := by
  have hd : (2 : Int) = 2 ∨ (2 : Int) = 3 := by decide
  have hac := hS.2.2.2.2
  intro nn
  induction nn with
  | zero => intros; omega
  | succ nn ih =>
    intro x1 x2 k1 k2 hnn
    refine n_iload_n c_77_4 rfl ?_
    refine n_aload_n c_77_5 rfl ?_
    refine n_getV (bi := 1) c_77_6 sc_32.n rfl rfl rfl (t_32_1 hS) ?_
    intro z1 ez1 f2
    refine n_if2_ge c_77_9 (by omega) (by omega) ?_ ?_
    · intro h3
      refine n_iload_n c_77_29 rfl ?_
      exact n_rI c_77_30 rfl ⟨rfl, by omega⟩
    · intro h4
      refine n_iload_n c_77_12 rfl ?_
      refine n_iconst c_77_13 ?_
      refine n_aload_n c_77_14 rfl ?_
      refine n_getR c_77_15 sc_32.n rfl rfl rfl r_32_2 ?_
      refine n_iload_n c_77_18 rfl ?_
      refine n_ialoadV c_77_19 sc_33.n rfl rfl rfl (by omega) (t_33 hS (by omega)) ?_
      intro z5 ez5 f6
      refine n_i_ishl c_77_20 rfl ?_
      have f7 := n_shl_1 (y := z5) (a := 0) (b := 11) (by decide) (by omega)
      generalize (n_shl 1 z5) = z8 at f7 ⊢
      refine n_i_ior c_77_21 rfl ?_
      have f9 := n_or_k (x := x1) (y := z8) (n := 12) (by decide) (by omega) (by omega)
      generalize (n_or x1 z8) = z10 at f9 ⊢
      refine n_istore_n (L2 := [some (2, 32), some (0, z10), some (0, x2)]) c_77_22 rfl rfl ?_
      refine n_iinc (L2 := [some (2, 32), some (0, z10), some (0, (x2 + 1))]) c_77_23 rfl rfl rfl ?_
      refine n_goto c_77_26 ?_
      refine n_fg (le_s (le_s (le_s le_0))) ?_
      exact ih _ _ (by omega) (by omega) (by omega)
set_option maxHeartbeats 4000000 in
theorem lawMask_2 {xs : List Int32} {e : Nat} {ac : Int} {M0 M : nM} (hS : Sf 2 ac M0 M)  : nW xs e 77 0 [some (2, 32), none, none] [] M (nPI fun z M1 => M = M1 ∧ (-2147483648 ≤ z ∧ z ≤ 2147483647)) := by
  have hd : (2 : Int) = 2 ∨ (2 : Int) = 3 := by decide
  have hac := hS.2.2.2.2
  refine n_iconst c_77_0 ?_
  refine n_istore_n (L2 := [some (2, 32), some (0, 0), none]) c_77_1 rfl rfl ?_
  refine n_iconst c_77_2 ?_
  refine n_istore_n (L2 := [some (2, 32), some (0, 0), some (0, 0)]) c_77_3 rfl rfl ?_
  refine n_fg (le_s (le_s (le_s le_0))) ?_
  exact (lawMask_2_c hS  74) _ _ (by omega) (by omega) (by omega)

set_option maxHeartbeats 4000000 in
theorem canHave_2 {xs : List Int32} {e : Nat} {ac : Int} {M0 M : nM} {u t : Int} (hS : Sf 2 ac M0 M) (hu : 0 ≤ u ∧ u ≤ 7) (ht : -2147483648 ≤ t ∧ t ≤ 2147483647) : nW xs e 81 0 [some (2, 32), some (0, u), some (0, t)] [] M (nPI fun z M1 => M = M1 ∧ (0 ≤ z ∧ z ≤ 1)) := by
  have hd : (2 : Int) = 2 ∨ (2 : Int) = 3 := by decide
  have hac := hS.2.2.2.2
  refine n_aload_n c_81_0 rfl ?_
  refine n_getR c_81_1 sc_32.n rfl rfl rfl r_32_6 ?_
  refine n_iload_n c_81_4 rfl ?_
  refine n_ialoadV c_81_5 sc_37.n rfl rfl rfl (by omega) (t_37 hS (by omega)) ?_
  intro z1 ez1 f2
  refine n_iload_n c_81_6 rfl ?_
  refine n_i_ishr c_81_7 rfl ?_
  have f3 := n_shr_r z1 t
  generalize (n_shr z1 t) = z4 at f3 ⊢
  refine n_iconst c_81_8 ?_
  refine n_i_iand c_81_9 rfl ?_
  have f5 := n_and_y (x := z4) (y := 1) (by omega)
  generalize (n_and z4 1) = z6 at f5 ⊢
  refine n_if0_eq c_81_10 (by omega) ?_ ?_
  · intro h7
    refine n_iconst c_81_17 ?_
    exact n_rZ c_81_18 rfl (by omega) ⟨rfl, by omega⟩
  · intro h8
    refine n_iconst c_81_13 ?_
    refine n_goto c_81_14 ?_
    exact n_rZ c_81_18 rfl (by omega) ⟨rfl, by omega⟩

set_option maxHeartbeats 4000000 in
theorem leave_2 {xs : List Int32} {e : Nat} {ac : Int} {M0 M : nM} {u t : Int} (hS : Sf 2 ac M0 M) (hu : 0 ≤ u ∧ u ≤ 7) (ht : -2147483648 ≤ t ∧ t ≤ 2147483647) : nW xs e 82 0 [some (2, 32), some (0, u), some (0, t), none] [] M (nPI fun z M1 => Sf 2 ac M0 M1 ∧ (0 ≤ z ∧ z ≤ 1)) := by
  have hd : (2 : Int) = 2 ∨ (2 : Int) = 3 := by decide
  have hac := hS.2.2.2.2
  refine n_aload_n c_82_0 rfl ?_
  refine n_getR c_82_1 sc_32.n rfl rfl rfl r_32_6 ?_
  refine n_iload_n c_82_4 rfl ?_
  refine n_ialoadV c_82_5 sc_37.n rfl rfl rfl (by omega) (t_37 hS (by omega)) ?_
  intro z1 ez1 f2
  refine n_istore_n (L2 := [some (2, 32), some (0, u), some (0, t), some (0, z1)]) c_82_6 rfl rfl ?_
  refine n_aload_n c_82_7 rfl ?_
  refine n_getR c_82_8 sc_32.n rfl rfl rfl r_32_6 ?_
  refine n_iload_n c_82_11 rfl ?_
  refine n_iload_n c_82_12 rfl ?_
  refine n_iload_n c_82_13 rfl ?_
  refine n_i_iand c_82_14 rfl ?_
  have f3 := n_and_r z1 t
  generalize (n_and z1 t) = z4 at f3 ⊢
  refine n_iastoreV hS c_82_15 sc_37.n rfl (by omega) (w_37 (by omega) (by omega)) ?_
  intro M5 eM5 hS5
  have g5_0 : M5 37 u = z4 := by rw [eM5]; exact nu_s _ _ _ _
  refine n_aload_n c_82_16 rfl ?_
  refine n_getR c_82_17 sc_32.n rfl rfl rfl r_32_6 ?_
  refine n_iload_n c_82_20 rfl ?_
  refine n_ialoadV c_82_21 sc_37.n rfl rfl rfl (by omega) (t_37 hS5 (by omega)) ?_
  intro z6 ez6 f7
  refine n_iload_n c_82_22 rfl ?_
  refine n_if2_eq c_82_23 (by omega) (by omega) ?_ ?_
  · intro h8
    refine n_iconst c_82_30 ?_
    exact n_rZ c_82_31 rfl (by omega) ⟨hS5, by omega⟩
  · intro h9
    refine n_iconst c_82_26 ?_
    refine n_goto c_82_27 ?_
    exact n_rZ c_82_31 rfl (by omega) ⟨hS5, by omega⟩

set_option maxHeartbeats 4000000 in
theorem isOpen_2_c {xs : List Int32} {e : Nat} {ac : Int} {M0 M : nM} {i a b c : Int} (hS : Sf 2 ac M0 M) (hi : 0 ≤ i ∧ i ≤ 29) (ha : -2147483648 ≤ a ∧ a ≤ 2147483647) (hb : -2147483648 ≤ b ∧ b ≤ 2147483647) (hc : -2147483648 ≤ c ∧ c ≤ 2147483647) : ∀ nn : Nat, (5 < (nn : Int) → nW xs (e + 1) 80 43 [none, none, none, none, none] [] M (nPI fun z M1 => M = M1 ∧ (0 ≤ z ∧ z ≤ 1))) ∧ (4 < (nn : Int) → nW xs (e + 1) 80 65 [some (2, 32), some (0, i), some (0, a), some (0, b), some (0, c)] [] M (nPI fun z M1 => M = M1 ∧ (0 ≤ z ∧ z ≤ 1))) ∧ (3 < (nn : Int) → nW xs (e + 1) 80 86 [some (2, 32), some (0, i), some (0, a), none, some (0, c)] [] M (nPI fun z M1 => M = M1 ∧ (0 ≤ z ∧ z ≤ 1))) ∧ (2 < (nn : Int) → nW xs (e + 1) 80 107 [none, none, none, none, none] [] M (nPI fun z M1 => M = M1 ∧ (0 ≤ z ∧ z ≤ 1))) ∧ (1 < (nn : Int) → nW xs (e + 1) 80 111 [none, none, none, none, none] [] M (nPI fun z M1 => M = M1 ∧ (0 ≤ z ∧ z ≤ 1))) := by
  have hd : (2 : Int) = 2 ∨ (2 : Int) = 3 := by decide
  have hac := hS.2.2.2.2
  intro nn
  induction nn with
  | zero => refine ⟨?_, ?_, ?_, ?_, ?_⟩ <;> (intros; omega)
  | succ nn ih =>
    refine ⟨?_, ?_, ?_, ?_, ?_⟩
    · intro hnn
      refine n_iconst c_80_43 ?_
      exact n_rZ c_80_44 rfl (by omega) ⟨rfl, by omega⟩
    · intro hnn
      refine n_aload_n c_80_65 rfl ?_
      refine n_getR c_80_66 sc_32.n rfl rfl rfl r_32_4 ?_
      refine n_iload_n c_80_69 rfl ?_
      refine n_ialoadV c_80_70 sc_35.n rfl rfl rfl (by omega) (t_35 hS (by omega)) ?_
      intro z1 ez1 f2
      refine n_aload_n c_80_71 rfl ?_
      refine n_getR c_80_72 sc_32.n rfl rfl rfl r_32_5 ?_
      refine n_iload_n c_80_75 rfl ?_
      refine n_ialoadV c_80_76 sc_36.n rfl rfl rfl (by omega) (t_36 hS (by omega)) ?_
      intro z3 ez3 f4
      refine n_if2_ne c_80_77 (by omega) (by omega) ?_ ?_
      · intro h5
        refine n_fg (le_s (le_s (le_s (le_n (le_s le_0))))) ?_
        exact ih.2.2.1   (by omega)
      · intro h6
        refine n_iload_n c_80_80 rfl ?_
        refine n_iload c_80_81 rfl ?_
        refine n_if2_ne c_80_83 (by omega) (by omega) ?_ ?_
        · intro h7
          refine n_fg (le_n (le_n (le_n (le_n (le_n le_0))))) ?_
          exact ih.2.2.2.2   (by omega)
        · intro h8
          refine n_fg (le_s (le_s (le_s (le_n (le_s le_0))))) ?_
          exact ih.2.2.1   (by omega)
    · intro hnn
      refine n_aload_n c_80_86 rfl ?_
      refine n_getR c_80_87 sc_32.n rfl rfl rfl r_32_3 ?_
      refine n_iload_n c_80_90 rfl ?_
      refine n_ialoadV c_80_91 sc_34.n rfl rfl rfl (by omega) (t_34 hS (by omega)) ?_
      intro z1 ez1 f2
      refine n_aload_n c_80_92 rfl ?_
      refine n_getR c_80_93 sc_32.n rfl rfl rfl r_32_5 ?_
      refine n_iload_n c_80_96 rfl ?_
      refine n_ialoadV c_80_97 sc_36.n rfl rfl rfl (by omega) (t_36 hS (by omega)) ?_
      intro z3 ez3 f4
      refine n_if2_ne c_80_98 (by omega) (by omega) ?_ ?_
      · intro h5
        refine n_fg (le_n (le_n (le_n (le_n (le_n le_0))))) ?_
        exact ih.2.2.2.1   (by omega)
      · intro h6
        refine n_iload_n c_80_101 rfl ?_
        refine n_iload c_80_102 rfl ?_
        refine n_if2_ne c_80_104 (by omega) (by omega) ?_ ?_
        · intro h7
          refine n_fg (le_n (le_n (le_n (le_n (le_n le_0))))) ?_
          exact ih.2.2.2.2   (by omega)
        · intro h8
          refine n_fg (le_n (le_n (le_n (le_n (le_n le_0))))) ?_
          exact ih.2.2.2.1   (by omega)
    · intro hnn
      refine n_iconst c_80_107 ?_
      refine n_goto c_80_108 ?_
      exact n_rZ c_80_112 rfl (by omega) ⟨rfl, by omega⟩
    · intro hnn
      refine n_iconst c_80_111 ?_
      exact n_rZ c_80_112 rfl (by omega) ⟨rfl, by omega⟩
set_option maxHeartbeats 4000000 in
theorem isOpen_2 {xs : List Int32} {e : Nat} {ac : Int} {M0 M : nM} {i a b c : Int} (hS : Sf 2 ac M0 M) (hi : 0 ≤ i ∧ i ≤ 29) (ha : -2147483648 ≤ a ∧ a ≤ 2147483647) (hb : -2147483648 ≤ b ∧ b ≤ 2147483647) (hc : -2147483648 ≤ c ∧ c ≤ 2147483647) : nW xs (e + 1) 80 0 [some (2, 32), some (0, i), some (0, a), some (0, b), some (0, c)] [] M (nPI fun z M1 => M = M1 ∧ (0 ≤ z ∧ z ≤ 1)) := by
  have hd : (2 : Int) = 2 ∨ (2 : Int) = 3 := by decide
  have hac := hS.2.2.2.2
  refine n_aload_n c_80_0 rfl ?_
  refine n_aload_n c_80_1 rfl ?_
  refine n_getR c_80_2 sc_32.n rfl rfl rfl r_32_3 ?_
  refine n_iload_n c_80_5 rfl ?_
  refine n_ialoadV c_80_6 sc_34.n rfl rfl rfl (by omega) (t_34 hS (by omega)) ?_
  intro z1 ez1 f2
  refine n_iload_n c_80_7 rfl ?_
  refine n_v2I c_80_8 rfl sc_32.n rfl rfl rfl rfl (canHave_2 (u := z1) (t := a) hS (by omega) (by omega)) ?_
  intro z3 M4 hP5
  obtain ⟨eM, f5⟩ := hP5
  subst eM
  refine n_if0_eq c_80_11 (by omega) ?_ ?_
  · intro h6
    refine n_fg (le_n (le_n (le_n (le_n (le_n le_0))))) ?_
    exact (isOpen_2_c hS hi ha hb hc 20).1   (by omega)
  · intro h7
    refine n_aload_n c_80_14 rfl ?_
    refine n_aload_n c_80_15 rfl ?_
    refine n_getR c_80_16 sc_32.n rfl rfl rfl r_32_4 ?_
    refine n_iload_n c_80_19 rfl ?_
    refine n_ialoadV c_80_20 sc_35.n rfl rfl rfl (by omega) (t_35 hS (by omega)) ?_
    intro z8 ez8 f9
    refine n_iload_n c_80_21 rfl ?_
    refine n_v2I c_80_22 rfl sc_32.n rfl rfl rfl rfl (canHave_2 (u := z8) (t := b) hS (by omega) (by omega)) ?_
    intro z10 M11 hP12
    obtain ⟨eM, f12⟩ := hP12
    subst eM
    refine n_if0_eq c_80_25 (by omega) ?_ ?_
    · intro h13
      refine n_fg (le_n (le_n (le_n (le_n (le_n le_0))))) ?_
      exact (isOpen_2_c hS hi ha hb hc 20).1   (by omega)
    · intro h14
      refine n_aload_n c_80_28 rfl ?_
      refine n_aload_n c_80_29 rfl ?_
      refine n_getR c_80_30 sc_32.n rfl rfl rfl r_32_5 ?_
      refine n_iload_n c_80_33 rfl ?_
      refine n_ialoadV c_80_34 sc_36.n rfl rfl rfl (by omega) (t_36 hS (by omega)) ?_
      intro z15 ez15 f16
      refine n_iload c_80_35 rfl ?_
      refine n_v2I c_80_37 rfl sc_32.n rfl rfl rfl rfl (canHave_2 (u := z15) (t := c) hS (by omega) (by omega)) ?_
      intro z17 M18 hP19
      obtain ⟨eM, f19⟩ := hP19
      subst eM
      refine n_if0_ne c_80_40 (by omega) ?_ ?_
      · intro h20
        refine n_aload_n c_80_45 rfl ?_
        refine n_getR c_80_46 sc_32.n rfl rfl rfl r_32_3 ?_
        refine n_iload_n c_80_49 rfl ?_
        refine n_ialoadV c_80_50 sc_34.n rfl rfl rfl (by omega) (t_34 hS (by omega)) ?_
        intro z21 ez21 f22
        refine n_aload_n c_80_51 rfl ?_
        refine n_getR c_80_52 sc_32.n rfl rfl rfl r_32_4 ?_
        refine n_iload_n c_80_55 rfl ?_
        refine n_ialoadV c_80_56 sc_35.n rfl rfl rfl (by omega) (t_35 hS (by omega)) ?_
        intro z23 ez23 f24
        refine n_if2_ne c_80_57 (by omega) (by omega) ?_ ?_
        · intro h25
          refine n_fg (le_s (le_s (le_s (le_s (le_s le_0))))) ?_
          exact (isOpen_2_c hS hi ha hb hc 20).2.1   (by omega)
        · intro h26
          refine n_iload_n c_80_60 rfl ?_
          refine n_iload_n c_80_61 rfl ?_
          refine n_if2_ne c_80_62 (by omega) (by omega) ?_ ?_
          · intro h27
            refine n_fg (le_n (le_n (le_n (le_n (le_n le_0))))) ?_
            exact (isOpen_2_c hS hi ha hb hc 20).2.2.2.2   (by omega)
          · intro h28
            refine n_fg (le_s (le_s (le_s (le_s (le_s le_0))))) ?_
            exact (isOpen_2_c hS hi ha hb hc 20).2.1   (by omega)
      · intro h29
        refine n_fg (le_n (le_n (le_n (le_n (le_n le_0))))) ?_
        exact (isOpen_2_c hS hi ha hb hc 20).1   (by omega)

set_option maxHeartbeats 4000000 in
theorem narrowBy_2_c {xs : List Int32} {e : Nat} {ac : Int} {M0 M : nM} {w i : Int} (hS : Sf 2 ac M0 M) (hw : LawAt w) (hi : 0 ≤ i ∧ i ≤ 29) : ∀ nn : Nat, (∀ (x4 x5 x6 x7 : Int) (M : nM), Sf 2 ac M0 M → (0 ≤ x4 ∧ x4 ≤ 7) → (0 ≤ x5 ∧ x5 ≤ 7) → (0 ≤ x6 ∧ x6 ≤ 7) → (0 ≤ x7 ∧ x7 ≤ 27) → (27 - x7) * 2 + 2 < (nn : Int) → nW xs (e + 2) 79 12 [some (2, 32), some (0, i), some (2, w), some (2, 4), some (0, x4), some (0, x5), some (0, x6), some (0, x7), none, none, none] [] M (nPI fun z M1 => Sf 2 ac M0 M1 ∧ (0 ≤ z ∧ z ≤ 1))) ∧ (∀ (x4 x5 x6 x7 : Int) (M : nM), Sf 2 ac M0 M → (0 ≤ x4 ∧ x4 ≤ 7) → (0 ≤ x5 ∧ x5 ≤ 7) → (0 ≤ x6 ∧ x6 ≤ 7) → (0 ≤ x7 ∧ x7 ≤ 26) → (27 - x7) * 2 + 1 < (nn : Int) → nW xs (e + 2) 79 104 [some (2, 32), some (0, i), some (2, w), some (2, 4), some (0, x4), some (0, x5), some (0, x6), some (0, x7), none, none, none] [] M (nPI fun z M1 => Sf 2 ac M0 M1 ∧ (0 ≤ z ∧ z ≤ 1))) := by
  have hd : (2 : Int) = 2 ∨ (2 : Int) = 3 := by decide
  have hac := hS.2.2.2.2
  intro nn
  induction nn with
  | zero => refine ⟨?_, ?_⟩ <;> (intros; omega)
  | succ nn ih =>
    refine ⟨?_, ?_⟩
    · intro x4 x5 x6 x7 M hS k4 k5 k6 k7 hnn
      refine n_iload c_79_12 rfl ?_
      refine n_aload_n c_79_14 rfl ?_
      refine n_getV (bi := 3) c_79_15 hw.c0.1.n rfl rfl rfl (t_law hS hw).2.2.2 ?_
      intro z1 ez1 f2
      refine n_if2_ge c_79_18 (by omega) (by omega) ?_ ?_
      · intro h3
        refine n_aload_n c_79_110 rfl ?_
        refine n_aload_n c_79_111 rfl ?_
        refine n_getR c_79_112 sc_32.n rfl rfl rfl r_32_3 ?_
        refine n_iload_n c_79_115 rfl ?_
        refine n_ialoadV c_79_116 sc_34.n rfl rfl rfl (by omega) (t_34 hS (by omega)) ?_
        intro z4 ez4 f5
        refine n_iload c_79_117 rfl ?_
        refine n_v2I c_79_119 rfl sc_32.n rfl rfl rfl rfl (leave_2 (u := z4) (t := x4) hS (by omega) (by omega)) ?_
        intro z6 M7 hP8
        obtain ⟨hS7, f8⟩ := hP8
        refine n_istore (L2 := [some (2, 32), some (0, i), some (2, w), some (2, 4), some (0, x4), some (0, x5), some (0, x6), some (0, z6), none, none, none]) c_79_122 rfl rfl ?_
        refine n_iload c_79_124 rfl ?_
        refine n_aload_n c_79_126 rfl ?_
        refine n_aload_n c_79_127 rfl ?_
        refine n_getR c_79_128 sc_32.n rfl rfl rfl r_32_4 ?_
        refine n_iload_n c_79_131 rfl ?_
        refine n_ialoadV c_79_132 sc_35.n rfl rfl rfl (by omega) (t_35 hS7 (by omega)) ?_
        intro z9 ez9 f10
        refine n_iload c_79_133 rfl ?_
        refine n_v2I c_79_135 rfl sc_32.n rfl rfl rfl rfl (leave_2 (u := z9) (t := x5) hS7 (by omega) (by omega)) ?_
        intro z11 M12 hP13
        obtain ⟨hS12, f13⟩ := hP13
        refine n_i_ior c_79_138 rfl ?_
        have f14 := n_or_1 (x := z6) (y := z11) (by omega) (by omega)
        generalize (n_or z6 z11) = z15 at f14 ⊢
        refine n_istore (L2 := [some (2, 32), some (0, i), some (2, w), some (2, 4), some (0, x4), some (0, x5), some (0, x6), some (0, z15), none, none, none]) c_79_139 rfl rfl ?_
        refine n_iload c_79_141 rfl ?_
        refine n_aload_n c_79_143 rfl ?_
        refine n_aload_n c_79_144 rfl ?_
        refine n_getR c_79_145 sc_32.n rfl rfl rfl r_32_5 ?_
        refine n_iload_n c_79_148 rfl ?_
        refine n_ialoadV c_79_149 sc_36.n rfl rfl rfl (by omega) (t_36 hS12 (by omega)) ?_
        intro z16 ez16 f17
        refine n_iload c_79_150 rfl ?_
        refine n_v2I c_79_152 rfl sc_32.n rfl rfl rfl rfl (leave_2 (u := z16) (t := x6) hS12 (by omega) (by omega)) ?_
        intro z18 M19 hP20
        obtain ⟨hS19, f20⟩ := hP20
        refine n_i_ior c_79_155 rfl ?_
        have f21 := n_or_1 (x := z15) (y := z18) (by omega) (by omega)
        generalize (n_or z15 z18) = z22 at f21 ⊢
        refine n_istore (L2 := [some (2, 32), some (0, i), some (2, w), some (2, 4), some (0, x4), some (0, x5), some (0, x6), some (0, z22), none, none, none]) c_79_156 rfl rfl ?_
        refine n_iload c_79_158 rfl ?_
        exact n_rZ c_79_160 rfl (by omega) ⟨hS19, by omega⟩
      · intro h23
        refine n_aload_n c_79_21 rfl ?_
        refine n_getR c_79_22 sc_4.n rfl rfl rfl r_4_2 ?_
        refine n_aload_n c_79_25 rfl ?_
        refine n_getR c_79_26 hw.c0.1.n rfl rfl rfl hw.r ?_
        refine n_iload c_79_29 rfl ?_
        refine n_ialoadV c_79_31 hw.c0.2.n rfl rfl rfl (by omega) (t_lawr hS hw (by omega)) ?_
        intro z24 ez24 f25
        refine n_ialoadV c_79_32 sc_5.n rfl rfl rfl (by omega) (t_5 hS hd (by omega)) ?_
        intro z26 ez26 f27
        refine n_istore (L2 := [some (2, 32), some (0, i), some (2, w), some (2, 4), some (0, x4), some (0, x5), some (0, x6), some (0, x7), some (0, z26), none, none]) c_79_33 rfl rfl ?_
        refine n_aload_n c_79_35 rfl ?_
        refine n_getR c_79_36 sc_4.n rfl rfl rfl r_4_3 ?_
        refine n_aload_n c_79_39 rfl ?_
        refine n_getR c_79_40 hw.c0.1.n rfl rfl rfl hw.r ?_
        refine n_iload c_79_43 rfl ?_
        refine n_ialoadV c_79_45 hw.c0.2.n rfl rfl rfl (by omega) (t_lawr hS hw (by omega)) ?_
        intro z28 ez28 f29
        refine n_ialoadV c_79_46 sc_6.n rfl rfl rfl (by omega) (t_6 hS hd (by omega)) ?_
        intro z30 ez30 f31
        refine n_istore (L2 := [some (2, 32), some (0, i), some (2, w), some (2, 4), some (0, x4), some (0, x5), some (0, x6), some (0, x7), some (0, z26), some (0, z30), none]) c_79_47 rfl rfl ?_
        refine n_aload_n c_79_49 rfl ?_
        refine n_getR c_79_50 sc_4.n rfl rfl rfl r_4_4 ?_
        refine n_aload_n c_79_53 rfl ?_
        refine n_getR c_79_54 hw.c0.1.n rfl rfl rfl hw.r ?_
        refine n_iload c_79_57 rfl ?_
        refine n_ialoadV c_79_59 hw.c0.2.n rfl rfl rfl (by omega) (t_lawr hS hw (by omega)) ?_
        intro z32 ez32 f33
        refine n_ialoadV c_79_60 sc_7.n rfl rfl rfl (by omega) (t_7 hS hd (by omega)) ?_
        intro z34 ez34 f35
        refine n_istore (L2 := [some (2, 32), some (0, i), some (2, w), some (2, 4), some (0, x4), some (0, x5), some (0, x6), some (0, x7), some (0, z26), some (0, z30), some (0, z34)]) c_79_61 rfl rfl ?_
        refine n_aload_n c_79_63 rfl ?_
        refine n_iload_n c_79_64 rfl ?_
        refine n_iload c_79_65 rfl ?_
        refine n_iload c_79_67 rfl ?_
        refine n_iload c_79_69 rfl ?_
        refine n_v4I c_79_71 rfl sc_32.n rfl rfl rfl rfl (isOpen_2 (i := i) (a := z26) (b := z30) (c := z34) hS (by omega) (by omega) (by omega) (by omega)) ?_
        intro z36 M37 hP38
        obtain ⟨eM, f38⟩ := hP38
        subst eM
        refine n_if0_eq c_79_74 (by omega) ?_ ?_
        · intro h39
          refine n_fg (le_s (le_s (le_s (le_s (le_s (le_s (le_s (le_s (le_n (le_n (le_n le_0))))))))))) ?_
          exact ih.2 _ _ _ _ M hS (by omega) (by omega) (by omega) (by omega) (by omega)
        · intro h40
          refine n_iload c_79_77 rfl ?_
          refine n_iconst c_79_79 ?_
          refine n_iload c_79_80 rfl ?_
          refine n_i_ishl c_79_82 rfl ?_
          have f41 := n_shl_1 (y := z26) (a := 0) (b := 2) (by decide) (by omega)
          generalize (n_shl 1 z26) = z42 at f41 ⊢
          refine n_i_ior c_79_83 rfl ?_
          have f43 := n_or_k (x := x4) (y := z42) (n := 3) (by decide) (by omega) (by omega)
          generalize (n_or x4 z42) = z44 at f43 ⊢
          refine n_istore (L2 := [some (2, 32), some (0, i), some (2, w), some (2, 4), some (0, z44), some (0, x5), some (0, x6), some (0, x7), some (0, z26), some (0, z30), some (0, z34)]) c_79_84 rfl rfl ?_
          refine n_iload c_79_86 rfl ?_
          refine n_iconst c_79_88 ?_
          refine n_iload c_79_89 rfl ?_
          refine n_i_ishl c_79_91 rfl ?_
          have f45 := n_shl_1 (y := z30) (a := 0) (b := 2) (by decide) (by omega)
          generalize (n_shl 1 z30) = z46 at f45 ⊢
          refine n_i_ior c_79_92 rfl ?_
          have f47 := n_or_k (x := x5) (y := z46) (n := 3) (by decide) (by omega) (by omega)
          generalize (n_or x5 z46) = z48 at f47 ⊢
          refine n_istore (L2 := [some (2, 32), some (0, i), some (2, w), some (2, 4), some (0, z44), some (0, z48), some (0, x6), some (0, x7), some (0, z26), some (0, z30), some (0, z34)]) c_79_93 rfl rfl ?_
          refine n_iload c_79_95 rfl ?_
          refine n_iconst c_79_97 ?_
          refine n_iload c_79_98 rfl ?_
          refine n_i_ishl c_79_100 rfl ?_
          have f49 := n_shl_1 (y := z34) (a := 0) (b := 2) (by decide) (by omega)
          generalize (n_shl 1 z34) = z50 at f49 ⊢
          refine n_i_ior c_79_101 rfl ?_
          have f51 := n_or_k (x := x6) (y := z50) (n := 3) (by decide) (by omega) (by omega)
          generalize (n_or x6 z50) = z52 at f51 ⊢
          refine n_istore (L2 := [some (2, 32), some (0, i), some (2, w), some (2, 4), some (0, z44), some (0, z48), some (0, z52), some (0, x7), some (0, z26), some (0, z30), some (0, z34)]) c_79_102 rfl rfl ?_
          refine n_fg (le_s (le_s (le_s (le_s (le_s (le_s (le_s (le_s (le_n (le_n (le_n le_0))))))))))) ?_
          exact ih.2 _ _ _ _ M hS (by omega) (by omega) (by omega) (by omega) (by omega)
    · intro x4 x5 x6 x7 M hS k4 k5 k6 k7 hnn
      refine n_iinc (L2 := [some (2, 32), some (0, i), some (2, w), some (2, 4), some (0, x4), some (0, x5), some (0, x6), some (0, (x7 + 1)), none, none, none]) c_79_104 rfl rfl rfl ?_
      refine n_goto c_79_107 ?_
      refine n_fg (le_s (le_s (le_s (le_s (le_s (le_s (le_s (le_s (le_n (le_n (le_n le_0))))))))))) ?_
      exact ih.1 _ _ _ _ M hS (by omega) (by omega) (by omega) (by omega) (by omega)
set_option maxHeartbeats 4000000 in
theorem narrowBy_2 {xs : List Int32} {e : Nat} {ac : Int} {M0 M : nM} {w i : Int} (hS : Sf 2 ac M0 M) (hw : LawAt w) (hi : 0 ≤ i ∧ i ≤ 29) : nW xs (e + 2) 79 0 [some (2, 32), some (0, i), some (2, w), some (2, 4), none, none, none, none, none, none, none] [] M (nPI fun z M1 => Sf 2 ac M0 M1 ∧ (0 ≤ z ∧ z ≤ 1)) := by
  have hd : (2 : Int) = 2 ∨ (2 : Int) = 3 := by decide
  have hac := hS.2.2.2.2
  refine n_iconst c_79_0 ?_
  refine n_istore (L2 := [some (2, 32), some (0, i), some (2, w), some (2, 4), some (0, 0), none, none, none, none, none, none]) c_79_1 rfl rfl ?_
  refine n_iconst c_79_3 ?_
  refine n_istore (L2 := [some (2, 32), some (0, i), some (2, w), some (2, 4), some (0, 0), some (0, 0), none, none, none, none, none]) c_79_4 rfl rfl ?_
  refine n_iconst c_79_6 ?_
  refine n_istore (L2 := [some (2, 32), some (0, i), some (2, w), some (2, 4), some (0, 0), some (0, 0), some (0, 0), none, none, none, none]) c_79_7 rfl rfl ?_
  refine n_iconst c_79_9 ?_
  refine n_istore (L2 := [some (2, 32), some (0, i), some (2, w), some (2, 4), some (0, 0), some (0, 0), some (0, 0), some (0, 0), none, none, none]) c_79_10 rfl rfl ?_
  refine n_fg (le_s (le_s (le_s (le_s (le_s (le_s (le_s (le_s (le_n (le_n (le_n le_0))))))))))) ?_
  exact (narrowBy_2_c hS hw hi 126).1 _ _ _ _ M hS (by omega) (by omega) (by omega) (by omega) (by omega)

set_option maxHeartbeats 4000000 in
theorem narrow_2_c {xs : List Int32} {e : Nat} {ac : Int} {M0 M : nM} (hS : Sf 2 ac M0 M)  : ∀ nn : Nat, (∀ (x3 x4 : Int) (M : nM), Sf 2 ac M0 M → (0 ≤ x3 ∧ x3 ≤ 1) → (0 ≤ x4 ∧ x4 ≤ 27) → (27 - x4) * 33 + 34 < (nn : Int) → nW xs (e + 3) 78 16 [some (2, 32), some (2, 13), some (2, 4), some (0, x3), some (0, x4), none] [] M (nPV fun M1 => Sf 2 ac M0 M1)) ∧ (∀ (x3 x4 x5 : Int) (M : nM), Sf 2 ac M0 M → (0 ≤ x3 ∧ x3 ≤ 1) → (0 ≤ x4 ∧ x4 ≤ 26) → (0 ≤ x5 ∧ x5 ≤ 30) → (27 - x4) * 33 + (30 - x5) * 1 + 2 < (nn : Int) → nW xs (e + 3) 78 32 [some (2, 32), some (2, 13), some (2, 4), some (0, x3), some (0, x4), some (0, x5)] [] M (nPV fun M1 => Sf 2 ac M0 M1)) ∧ (∀ (M : nM), Sf 2 ac M0 M → 1 < (nn : Int) → nW xs (e + 3) 78 72 [none, none, none, none, none, none] [] M (nPV fun M1 => Sf 2 ac M0 M1)) := by
  have hd : (2 : Int) = 2 ∨ (2 : Int) = 3 := by decide
  have hac := hS.2.2.2.2
  intro nn
  induction nn with
  | zero => refine ⟨?_, ?_, ?_⟩ <;> (intros; omega)
  | succ nn ih =>
    refine ⟨?_, ?_, ?_⟩
    · intro x3 x4 M hS k3 k4 hnn
      refine n_iload c_78_16 rfl ?_
      refine n_bipush c_78_18 rfl ?_
      refine n_if2_ge c_78_20 (by omega) (by omega) ?_ ?_
      · intro h1
        refine n_fg (le_n (le_n (le_n (le_n (le_n (le_n le_0)))))) ?_
        exact ih.2.2  M hS  (by omega)
      · intro h2
        refine n_iload_n c_78_23 rfl ?_
        refine n_if0_eq c_78_24 (by omega) ?_ ?_
        · intro h3
          refine n_fg (le_n (le_n (le_n (le_n (le_n (le_n le_0)))))) ?_
          exact ih.2.2  M hS  (by omega)
        · intro h4
          refine n_iconst c_78_27 ?_
          refine n_istore_n (L2 := [some (2, 32), some (2, 13), some (2, 4), some (0, 0), some (0, x4), none]) c_78_28 rfl rfl ?_
          refine n_iconst c_78_29 ?_
          refine n_istore (L2 := [some (2, 32), some (2, 13), some (2, 4), some (0, 0), some (0, x4), some (0, 0)]) c_78_30 rfl rfl ?_
          refine n_fg (le_s (le_s (le_s (le_s (le_s (le_s le_0)))))) ?_
          exact ih.2.1 _ _ _ M hS (by omega) (by omega) (by omega) (by omega)
    · intro x3 x4 x5 M hS k3 k4 k5 hnn
      refine n_iload c_78_32 rfl ?_
      refine n_aload_n c_78_34 rfl ?_
      refine n_getV (bi := 1) c_78_35 sc_32.n rfl rfl rfl (t_32_1 hS) ?_
      intro z1 ez1 f2
      refine n_if2_ge c_78_38 (by omega) (by omega) ?_ ?_
      · intro h3
        refine n_iinc (L2 := [some (2, 32), some (2, 13), some (2, 4), some (0, x3), some (0, (x4 + 1)), some (0, x5)]) c_78_66 rfl rfl rfl ?_
        refine n_goto c_78_69 ?_
        refine n_fg (le_s (le_s (le_s (le_s (le_s (le_n le_0)))))) ?_
        exact ih.1 _ _ M hS (by omega) (by omega) (by omega)
      · intro h4
        refine n_iload_n c_78_41 rfl ?_
        refine n_aload_n c_78_42 rfl ?_
        refine n_iload c_78_43 rfl ?_
        refine n_aload_n c_78_45 rfl ?_
        refine n_aload_n c_78_46 rfl ?_
        refine n_getR c_78_47 sc_32.n rfl rfl rfl r_32_2 ?_
        refine n_iload c_78_50 rfl ?_
        refine n_ialoadV c_78_52 sc_33.n rfl rfl rfl (by omega) (t_33 hS (by omega)) ?_
        intro z5 ez5 f6
        refine n_aaload c_78_53 sc_13.n rfl rfl rfl (by omega) (r_laws _) ?_
        have q7 : LawAt (79 + 2 * z5) := by unfold LawAt; omega
        refine n_aload_n c_78_54 rfl ?_
        refine n_v3I c_78_55 rfl sc_32.n rfl rfl rfl rfl (narrowBy_2 (i := x5) (w := (79 + 2 * z5)) hS q7 (by omega)) ?_
        intro z8 M9 hP10
        obtain ⟨hS9, f10⟩ := hP10
        refine n_i_ior c_78_58 rfl ?_
        have f11 := n_or_1 (x := x3) (y := z8) (by omega) (by omega)
        generalize (n_or x3 z8) = z12 at f11 ⊢
        refine n_istore_n (L2 := [some (2, 32), some (2, 13), some (2, 4), some (0, z12), some (0, x4), some (0, x5)]) c_78_59 rfl rfl ?_
        refine n_iinc (L2 := [some (2, 32), some (2, 13), some (2, 4), some (0, z12), some (0, x4), some (0, (x5 + 1))]) c_78_60 rfl rfl rfl ?_
        refine n_goto c_78_63 ?_
        refine n_fg (le_s (le_s (le_s (le_s (le_s (le_s le_0)))))) ?_
        exact ih.2.1 _ _ _ M9 hS9 (by omega) (by omega) (by omega) (by omega)
    · intro M hS hnn
      exact n_rV c_78_72 rfl hS
set_option maxHeartbeats 4000000 in
theorem narrow_2 {xs : List Int32} {e : Nat} {ac : Int} {M0 M : nM} (hS : Sf 2 ac M0 M)  : nW xs (e + 3) 78 0 [some (2, 32), some (2, 13), some (2, 4), none, none, none] [] M (nPV fun M1 => Sf 2 ac M0 M1) := by
  have hd : (2 : Int) = 2 ∨ (2 : Int) = 3 := by decide
  have hac := hS.2.2.2.2
  refine n_aload_n c_78_0 rfl ?_
  refine n_getR c_78_1 sc_32.n rfl rfl rfl r_32_6 ?_
  refine n_aload_n c_78_4 rfl ?_
  refine n_v0I c_78_5 rfl sc_4.n rfl rfl rfl rfl (allThings_2  hS ) ?_
  intro z1 M2 hP3
  obtain ⟨eM, f3⟩ := hP3
  subst eM
  obtain rfl : z1 = 3 := by omega
  refine n_s2V c_78_8 rfl rfl rfl rfl (fill37_2 (v := 3) hS (by omega)) ?_
  intro  M4 hP5
  have hS4 := hP5
  refine n_iconst c_78_11 ?_
  refine n_istore_n (L2 := [some (2, 32), some (2, 13), some (2, 4), some (0, 1), none, none]) c_78_12 rfl rfl ?_
  refine n_iconst c_78_13 ?_
  refine n_istore (L2 := [some (2, 32), some (2, 13), some (2, 4), some (0, 1), some (0, 0), none]) c_78_14 rfl rfl ?_
  refine n_fg (le_s (le_s (le_s (le_s (le_s (le_n le_0)))))) ?_
  exact (narrow_2_c hS  1926).1 _ _ M4 hS4 (by omega) (by omega) (by omega)

set_option maxHeartbeats 4000000 in
theorem order_2_c {xs : List Int32} {e : Nat} {ac : Int} {M0 M : nM} (hS : Sf 2 ac M0 M)  : ∀ nn : Nat, (∀ (x1 x2 : Int) (M : nM), Sf 2 ac M0 M → (0 ≤ x1 ∧ x1 ≤ 729) → (0 ≤ x2 ∧ x2 ≤ 9) → (x1 ≤ x2 * x2 * x2) → (9 - x2) * 2795 + 2795 < (nn : Int) → nW xs e 67 4 [some (2, 38), some (0, x1), some (0, x2), none, none, none, none, none] [] M (nPV fun M1 => Sf 2 ac M0 M1)) ∧ (∀ (x1 x2 x3 : Int) (M : nM), Sf 2 ac M0 M → (0 ≤ x1 ∧ x1 ≤ 729) → (0 ≤ x2 ∧ x2 ≤ 8) → (0 ≤ x3 ∧ x3 ≤ 9) → ((x3 ≤ x2 ∧ x1 ≤ x2 * x2 * x2 + x3 * (2 * x2 + 1)) ∨ (x3 = x2 + 1 ∧ x1 ≤ (x2 + 1) * (x2 + 1) * (x2 + 1))) → (9 - x2) * 2795 + (9 - x3) * 254 + 254 < (nn : Int) → nW xs e 67 21 [some (2, 38), some (0, x1), some (0, x2), some (0, x3), none, none, none, none] [] M (nPV fun M1 => Sf 2 ac M0 M1)) ∧ (∀ (x1 x2 x3 x4 : Int) (M : nM), Sf 2 ac M0 M → (0 ≤ x1 ∧ x1 ≤ 729) → (0 ≤ x2 ∧ x2 ≤ 8) → (0 ≤ x3 ∧ x3 ≤ 8) → (0 ≤ x4 ∧ x4 ≤ 9) → (x3 ≤ x2) → (x4 ≤ x2 + 1) → ((x3 < x2 ∧ x4 ≤ x2 ∧ x1 ≤ x2 * x2 * x2 + x3 * (2 * x2 + 1) + x4) ∨ (x3 < x2 ∧ x4 = x2 + 1 ∧ x1 ≤ x2 * x2 * x2 + x3 * (2 * x2 + 1) + 2 * x2 + 1) ∨ (x3 = x2 ∧ x1 ≤ x2 * x2 * x2 + x3 * (2 * x2 + 1) + x4 * (x2 + 1))) → (9 - x2) * 2795 + (9 - x3) * 254 + (9 - x4) * 23 + 23 < (nn : Int) → nW xs e 67 29 [some (2, 38), some (0, x1), some (0, x2), some (0, x3), some (0, x4), none, none, none] [] M (nPV fun M1 => Sf 2 ac M0 M1)) ∧ (∀ (x1 x2 x3 x4 x6 : Int) (M : nM), Sf 2 ac M0 M → (0 ≤ x1 ∧ x1 ≤ 729) → (0 ≤ x2 ∧ x2 ≤ 8) → (0 ≤ x3 ∧ x3 ≤ 8) → (0 ≤ x4 ∧ x4 ≤ 8) → (0 ≤ x6 ∧ x6 ≤ 9) → (x3 ≤ x2) → (x4 ≤ x2) → (x6 ≤ x2 + 1) → ((x3 < x2 ∧ x4 < x2 ∧ x2 ≤ x6 ∧ x1 ≤ x2 * x2 * x2 + x3 * (2 * x2 + 1) + x4 + x6 - x2) ∨ (x3 < x2 ∧ x4 = x2 ∧ x1 ≤ x2 * x2 * x2 + x3 * (2 * x2 + 1) + x4 + x6) ∨ (x3 = x2 ∧ x1 ≤ x2 * x2 * x2 + x3 * (2 * x2 + 1) + x4 * (x2 + 1) + x6)) → (9 - x2) * 2795 + (9 - x3) * 254 + (9 - x4) * 23 + (9 - x6) * 2 + 2 < (nn : Int) → nW xs e 67 65 [some (2, 38), some (0, x1), some (0, x2), some (0, x3), some (0, x4), none, some (0, x6), none] [] M (nPV fun M1 => Sf 2 ac M0 M1)) ∧ (∀ (x1 x2 x3 x4 x6 : Int) (M : nM), Sf 2 ac M0 M → (0 ≤ x1 ∧ x1 ≤ 729) → (0 ≤ x2 ∧ x2 ≤ 8) → (0 ≤ x3 ∧ x3 ≤ 8) → (0 ≤ x4 ∧ x4 ≤ 8) → (0 ≤ x6 ∧ x6 ≤ 8) → (x3 ≤ x2) → (x4 ≤ x2) → ((x6 + 1) ≤ x2 + 1) → ((x3 < x2 ∧ x4 < x2 ∧ x2 ≤ (x6 + 1) ∧ x1 ≤ x2 * x2 * x2 + x3 * (2 * x2 + 1) + x4 + (x6 + 1) - x2) ∨ (x3 < x2 ∧ x4 = x2 ∧ x1 ≤ x2 * x2 * x2 + x3 * (2 * x2 + 1) + x4 + (x6 + 1)) ∨ (x3 = x2 ∧ x1 ≤ x2 * x2 * x2 + x3 * (2 * x2 + 1) + x4 * (x2 + 1) + (x6 + 1))) → (x6 ≤ x2) → (9 - x2) * 2795 + (9 - x3) * 254 + (9 - x4) * 23 + (9 - x6) * 2 + 1 < (nn : Int) → nW xs e 67 129 [some (2, 38), some (0, x1), some (0, x2), some (0, x3), some (0, x4), none, some (0, x6), none] [] M (nPV fun M1 => Sf 2 ac M0 M1)) := by
  have hd : (2 : Int) = 2 ∨ (2 : Int) = 3 := by decide
  have hac := hS.2.2.2.2
  intro nn
  induction nn with
  | zero => refine ⟨?_, ?_, ?_, ?_, ?_⟩ <;> (intros; omega)
  | succ nn ih =>
    refine ⟨?_, ?_, ?_, ?_, ?_⟩
    · intro x1 x2 M hS k1 k2 v0 hnn
      rcases (show x2 = 0 ∨ x2 = 1 ∨ x2 = 2 ∨ x2 = 3 ∨ x2 = 4 ∨ x2 = 5 ∨ x2 = 6 ∨ x2 = 7 ∨ x2 = 8 ∨ x2 = 9 by omega) with rfl | rfl | rfl | rfl | rfl | rfl | rfl | rfl | rfl | rfl
      · skip
        refine n_iload_n c_67_4 rfl ?_
        refine n_aload_n c_67_5 rfl ?_
        refine n_getV (bi := 6) c_67_6 sc_38.n rfl rfl rfl (t_38_6 hS) ?_
        intro z1 ez1 f2
        refine n_if2_ge c_67_9 (by omega) (by omega) ?_ ?_
        · intro h3
          refine n_aload_n c_67_153 rfl ?_
          refine n_getR c_67_154 sc_38.n rfl rfl rfl r_38_4 ?_
          refine n_aload_n c_67_157 rfl ?_
          refine n_getV (bi := 6) c_67_158 sc_38.n rfl rfl rfl (t_38_6 hS) ?_
          intro z4 ez4 f5
          obtain rfl : z4 = 0 := by omega
          refine n_iload_n c_67_161 rfl ?_
          refine n_iastoreV hS c_67_162 sc_43.n rfl (by omega) (w_43 (by omega) (by omega)) ?_
          intro M6 eM6 hS6
          have g6_0 : M6 38 6 = M 38 6 := by rw [eM6]; exact nu_a (by omega)
          have g6_1 : M6 43 0 = x1 := by rw [eM6]; exact nu_s _ _ _ _
          exact n_rV c_67_163 rfl hS6
        · intro h7
          refine n_aload_n c_67_12 rfl ?_
          refine n_getR c_67_13 sc_38.n rfl rfl rfl r_38_4 ?_
          refine n_iload_n c_67_16 rfl ?_
          refine n_iload_n c_67_17 rfl ?_
          refine n_iastoreV hS c_67_18 sc_43.n rfl (by omega) (w_43 (by omega) (by omega)) ?_
          intro M8 eM8 hS8
          have g8_0 : M8 38 6 = M 38 6 := by rw [eM8]; exact nu_a (by omega)
          have g8_1 : M8 43 0 = x1 := by rw [eM8]; exact nu_s _ _ _ _
          refine n_iconst c_67_19 ?_
          refine n_istore_n (L2 := [some (2, 38), some (0, x1), some (0, 0), some (0, 0), none, none, none, none]) c_67_20 rfl rfl ?_
          refine n_fg (le_s (le_s (le_s (le_s (le_n (le_n (le_n (le_n le_0)))))))) ?_
          exact ih.2.1 _ _ _ M8 hS8 (by omega) (by omega) (by omega) (by omega) (by omega)
      · skip
        refine n_iload_n c_67_4 rfl ?_
        refine n_aload_n c_67_5 rfl ?_
        refine n_getV (bi := 6) c_67_6 sc_38.n rfl rfl rfl (t_38_6 hS) ?_
        intro z9 ez9 f10
        refine n_if2_ge c_67_9 (by omega) (by omega) ?_ ?_
        · intro h11
          refine n_aload_n c_67_153 rfl ?_
          refine n_getR c_67_154 sc_38.n rfl rfl rfl r_38_4 ?_
          refine n_aload_n c_67_157 rfl ?_
          refine n_getV (bi := 6) c_67_158 sc_38.n rfl rfl rfl (t_38_6 hS) ?_
          intro z12 ez12 f13
          refine n_iload_n c_67_161 rfl ?_
          refine n_iastoreV hS c_67_162 sc_43.n rfl (by omega) (w_43 (by omega) (by omega)) ?_
          intro M14 eM14 hS14
          have g14_0 : M14 38 6 = M 38 6 := by rw [eM14]; exact nu_a (by omega)
          have g14_1 : M14 43 z12 = x1 := by rw [eM14]; exact nu_s _ _ _ _
          exact n_rV c_67_163 rfl hS14
        · intro h15
          refine n_aload_n c_67_12 rfl ?_
          refine n_getR c_67_13 sc_38.n rfl rfl rfl r_38_4 ?_
          refine n_iload_n c_67_16 rfl ?_
          refine n_iload_n c_67_17 rfl ?_
          refine n_iastoreV hS c_67_18 sc_43.n rfl (by omega) (w_43 (by omega) (by omega)) ?_
          intro M16 eM16 hS16
          have g16_0 : M16 38 6 = M 38 6 := by rw [eM16]; exact nu_a (by omega)
          have g16_1 : M16 43 1 = x1 := by rw [eM16]; exact nu_s _ _ _ _
          refine n_iconst c_67_19 ?_
          refine n_istore_n (L2 := [some (2, 38), some (0, x1), some (0, 1), some (0, 0), none, none, none, none]) c_67_20 rfl rfl ?_
          refine n_fg (le_s (le_s (le_s (le_s (le_n (le_n (le_n (le_n le_0)))))))) ?_
          exact ih.2.1 _ _ _ M16 hS16 (by omega) (by omega) (by omega) (by omega) (by omega)
      · skip
        refine n_iload_n c_67_4 rfl ?_
        refine n_aload_n c_67_5 rfl ?_
        refine n_getV (bi := 6) c_67_6 sc_38.n rfl rfl rfl (t_38_6 hS) ?_
        intro z17 ez17 f18
        refine n_if2_ge c_67_9 (by omega) (by omega) ?_ ?_
        · intro h19
          refine n_aload_n c_67_153 rfl ?_
          refine n_getR c_67_154 sc_38.n rfl rfl rfl r_38_4 ?_
          refine n_aload_n c_67_157 rfl ?_
          refine n_getV (bi := 6) c_67_158 sc_38.n rfl rfl rfl (t_38_6 hS) ?_
          intro z20 ez20 f21
          refine n_iload_n c_67_161 rfl ?_
          refine n_iastoreV hS c_67_162 sc_43.n rfl (by omega) (w_43 (by omega) (by omega)) ?_
          intro M22 eM22 hS22
          have g22_0 : M22 38 6 = M 38 6 := by rw [eM22]; exact nu_a (by omega)
          have g22_1 : M22 43 z20 = x1 := by rw [eM22]; exact nu_s _ _ _ _
          exact n_rV c_67_163 rfl hS22
        · intro h23
          refine n_aload_n c_67_12 rfl ?_
          refine n_getR c_67_13 sc_38.n rfl rfl rfl r_38_4 ?_
          refine n_iload_n c_67_16 rfl ?_
          refine n_iload_n c_67_17 rfl ?_
          refine n_iastoreV hS c_67_18 sc_43.n rfl (by omega) (w_43 (by omega) (by omega)) ?_
          intro M24 eM24 hS24
          have g24_0 : M24 38 6 = M 38 6 := by rw [eM24]; exact nu_a (by omega)
          have g24_1 : M24 43 2 = x1 := by rw [eM24]; exact nu_s _ _ _ _
          refine n_iconst c_67_19 ?_
          refine n_istore_n (L2 := [some (2, 38), some (0, x1), some (0, 2), some (0, 0), none, none, none, none]) c_67_20 rfl rfl ?_
          refine n_fg (le_s (le_s (le_s (le_s (le_n (le_n (le_n (le_n le_0)))))))) ?_
          exact ih.2.1 _ _ _ M24 hS24 (by omega) (by omega) (by omega) (by omega) (by omega)
      · skip
        refine n_iload_n c_67_4 rfl ?_
        refine n_aload_n c_67_5 rfl ?_
        refine n_getV (bi := 6) c_67_6 sc_38.n rfl rfl rfl (t_38_6 hS) ?_
        intro z25 ez25 f26
        refine n_if2_ge c_67_9 (by omega) (by omega) ?_ ?_
        · intro h27
          refine n_aload_n c_67_153 rfl ?_
          refine n_getR c_67_154 sc_38.n rfl rfl rfl r_38_4 ?_
          refine n_aload_n c_67_157 rfl ?_
          refine n_getV (bi := 6) c_67_158 sc_38.n rfl rfl rfl (t_38_6 hS) ?_
          intro z28 ez28 f29
          refine n_iload_n c_67_161 rfl ?_
          refine n_iastoreV hS c_67_162 sc_43.n rfl (by omega) (w_43 (by omega) (by omega)) ?_
          intro M30 eM30 hS30
          have g30_0 : M30 38 6 = M 38 6 := by rw [eM30]; exact nu_a (by omega)
          have g30_1 : M30 43 z28 = x1 := by rw [eM30]; exact nu_s _ _ _ _
          exact n_rV c_67_163 rfl hS30
        · intro h31
          refine n_aload_n c_67_12 rfl ?_
          refine n_getR c_67_13 sc_38.n rfl rfl rfl r_38_4 ?_
          refine n_iload_n c_67_16 rfl ?_
          refine n_iload_n c_67_17 rfl ?_
          refine n_iastoreV hS c_67_18 sc_43.n rfl (by omega) (w_43 (by omega) (by omega)) ?_
          intro M32 eM32 hS32
          have g32_0 : M32 38 6 = M 38 6 := by rw [eM32]; exact nu_a (by omega)
          have g32_1 : M32 43 3 = x1 := by rw [eM32]; exact nu_s _ _ _ _
          refine n_iconst c_67_19 ?_
          refine n_istore_n (L2 := [some (2, 38), some (0, x1), some (0, 3), some (0, 0), none, none, none, none]) c_67_20 rfl rfl ?_
          refine n_fg (le_s (le_s (le_s (le_s (le_n (le_n (le_n (le_n le_0)))))))) ?_
          exact ih.2.1 _ _ _ M32 hS32 (by omega) (by omega) (by omega) (by omega) (by omega)
      · skip
        refine n_iload_n c_67_4 rfl ?_
        refine n_aload_n c_67_5 rfl ?_
        refine n_getV (bi := 6) c_67_6 sc_38.n rfl rfl rfl (t_38_6 hS) ?_
        intro z33 ez33 f34
        refine n_if2_ge c_67_9 (by omega) (by omega) ?_ ?_
        · intro h35
          refine n_aload_n c_67_153 rfl ?_
          refine n_getR c_67_154 sc_38.n rfl rfl rfl r_38_4 ?_
          refine n_aload_n c_67_157 rfl ?_
          refine n_getV (bi := 6) c_67_158 sc_38.n rfl rfl rfl (t_38_6 hS) ?_
          intro z36 ez36 f37
          refine n_iload_n c_67_161 rfl ?_
          refine n_iastoreV hS c_67_162 sc_43.n rfl (by omega) (w_43 (by omega) (by omega)) ?_
          intro M38 eM38 hS38
          have g38_0 : M38 38 6 = M 38 6 := by rw [eM38]; exact nu_a (by omega)
          have g38_1 : M38 43 z36 = x1 := by rw [eM38]; exact nu_s _ _ _ _
          exact n_rV c_67_163 rfl hS38
        · intro h39
          refine n_aload_n c_67_12 rfl ?_
          refine n_getR c_67_13 sc_38.n rfl rfl rfl r_38_4 ?_
          refine n_iload_n c_67_16 rfl ?_
          refine n_iload_n c_67_17 rfl ?_
          refine n_iastoreV hS c_67_18 sc_43.n rfl (by omega) (w_43 (by omega) (by omega)) ?_
          intro M40 eM40 hS40
          have g40_0 : M40 38 6 = M 38 6 := by rw [eM40]; exact nu_a (by omega)
          have g40_1 : M40 43 4 = x1 := by rw [eM40]; exact nu_s _ _ _ _
          refine n_iconst c_67_19 ?_
          refine n_istore_n (L2 := [some (2, 38), some (0, x1), some (0, 4), some (0, 0), none, none, none, none]) c_67_20 rfl rfl ?_
          refine n_fg (le_s (le_s (le_s (le_s (le_n (le_n (le_n (le_n le_0)))))))) ?_
          exact ih.2.1 _ _ _ M40 hS40 (by omega) (by omega) (by omega) (by omega) (by omega)
      · skip
        refine n_iload_n c_67_4 rfl ?_
        refine n_aload_n c_67_5 rfl ?_
        refine n_getV (bi := 6) c_67_6 sc_38.n rfl rfl rfl (t_38_6 hS) ?_
        intro z41 ez41 f42
        refine n_if2_ge c_67_9 (by omega) (by omega) ?_ ?_
        · intro h43
          refine n_aload_n c_67_153 rfl ?_
          refine n_getR c_67_154 sc_38.n rfl rfl rfl r_38_4 ?_
          refine n_aload_n c_67_157 rfl ?_
          refine n_getV (bi := 6) c_67_158 sc_38.n rfl rfl rfl (t_38_6 hS) ?_
          intro z44 ez44 f45
          refine n_iload_n c_67_161 rfl ?_
          refine n_iastoreV hS c_67_162 sc_43.n rfl (by omega) (w_43 (by omega) (by omega)) ?_
          intro M46 eM46 hS46
          have g46_0 : M46 38 6 = M 38 6 := by rw [eM46]; exact nu_a (by omega)
          have g46_1 : M46 43 z44 = x1 := by rw [eM46]; exact nu_s _ _ _ _
          exact n_rV c_67_163 rfl hS46
        · intro h47
          refine n_aload_n c_67_12 rfl ?_
          refine n_getR c_67_13 sc_38.n rfl rfl rfl r_38_4 ?_
          refine n_iload_n c_67_16 rfl ?_
          refine n_iload_n c_67_17 rfl ?_
          refine n_iastoreV hS c_67_18 sc_43.n rfl (by omega) (w_43 (by omega) (by omega)) ?_
          intro M48 eM48 hS48
          have g48_0 : M48 38 6 = M 38 6 := by rw [eM48]; exact nu_a (by omega)
          have g48_1 : M48 43 5 = x1 := by rw [eM48]; exact nu_s _ _ _ _
          refine n_iconst c_67_19 ?_
          refine n_istore_n (L2 := [some (2, 38), some (0, x1), some (0, 5), some (0, 0), none, none, none, none]) c_67_20 rfl rfl ?_
          refine n_fg (le_s (le_s (le_s (le_s (le_n (le_n (le_n (le_n le_0)))))))) ?_
          exact ih.2.1 _ _ _ M48 hS48 (by omega) (by omega) (by omega) (by omega) (by omega)
      · skip
        refine n_iload_n c_67_4 rfl ?_
        refine n_aload_n c_67_5 rfl ?_
        refine n_getV (bi := 6) c_67_6 sc_38.n rfl rfl rfl (t_38_6 hS) ?_
        intro z49 ez49 f50
        refine n_if2_ge c_67_9 (by omega) (by omega) ?_ ?_
        · intro h51
          refine n_aload_n c_67_153 rfl ?_
          refine n_getR c_67_154 sc_38.n rfl rfl rfl r_38_4 ?_
          refine n_aload_n c_67_157 rfl ?_
          refine n_getV (bi := 6) c_67_158 sc_38.n rfl rfl rfl (t_38_6 hS) ?_
          intro z52 ez52 f53
          refine n_iload_n c_67_161 rfl ?_
          refine n_iastoreV hS c_67_162 sc_43.n rfl (by omega) (w_43 (by omega) (by omega)) ?_
          intro M54 eM54 hS54
          have g54_0 : M54 38 6 = M 38 6 := by rw [eM54]; exact nu_a (by omega)
          have g54_1 : M54 43 z52 = x1 := by rw [eM54]; exact nu_s _ _ _ _
          exact n_rV c_67_163 rfl hS54
        · intro h55
          refine n_aload_n c_67_12 rfl ?_
          refine n_getR c_67_13 sc_38.n rfl rfl rfl r_38_4 ?_
          refine n_iload_n c_67_16 rfl ?_
          refine n_iload_n c_67_17 rfl ?_
          refine n_iastoreV hS c_67_18 sc_43.n rfl (by omega) (w_43 (by omega) (by omega)) ?_
          intro M56 eM56 hS56
          have g56_0 : M56 38 6 = M 38 6 := by rw [eM56]; exact nu_a (by omega)
          have g56_1 : M56 43 6 = x1 := by rw [eM56]; exact nu_s _ _ _ _
          refine n_iconst c_67_19 ?_
          refine n_istore_n (L2 := [some (2, 38), some (0, x1), some (0, 6), some (0, 0), none, none, none, none]) c_67_20 rfl rfl ?_
          refine n_fg (le_s (le_s (le_s (le_s (le_n (le_n (le_n (le_n le_0)))))))) ?_
          exact ih.2.1 _ _ _ M56 hS56 (by omega) (by omega) (by omega) (by omega) (by omega)
      · skip
        refine n_iload_n c_67_4 rfl ?_
        refine n_aload_n c_67_5 rfl ?_
        refine n_getV (bi := 6) c_67_6 sc_38.n rfl rfl rfl (t_38_6 hS) ?_
        intro z57 ez57 f58
        refine n_if2_ge c_67_9 (by omega) (by omega) ?_ ?_
        · intro h59
          refine n_aload_n c_67_153 rfl ?_
          refine n_getR c_67_154 sc_38.n rfl rfl rfl r_38_4 ?_
          refine n_aload_n c_67_157 rfl ?_
          refine n_getV (bi := 6) c_67_158 sc_38.n rfl rfl rfl (t_38_6 hS) ?_
          intro z60 ez60 f61
          refine n_iload_n c_67_161 rfl ?_
          refine n_iastoreV hS c_67_162 sc_43.n rfl (by omega) (w_43 (by omega) (by omega)) ?_
          intro M62 eM62 hS62
          have g62_0 : M62 38 6 = M 38 6 := by rw [eM62]; exact nu_a (by omega)
          have g62_1 : M62 43 z60 = x1 := by rw [eM62]; exact nu_s _ _ _ _
          exact n_rV c_67_163 rfl hS62
        · intro h63
          refine n_aload_n c_67_12 rfl ?_
          refine n_getR c_67_13 sc_38.n rfl rfl rfl r_38_4 ?_
          refine n_iload_n c_67_16 rfl ?_
          refine n_iload_n c_67_17 rfl ?_
          refine n_iastoreV hS c_67_18 sc_43.n rfl (by omega) (w_43 (by omega) (by omega)) ?_
          intro M64 eM64 hS64
          have g64_0 : M64 38 6 = M 38 6 := by rw [eM64]; exact nu_a (by omega)
          have g64_1 : M64 43 7 = x1 := by rw [eM64]; exact nu_s _ _ _ _
          refine n_iconst c_67_19 ?_
          refine n_istore_n (L2 := [some (2, 38), some (0, x1), some (0, 7), some (0, 0), none, none, none, none]) c_67_20 rfl rfl ?_
          refine n_fg (le_s (le_s (le_s (le_s (le_n (le_n (le_n (le_n le_0)))))))) ?_
          exact ih.2.1 _ _ _ M64 hS64 (by omega) (by omega) (by omega) (by omega) (by omega)
      · skip
        refine n_iload_n c_67_4 rfl ?_
        refine n_aload_n c_67_5 rfl ?_
        refine n_getV (bi := 6) c_67_6 sc_38.n rfl rfl rfl (t_38_6 hS) ?_
        intro z65 ez65 f66
        refine n_if2_ge c_67_9 (by omega) (by omega) ?_ ?_
        · intro h67
          refine n_aload_n c_67_153 rfl ?_
          refine n_getR c_67_154 sc_38.n rfl rfl rfl r_38_4 ?_
          refine n_aload_n c_67_157 rfl ?_
          refine n_getV (bi := 6) c_67_158 sc_38.n rfl rfl rfl (t_38_6 hS) ?_
          intro z68 ez68 f69
          refine n_iload_n c_67_161 rfl ?_
          refine n_iastoreV hS c_67_162 sc_43.n rfl (by omega) (w_43 (by omega) (by omega)) ?_
          intro M70 eM70 hS70
          have g70_0 : M70 38 6 = M 38 6 := by rw [eM70]; exact nu_a (by omega)
          have g70_1 : M70 43 z68 = x1 := by rw [eM70]; exact nu_s _ _ _ _
          exact n_rV c_67_163 rfl hS70
        · intro h71
          refine n_aload_n c_67_12 rfl ?_
          refine n_getR c_67_13 sc_38.n rfl rfl rfl r_38_4 ?_
          refine n_iload_n c_67_16 rfl ?_
          refine n_iload_n c_67_17 rfl ?_
          refine n_iastoreV hS c_67_18 sc_43.n rfl (by omega) (w_43 (by omega) (by omega)) ?_
          intro M72 eM72 hS72
          have g72_0 : M72 38 6 = M 38 6 := by rw [eM72]; exact nu_a (by omega)
          have g72_1 : M72 43 8 = x1 := by rw [eM72]; exact nu_s _ _ _ _
          refine n_iconst c_67_19 ?_
          refine n_istore_n (L2 := [some (2, 38), some (0, x1), some (0, 8), some (0, 0), none, none, none, none]) c_67_20 rfl rfl ?_
          refine n_fg (le_s (le_s (le_s (le_s (le_n (le_n (le_n (le_n le_0)))))))) ?_
          exact ih.2.1 _ _ _ M72 hS72 (by omega) (by omega) (by omega) (by omega) (by omega)
      · skip
        refine n_iload_n c_67_4 rfl ?_
        refine n_aload_n c_67_5 rfl ?_
        refine n_getV (bi := 6) c_67_6 sc_38.n rfl rfl rfl (t_38_6 hS) ?_
        intro z73 ez73 f74
        refine n_if2_ge c_67_9 (by omega) (by omega) ?_ ?_
        · intro h75
          refine n_aload_n c_67_153 rfl ?_
          refine n_getR c_67_154 sc_38.n rfl rfl rfl r_38_4 ?_
          refine n_aload_n c_67_157 rfl ?_
          refine n_getV (bi := 6) c_67_158 sc_38.n rfl rfl rfl (t_38_6 hS) ?_
          intro z76 ez76 f77
          refine n_iload_n c_67_161 rfl ?_
          refine n_iastoreV hS c_67_162 sc_43.n rfl (by omega) (w_43 (by omega) (by omega)) ?_
          intro M78 eM78 hS78
          have g78_0 : M78 38 6 = M 38 6 := by rw [eM78]; exact nu_a (by omega)
          have g78_1 : M78 43 z76 = x1 := by rw [eM78]; exact nu_s _ _ _ _
          exact n_rV c_67_163 rfl hS78
        · intro h79
          exfalso; omega
    · intro x1 x2 x3 M hS k1 k2 k3 v0 hnn
      rcases (show x2 = 0 ∨ x2 = 1 ∨ x2 = 2 ∨ x2 = 3 ∨ x2 = 4 ∨ x2 = 5 ∨ x2 = 6 ∨ x2 = 7 ∨ x2 = 8 by omega) with rfl | rfl | rfl | rfl | rfl | rfl | rfl | rfl | rfl
      · skip
        refine n_iload_n c_67_21 rfl ?_
        refine n_iload_n c_67_22 rfl ?_
        refine n_if2_gt c_67_23 (by omega) (by omega) ?_ ?_
        · intro h1
          refine n_iinc (L2 := [some (2, 38), some (0, x1), some (0, (0 + 1)), some (0, x3), none, none, none, none]) c_67_147 rfl rfl rfl ?_
          refine n_goto c_67_150 ?_
          refine n_fg (le_s (le_s (le_s (le_n (le_n (le_n (le_n (le_n le_0)))))))) ?_
          exact ih.1 _ _ M hS (by omega) (by omega) (by omega) (by omega)
        · intro h2
          refine n_iconst c_67_26 ?_
          refine n_istore (L2 := [some (2, 38), some (0, x1), some (0, 0), some (0, x3), some (0, 0), none, none, none]) c_67_27 rfl rfl ?_
          refine n_fg (le_s (le_s (le_s (le_s (le_s (le_n (le_n (le_n le_0)))))))) ?_
          exact ih.2.2.1 _ _ _ _ M hS (by omega) (by omega) (by omega) (by omega) (by omega) (by omega) (by omega) (by omega)
      · skip
        refine n_iload_n c_67_21 rfl ?_
        refine n_iload_n c_67_22 rfl ?_
        refine n_if2_gt c_67_23 (by omega) (by omega) ?_ ?_
        · intro h3
          refine n_iinc (L2 := [some (2, 38), some (0, x1), some (0, (1 + 1)), some (0, x3), none, none, none, none]) c_67_147 rfl rfl rfl ?_
          refine n_goto c_67_150 ?_
          refine n_fg (le_s (le_s (le_s (le_n (le_n (le_n (le_n (le_n le_0)))))))) ?_
          exact ih.1 _ _ M hS (by omega) (by omega) (by omega) (by omega)
        · intro h4
          refine n_iconst c_67_26 ?_
          refine n_istore (L2 := [some (2, 38), some (0, x1), some (0, 1), some (0, x3), some (0, 0), none, none, none]) c_67_27 rfl rfl ?_
          refine n_fg (le_s (le_s (le_s (le_s (le_s (le_n (le_n (le_n le_0)))))))) ?_
          exact ih.2.2.1 _ _ _ _ M hS (by omega) (by omega) (by omega) (by omega) (by omega) (by omega) (by omega) (by omega)
      · skip
        refine n_iload_n c_67_21 rfl ?_
        refine n_iload_n c_67_22 rfl ?_
        refine n_if2_gt c_67_23 (by omega) (by omega) ?_ ?_
        · intro h5
          refine n_iinc (L2 := [some (2, 38), some (0, x1), some (0, (2 + 1)), some (0, x3), none, none, none, none]) c_67_147 rfl rfl rfl ?_
          refine n_goto c_67_150 ?_
          refine n_fg (le_s (le_s (le_s (le_n (le_n (le_n (le_n (le_n le_0)))))))) ?_
          exact ih.1 _ _ M hS (by omega) (by omega) (by omega) (by omega)
        · intro h6
          refine n_iconst c_67_26 ?_
          refine n_istore (L2 := [some (2, 38), some (0, x1), some (0, 2), some (0, x3), some (0, 0), none, none, none]) c_67_27 rfl rfl ?_
          refine n_fg (le_s (le_s (le_s (le_s (le_s (le_n (le_n (le_n le_0)))))))) ?_
          exact ih.2.2.1 _ _ _ _ M hS (by omega) (by omega) (by omega) (by omega) (by omega) (by omega) (by omega) (by omega)
      · skip
        refine n_iload_n c_67_21 rfl ?_
        refine n_iload_n c_67_22 rfl ?_
        refine n_if2_gt c_67_23 (by omega) (by omega) ?_ ?_
        · intro h7
          refine n_iinc (L2 := [some (2, 38), some (0, x1), some (0, (3 + 1)), some (0, x3), none, none, none, none]) c_67_147 rfl rfl rfl ?_
          refine n_goto c_67_150 ?_
          refine n_fg (le_s (le_s (le_s (le_n (le_n (le_n (le_n (le_n le_0)))))))) ?_
          exact ih.1 _ _ M hS (by omega) (by omega) (by omega) (by omega)
        · intro h8
          refine n_iconst c_67_26 ?_
          refine n_istore (L2 := [some (2, 38), some (0, x1), some (0, 3), some (0, x3), some (0, 0), none, none, none]) c_67_27 rfl rfl ?_
          refine n_fg (le_s (le_s (le_s (le_s (le_s (le_n (le_n (le_n le_0)))))))) ?_
          exact ih.2.2.1 _ _ _ _ M hS (by omega) (by omega) (by omega) (by omega) (by omega) (by omega) (by omega) (by omega)
      · skip
        refine n_iload_n c_67_21 rfl ?_
        refine n_iload_n c_67_22 rfl ?_
        refine n_if2_gt c_67_23 (by omega) (by omega) ?_ ?_
        · intro h9
          refine n_iinc (L2 := [some (2, 38), some (0, x1), some (0, (4 + 1)), some (0, x3), none, none, none, none]) c_67_147 rfl rfl rfl ?_
          refine n_goto c_67_150 ?_
          refine n_fg (le_s (le_s (le_s (le_n (le_n (le_n (le_n (le_n le_0)))))))) ?_
          exact ih.1 _ _ M hS (by omega) (by omega) (by omega) (by omega)
        · intro h10
          refine n_iconst c_67_26 ?_
          refine n_istore (L2 := [some (2, 38), some (0, x1), some (0, 4), some (0, x3), some (0, 0), none, none, none]) c_67_27 rfl rfl ?_
          refine n_fg (le_s (le_s (le_s (le_s (le_s (le_n (le_n (le_n le_0)))))))) ?_
          exact ih.2.2.1 _ _ _ _ M hS (by omega) (by omega) (by omega) (by omega) (by omega) (by omega) (by omega) (by omega)
      · skip
        refine n_iload_n c_67_21 rfl ?_
        refine n_iload_n c_67_22 rfl ?_
        refine n_if2_gt c_67_23 (by omega) (by omega) ?_ ?_
        · intro h11
          refine n_iinc (L2 := [some (2, 38), some (0, x1), some (0, (5 + 1)), some (0, x3), none, none, none, none]) c_67_147 rfl rfl rfl ?_
          refine n_goto c_67_150 ?_
          refine n_fg (le_s (le_s (le_s (le_n (le_n (le_n (le_n (le_n le_0)))))))) ?_
          exact ih.1 _ _ M hS (by omega) (by omega) (by omega) (by omega)
        · intro h12
          refine n_iconst c_67_26 ?_
          refine n_istore (L2 := [some (2, 38), some (0, x1), some (0, 5), some (0, x3), some (0, 0), none, none, none]) c_67_27 rfl rfl ?_
          refine n_fg (le_s (le_s (le_s (le_s (le_s (le_n (le_n (le_n le_0)))))))) ?_
          exact ih.2.2.1 _ _ _ _ M hS (by omega) (by omega) (by omega) (by omega) (by omega) (by omega) (by omega) (by omega)
      · skip
        refine n_iload_n c_67_21 rfl ?_
        refine n_iload_n c_67_22 rfl ?_
        refine n_if2_gt c_67_23 (by omega) (by omega) ?_ ?_
        · intro h13
          refine n_iinc (L2 := [some (2, 38), some (0, x1), some (0, (6 + 1)), some (0, x3), none, none, none, none]) c_67_147 rfl rfl rfl ?_
          refine n_goto c_67_150 ?_
          refine n_fg (le_s (le_s (le_s (le_n (le_n (le_n (le_n (le_n le_0)))))))) ?_
          exact ih.1 _ _ M hS (by omega) (by omega) (by omega) (by omega)
        · intro h14
          refine n_iconst c_67_26 ?_
          refine n_istore (L2 := [some (2, 38), some (0, x1), some (0, 6), some (0, x3), some (0, 0), none, none, none]) c_67_27 rfl rfl ?_
          refine n_fg (le_s (le_s (le_s (le_s (le_s (le_n (le_n (le_n le_0)))))))) ?_
          exact ih.2.2.1 _ _ _ _ M hS (by omega) (by omega) (by omega) (by omega) (by omega) (by omega) (by omega) (by omega)
      · skip
        refine n_iload_n c_67_21 rfl ?_
        refine n_iload_n c_67_22 rfl ?_
        refine n_if2_gt c_67_23 (by omega) (by omega) ?_ ?_
        · intro h15
          refine n_iinc (L2 := [some (2, 38), some (0, x1), some (0, (7 + 1)), some (0, x3), none, none, none, none]) c_67_147 rfl rfl rfl ?_
          refine n_goto c_67_150 ?_
          refine n_fg (le_s (le_s (le_s (le_n (le_n (le_n (le_n (le_n le_0)))))))) ?_
          exact ih.1 _ _ M hS (by omega) (by omega) (by omega) (by omega)
        · intro h16
          refine n_iconst c_67_26 ?_
          refine n_istore (L2 := [some (2, 38), some (0, x1), some (0, 7), some (0, x3), some (0, 0), none, none, none]) c_67_27 rfl rfl ?_
          refine n_fg (le_s (le_s (le_s (le_s (le_s (le_n (le_n (le_n le_0)))))))) ?_
          exact ih.2.2.1 _ _ _ _ M hS (by omega) (by omega) (by omega) (by omega) (by omega) (by omega) (by omega) (by omega)
      · skip
        refine n_iload_n c_67_21 rfl ?_
        refine n_iload_n c_67_22 rfl ?_
        refine n_if2_gt c_67_23 (by omega) (by omega) ?_ ?_
        · intro h17
          refine n_iinc (L2 := [some (2, 38), some (0, x1), some (0, (8 + 1)), some (0, x3), none, none, none, none]) c_67_147 rfl rfl rfl ?_
          refine n_goto c_67_150 ?_
          refine n_fg (le_s (le_s (le_s (le_n (le_n (le_n (le_n (le_n le_0)))))))) ?_
          exact ih.1 _ _ M hS (by omega) (by omega) (by omega) (by omega)
        · intro h18
          refine n_iconst c_67_26 ?_
          refine n_istore (L2 := [some (2, 38), some (0, x1), some (0, 8), some (0, x3), some (0, 0), none, none, none]) c_67_27 rfl rfl ?_
          refine n_fg (le_s (le_s (le_s (le_s (le_s (le_n (le_n (le_n le_0)))))))) ?_
          exact ih.2.2.1 _ _ _ _ M hS (by omega) (by omega) (by omega) (by omega) (by omega) (by omega) (by omega) (by omega)
    · intro x1 x2 x3 x4 M hS k1 k2 k3 k4 v0 v1 v2 hnn
      rcases (show x2 = 0 ∨ x2 = 1 ∨ x2 = 2 ∨ x2 = 3 ∨ x2 = 4 ∨ x2 = 5 ∨ x2 = 6 ∨ x2 = 7 ∨ x2 = 8 by omega) with rfl | rfl | rfl | rfl | rfl | rfl | rfl | rfl | rfl
      · skip
        refine n_iload c_67_29 rfl ?_
        refine n_iload_n c_67_31 rfl ?_
        refine n_if2_gt c_67_32 (by omega) (by omega) ?_ ?_
        · intro h1
          refine n_iinc (L2 := [some (2, 38), some (0, x1), some (0, 0), some (0, (x3 + 1)), some (0, x4), none, none, none]) c_67_141 rfl rfl rfl ?_
          refine n_goto c_67_144 ?_
          refine n_fg (le_s (le_s (le_s (le_s (le_n (le_n (le_n (le_n le_0)))))))) ?_
          exact ih.2.1 _ _ _ M hS (by omega) (by omega) (by omega) (by omega) (by omega)
        · intro h2
          refine n_iload_n c_67_35 rfl ?_
          refine n_iload_n c_67_36 rfl ?_
          refine n_if2_eq c_67_37 (by omega) (by omega) ?_ ?_
          · intro h3
            refine n_iconst c_67_46 ?_
            refine n_goto c_67_47 ?_
            refine n_istore (L2 := [some (2, 38), some (0, x1), some (0, 0), some (0, x3), some (0, x4), some (0, 1), none, none]) c_67_51 rfl rfl ?_
            refine n_iload c_67_53 rfl ?_
            refine n_if0_eq c_67_55 (by omega) ?_ ?_
            · intro h4
              exfalso; omega
            · intro h5
              refine n_iconst c_67_58 ?_
              refine n_goto c_67_59 ?_
              refine n_istore (L2 := [some (2, 38), some (0, x1), some (0, 0), some (0, x3), some (0, x4), some (0, 1), some (0, 0), none]) c_67_63 rfl rfl ?_
              refine n_fg (le_s (le_s (le_s (le_s (le_s (le_n (le_s (le_n le_0)))))))) ?_
              exact ih.2.2.2.1 _ _ _ _ _ M hS (by omega) (by omega) (by omega) (by omega) (by omega) (by omega) (by omega) (by omega) (by omega) (by omega)
          · intro h6
            refine n_iload c_67_40 rfl ?_
            refine n_iload_n c_67_42 rfl ?_
            refine n_if2_ne c_67_43 (by omega) (by omega) ?_ ?_
            · intro h7
              exfalso; omega
            · intro h8
              refine n_iconst c_67_46 ?_
              refine n_goto c_67_47 ?_
              refine n_istore (L2 := [some (2, 38), some (0, x1), some (0, 0), some (0, x3), some (0, x4), some (0, 1), none, none]) c_67_51 rfl rfl ?_
              refine n_iload c_67_53 rfl ?_
              refine n_if0_eq c_67_55 (by omega) ?_ ?_
              · intro h9
                exfalso; omega
              · intro h10
                refine n_iconst c_67_58 ?_
                refine n_goto c_67_59 ?_
                refine n_istore (L2 := [some (2, 38), some (0, x1), some (0, 0), some (0, x3), some (0, x4), some (0, 1), some (0, 0), none]) c_67_63 rfl rfl ?_
                refine n_fg (le_s (le_s (le_s (le_s (le_s (le_n (le_s (le_n le_0)))))))) ?_
                exact ih.2.2.2.1 _ _ _ _ _ M hS (by omega) (by omega) (by omega) (by omega) (by omega) (by omega) (by omega) (by omega) (by omega) (by omega)
      · skip
        refine n_iload c_67_29 rfl ?_
        refine n_iload_n c_67_31 rfl ?_
        refine n_if2_gt c_67_32 (by omega) (by omega) ?_ ?_
        · intro h11
          refine n_iinc (L2 := [some (2, 38), some (0, x1), some (0, 1), some (0, (x3 + 1)), some (0, x4), none, none, none]) c_67_141 rfl rfl rfl ?_
          refine n_goto c_67_144 ?_
          refine n_fg (le_s (le_s (le_s (le_s (le_n (le_n (le_n (le_n le_0)))))))) ?_
          exact ih.2.1 _ _ _ M hS (by omega) (by omega) (by omega) (by omega) (by omega)
        · intro h12
          refine n_iload_n c_67_35 rfl ?_
          refine n_iload_n c_67_36 rfl ?_
          refine n_if2_eq c_67_37 (by omega) (by omega) ?_ ?_
          · intro h13
            refine n_iconst c_67_46 ?_
            refine n_goto c_67_47 ?_
            refine n_istore (L2 := [some (2, 38), some (0, x1), some (0, 1), some (0, x3), some (0, x4), some (0, 1), none, none]) c_67_51 rfl rfl ?_
            refine n_iload c_67_53 rfl ?_
            refine n_if0_eq c_67_55 (by omega) ?_ ?_
            · intro h14
              exfalso; omega
            · intro h15
              refine n_iconst c_67_58 ?_
              refine n_goto c_67_59 ?_
              refine n_istore (L2 := [some (2, 38), some (0, x1), some (0, 1), some (0, x3), some (0, x4), some (0, 1), some (0, 0), none]) c_67_63 rfl rfl ?_
              refine n_fg (le_s (le_s (le_s (le_s (le_s (le_n (le_s (le_n le_0)))))))) ?_
              exact ih.2.2.2.1 _ _ _ _ _ M hS (by omega) (by omega) (by omega) (by omega) (by omega) (by omega) (by omega) (by omega) (by omega) (by omega)
          · intro h16
            refine n_iload c_67_40 rfl ?_
            refine n_iload_n c_67_42 rfl ?_
            refine n_if2_ne c_67_43 (by omega) (by omega) ?_ ?_
            · intro h17
              refine n_iconst c_67_50 ?_
              refine n_istore (L2 := [some (2, 38), some (0, x1), some (0, 1), some (0, x3), some (0, x4), some (0, 0), none, none]) c_67_51 rfl rfl ?_
              refine n_iload c_67_53 rfl ?_
              refine n_if0_eq c_67_55 (by omega) ?_ ?_
              · intro h18
                refine n_iload_n c_67_62 rfl ?_
                refine n_istore (L2 := [some (2, 38), some (0, x1), some (0, 1), some (0, x3), some (0, x4), some (0, 0), some (0, 1), none]) c_67_63 rfl rfl ?_
                refine n_fg (le_s (le_s (le_s (le_s (le_s (le_n (le_s (le_n le_0)))))))) ?_
                exact ih.2.2.2.1 _ _ _ _ _ M hS (by omega) (by omega) (by omega) (by omega) (by omega) (by omega) (by omega) (by omega) (by omega) (by omega)
              · intro h19
                exfalso; omega
            · intro h20
              refine n_iconst c_67_46 ?_
              refine n_goto c_67_47 ?_
              refine n_istore (L2 := [some (2, 38), some (0, x1), some (0, 1), some (0, x3), some (0, x4), some (0, 1), none, none]) c_67_51 rfl rfl ?_
              refine n_iload c_67_53 rfl ?_
              refine n_if0_eq c_67_55 (by omega) ?_ ?_
              · intro h21
                exfalso; omega
              · intro h22
                refine n_iconst c_67_58 ?_
                refine n_goto c_67_59 ?_
                refine n_istore (L2 := [some (2, 38), some (0, x1), some (0, 1), some (0, x3), some (0, x4), some (0, 1), some (0, 0), none]) c_67_63 rfl rfl ?_
                refine n_fg (le_s (le_s (le_s (le_s (le_s (le_n (le_s (le_n le_0)))))))) ?_
                exact ih.2.2.2.1 _ _ _ _ _ M hS (by omega) (by omega) (by omega) (by omega) (by omega) (by omega) (by omega) (by omega) (by omega) (by omega)
      · skip
        refine n_iload c_67_29 rfl ?_
        refine n_iload_n c_67_31 rfl ?_
        refine n_if2_gt c_67_32 (by omega) (by omega) ?_ ?_
        · intro h23
          refine n_iinc (L2 := [some (2, 38), some (0, x1), some (0, 2), some (0, (x3 + 1)), some (0, x4), none, none, none]) c_67_141 rfl rfl rfl ?_
          refine n_goto c_67_144 ?_
          refine n_fg (le_s (le_s (le_s (le_s (le_n (le_n (le_n (le_n le_0)))))))) ?_
          exact ih.2.1 _ _ _ M hS (by omega) (by omega) (by omega) (by omega) (by omega)
        · intro h24
          refine n_iload_n c_67_35 rfl ?_
          refine n_iload_n c_67_36 rfl ?_
          refine n_if2_eq c_67_37 (by omega) (by omega) ?_ ?_
          · intro h25
            refine n_iconst c_67_46 ?_
            refine n_goto c_67_47 ?_
            refine n_istore (L2 := [some (2, 38), some (0, x1), some (0, 2), some (0, x3), some (0, x4), some (0, 1), none, none]) c_67_51 rfl rfl ?_
            refine n_iload c_67_53 rfl ?_
            refine n_if0_eq c_67_55 (by omega) ?_ ?_
            · intro h26
              exfalso; omega
            · intro h27
              refine n_iconst c_67_58 ?_
              refine n_goto c_67_59 ?_
              refine n_istore (L2 := [some (2, 38), some (0, x1), some (0, 2), some (0, x3), some (0, x4), some (0, 1), some (0, 0), none]) c_67_63 rfl rfl ?_
              refine n_fg (le_s (le_s (le_s (le_s (le_s (le_n (le_s (le_n le_0)))))))) ?_
              exact ih.2.2.2.1 _ _ _ _ _ M hS (by omega) (by omega) (by omega) (by omega) (by omega) (by omega) (by omega) (by omega) (by omega) (by omega)
          · intro h28
            refine n_iload c_67_40 rfl ?_
            refine n_iload_n c_67_42 rfl ?_
            refine n_if2_ne c_67_43 (by omega) (by omega) ?_ ?_
            · intro h29
              refine n_iconst c_67_50 ?_
              refine n_istore (L2 := [some (2, 38), some (0, x1), some (0, 2), some (0, x3), some (0, x4), some (0, 0), none, none]) c_67_51 rfl rfl ?_
              refine n_iload c_67_53 rfl ?_
              refine n_if0_eq c_67_55 (by omega) ?_ ?_
              · intro h30
                refine n_iload_n c_67_62 rfl ?_
                refine n_istore (L2 := [some (2, 38), some (0, x1), some (0, 2), some (0, x3), some (0, x4), some (0, 0), some (0, 2), none]) c_67_63 rfl rfl ?_
                refine n_fg (le_s (le_s (le_s (le_s (le_s (le_n (le_s (le_n le_0)))))))) ?_
                exact ih.2.2.2.1 _ _ _ _ _ M hS (by omega) (by omega) (by omega) (by omega) (by omega) (by omega) (by omega) (by omega) (by omega) (by omega)
              · intro h31
                exfalso; omega
            · intro h32
              refine n_iconst c_67_46 ?_
              refine n_goto c_67_47 ?_
              refine n_istore (L2 := [some (2, 38), some (0, x1), some (0, 2), some (0, x3), some (0, x4), some (0, 1), none, none]) c_67_51 rfl rfl ?_
              refine n_iload c_67_53 rfl ?_
              refine n_if0_eq c_67_55 (by omega) ?_ ?_
              · intro h33
                exfalso; omega
              · intro h34
                refine n_iconst c_67_58 ?_
                refine n_goto c_67_59 ?_
                refine n_istore (L2 := [some (2, 38), some (0, x1), some (0, 2), some (0, x3), some (0, x4), some (0, 1), some (0, 0), none]) c_67_63 rfl rfl ?_
                refine n_fg (le_s (le_s (le_s (le_s (le_s (le_n (le_s (le_n le_0)))))))) ?_
                exact ih.2.2.2.1 _ _ _ _ _ M hS (by omega) (by omega) (by omega) (by omega) (by omega) (by omega) (by omega) (by omega) (by omega) (by omega)
      · skip
        refine n_iload c_67_29 rfl ?_
        refine n_iload_n c_67_31 rfl ?_
        refine n_if2_gt c_67_32 (by omega) (by omega) ?_ ?_
        · intro h35
          refine n_iinc (L2 := [some (2, 38), some (0, x1), some (0, 3), some (0, (x3 + 1)), some (0, x4), none, none, none]) c_67_141 rfl rfl rfl ?_
          refine n_goto c_67_144 ?_
          refine n_fg (le_s (le_s (le_s (le_s (le_n (le_n (le_n (le_n le_0)))))))) ?_
          exact ih.2.1 _ _ _ M hS (by omega) (by omega) (by omega) (by omega) (by omega)
        · intro h36
          refine n_iload_n c_67_35 rfl ?_
          refine n_iload_n c_67_36 rfl ?_
          refine n_if2_eq c_67_37 (by omega) (by omega) ?_ ?_
          · intro h37
            refine n_iconst c_67_46 ?_
            refine n_goto c_67_47 ?_
            refine n_istore (L2 := [some (2, 38), some (0, x1), some (0, 3), some (0, x3), some (0, x4), some (0, 1), none, none]) c_67_51 rfl rfl ?_
            refine n_iload c_67_53 rfl ?_
            refine n_if0_eq c_67_55 (by omega) ?_ ?_
            · intro h38
              exfalso; omega
            · intro h39
              refine n_iconst c_67_58 ?_
              refine n_goto c_67_59 ?_
              refine n_istore (L2 := [some (2, 38), some (0, x1), some (0, 3), some (0, x3), some (0, x4), some (0, 1), some (0, 0), none]) c_67_63 rfl rfl ?_
              refine n_fg (le_s (le_s (le_s (le_s (le_s (le_n (le_s (le_n le_0)))))))) ?_
              exact ih.2.2.2.1 _ _ _ _ _ M hS (by omega) (by omega) (by omega) (by omega) (by omega) (by omega) (by omega) (by omega) (by omega) (by omega)
          · intro h40
            refine n_iload c_67_40 rfl ?_
            refine n_iload_n c_67_42 rfl ?_
            refine n_if2_ne c_67_43 (by omega) (by omega) ?_ ?_
            · intro h41
              refine n_iconst c_67_50 ?_
              refine n_istore (L2 := [some (2, 38), some (0, x1), some (0, 3), some (0, x3), some (0, x4), some (0, 0), none, none]) c_67_51 rfl rfl ?_
              refine n_iload c_67_53 rfl ?_
              refine n_if0_eq c_67_55 (by omega) ?_ ?_
              · intro h42
                refine n_iload_n c_67_62 rfl ?_
                refine n_istore (L2 := [some (2, 38), some (0, x1), some (0, 3), some (0, x3), some (0, x4), some (0, 0), some (0, 3), none]) c_67_63 rfl rfl ?_
                refine n_fg (le_s (le_s (le_s (le_s (le_s (le_n (le_s (le_n le_0)))))))) ?_
                exact ih.2.2.2.1 _ _ _ _ _ M hS (by omega) (by omega) (by omega) (by omega) (by omega) (by omega) (by omega) (by omega) (by omega) (by omega)
              · intro h43
                exfalso; omega
            · intro h44
              refine n_iconst c_67_46 ?_
              refine n_goto c_67_47 ?_
              refine n_istore (L2 := [some (2, 38), some (0, x1), some (0, 3), some (0, x3), some (0, x4), some (0, 1), none, none]) c_67_51 rfl rfl ?_
              refine n_iload c_67_53 rfl ?_
              refine n_if0_eq c_67_55 (by omega) ?_ ?_
              · intro h45
                exfalso; omega
              · intro h46
                refine n_iconst c_67_58 ?_
                refine n_goto c_67_59 ?_
                refine n_istore (L2 := [some (2, 38), some (0, x1), some (0, 3), some (0, x3), some (0, x4), some (0, 1), some (0, 0), none]) c_67_63 rfl rfl ?_
                refine n_fg (le_s (le_s (le_s (le_s (le_s (le_n (le_s (le_n le_0)))))))) ?_
                exact ih.2.2.2.1 _ _ _ _ _ M hS (by omega) (by omega) (by omega) (by omega) (by omega) (by omega) (by omega) (by omega) (by omega) (by omega)
      · skip
        refine n_iload c_67_29 rfl ?_
        refine n_iload_n c_67_31 rfl ?_
        refine n_if2_gt c_67_32 (by omega) (by omega) ?_ ?_
        · intro h47
          refine n_iinc (L2 := [some (2, 38), some (0, x1), some (0, 4), some (0, (x3 + 1)), some (0, x4), none, none, none]) c_67_141 rfl rfl rfl ?_
          refine n_goto c_67_144 ?_
          refine n_fg (le_s (le_s (le_s (le_s (le_n (le_n (le_n (le_n le_0)))))))) ?_
          exact ih.2.1 _ _ _ M hS (by omega) (by omega) (by omega) (by omega) (by omega)
        · intro h48
          refine n_iload_n c_67_35 rfl ?_
          refine n_iload_n c_67_36 rfl ?_
          refine n_if2_eq c_67_37 (by omega) (by omega) ?_ ?_
          · intro h49
            refine n_iconst c_67_46 ?_
            refine n_goto c_67_47 ?_
            refine n_istore (L2 := [some (2, 38), some (0, x1), some (0, 4), some (0, x3), some (0, x4), some (0, 1), none, none]) c_67_51 rfl rfl ?_
            refine n_iload c_67_53 rfl ?_
            refine n_if0_eq c_67_55 (by omega) ?_ ?_
            · intro h50
              exfalso; omega
            · intro h51
              refine n_iconst c_67_58 ?_
              refine n_goto c_67_59 ?_
              refine n_istore (L2 := [some (2, 38), some (0, x1), some (0, 4), some (0, x3), some (0, x4), some (0, 1), some (0, 0), none]) c_67_63 rfl rfl ?_
              refine n_fg (le_s (le_s (le_s (le_s (le_s (le_n (le_s (le_n le_0)))))))) ?_
              exact ih.2.2.2.1 _ _ _ _ _ M hS (by omega) (by omega) (by omega) (by omega) (by omega) (by omega) (by omega) (by omega) (by omega) (by omega)
          · intro h52
            refine n_iload c_67_40 rfl ?_
            refine n_iload_n c_67_42 rfl ?_
            refine n_if2_ne c_67_43 (by omega) (by omega) ?_ ?_
            · intro h53
              refine n_iconst c_67_50 ?_
              refine n_istore (L2 := [some (2, 38), some (0, x1), some (0, 4), some (0, x3), some (0, x4), some (0, 0), none, none]) c_67_51 rfl rfl ?_
              refine n_iload c_67_53 rfl ?_
              refine n_if0_eq c_67_55 (by omega) ?_ ?_
              · intro h54
                refine n_iload_n c_67_62 rfl ?_
                refine n_istore (L2 := [some (2, 38), some (0, x1), some (0, 4), some (0, x3), some (0, x4), some (0, 0), some (0, 4), none]) c_67_63 rfl rfl ?_
                refine n_fg (le_s (le_s (le_s (le_s (le_s (le_n (le_s (le_n le_0)))))))) ?_
                exact ih.2.2.2.1 _ _ _ _ _ M hS (by omega) (by omega) (by omega) (by omega) (by omega) (by omega) (by omega) (by omega) (by omega) (by omega)
              · intro h55
                exfalso; omega
            · intro h56
              refine n_iconst c_67_46 ?_
              refine n_goto c_67_47 ?_
              refine n_istore (L2 := [some (2, 38), some (0, x1), some (0, 4), some (0, x3), some (0, x4), some (0, 1), none, none]) c_67_51 rfl rfl ?_
              refine n_iload c_67_53 rfl ?_
              refine n_if0_eq c_67_55 (by omega) ?_ ?_
              · intro h57
                exfalso; omega
              · intro h58
                refine n_iconst c_67_58 ?_
                refine n_goto c_67_59 ?_
                refine n_istore (L2 := [some (2, 38), some (0, x1), some (0, 4), some (0, x3), some (0, x4), some (0, 1), some (0, 0), none]) c_67_63 rfl rfl ?_
                refine n_fg (le_s (le_s (le_s (le_s (le_s (le_n (le_s (le_n le_0)))))))) ?_
                exact ih.2.2.2.1 _ _ _ _ _ M hS (by omega) (by omega) (by omega) (by omega) (by omega) (by omega) (by omega) (by omega) (by omega) (by omega)
      · skip
        refine n_iload c_67_29 rfl ?_
        refine n_iload_n c_67_31 rfl ?_
        refine n_if2_gt c_67_32 (by omega) (by omega) ?_ ?_
        · intro h59
          refine n_iinc (L2 := [some (2, 38), some (0, x1), some (0, 5), some (0, (x3 + 1)), some (0, x4), none, none, none]) c_67_141 rfl rfl rfl ?_
          refine n_goto c_67_144 ?_
          refine n_fg (le_s (le_s (le_s (le_s (le_n (le_n (le_n (le_n le_0)))))))) ?_
          exact ih.2.1 _ _ _ M hS (by omega) (by omega) (by omega) (by omega) (by omega)
        · intro h60
          refine n_iload_n c_67_35 rfl ?_
          refine n_iload_n c_67_36 rfl ?_
          refine n_if2_eq c_67_37 (by omega) (by omega) ?_ ?_
          · intro h61
            refine n_iconst c_67_46 ?_
            refine n_goto c_67_47 ?_
            refine n_istore (L2 := [some (2, 38), some (0, x1), some (0, 5), some (0, x3), some (0, x4), some (0, 1), none, none]) c_67_51 rfl rfl ?_
            refine n_iload c_67_53 rfl ?_
            refine n_if0_eq c_67_55 (by omega) ?_ ?_
            · intro h62
              exfalso; omega
            · intro h63
              refine n_iconst c_67_58 ?_
              refine n_goto c_67_59 ?_
              refine n_istore (L2 := [some (2, 38), some (0, x1), some (0, 5), some (0, x3), some (0, x4), some (0, 1), some (0, 0), none]) c_67_63 rfl rfl ?_
              refine n_fg (le_s (le_s (le_s (le_s (le_s (le_n (le_s (le_n le_0)))))))) ?_
              exact ih.2.2.2.1 _ _ _ _ _ M hS (by omega) (by omega) (by omega) (by omega) (by omega) (by omega) (by omega) (by omega) (by omega) (by omega)
          · intro h64
            refine n_iload c_67_40 rfl ?_
            refine n_iload_n c_67_42 rfl ?_
            refine n_if2_ne c_67_43 (by omega) (by omega) ?_ ?_
            · intro h65
              refine n_iconst c_67_50 ?_
              refine n_istore (L2 := [some (2, 38), some (0, x1), some (0, 5), some (0, x3), some (0, x4), some (0, 0), none, none]) c_67_51 rfl rfl ?_
              refine n_iload c_67_53 rfl ?_
              refine n_if0_eq c_67_55 (by omega) ?_ ?_
              · intro h66
                refine n_iload_n c_67_62 rfl ?_
                refine n_istore (L2 := [some (2, 38), some (0, x1), some (0, 5), some (0, x3), some (0, x4), some (0, 0), some (0, 5), none]) c_67_63 rfl rfl ?_
                refine n_fg (le_s (le_s (le_s (le_s (le_s (le_n (le_s (le_n le_0)))))))) ?_
                exact ih.2.2.2.1 _ _ _ _ _ M hS (by omega) (by omega) (by omega) (by omega) (by omega) (by omega) (by omega) (by omega) (by omega) (by omega)
              · intro h67
                exfalso; omega
            · intro h68
              refine n_iconst c_67_46 ?_
              refine n_goto c_67_47 ?_
              refine n_istore (L2 := [some (2, 38), some (0, x1), some (0, 5), some (0, x3), some (0, x4), some (0, 1), none, none]) c_67_51 rfl rfl ?_
              refine n_iload c_67_53 rfl ?_
              refine n_if0_eq c_67_55 (by omega) ?_ ?_
              · intro h69
                exfalso; omega
              · intro h70
                refine n_iconst c_67_58 ?_
                refine n_goto c_67_59 ?_
                refine n_istore (L2 := [some (2, 38), some (0, x1), some (0, 5), some (0, x3), some (0, x4), some (0, 1), some (0, 0), none]) c_67_63 rfl rfl ?_
                refine n_fg (le_s (le_s (le_s (le_s (le_s (le_n (le_s (le_n le_0)))))))) ?_
                exact ih.2.2.2.1 _ _ _ _ _ M hS (by omega) (by omega) (by omega) (by omega) (by omega) (by omega) (by omega) (by omega) (by omega) (by omega)
      · skip
        refine n_iload c_67_29 rfl ?_
        refine n_iload_n c_67_31 rfl ?_
        refine n_if2_gt c_67_32 (by omega) (by omega) ?_ ?_
        · intro h71
          refine n_iinc (L2 := [some (2, 38), some (0, x1), some (0, 6), some (0, (x3 + 1)), some (0, x4), none, none, none]) c_67_141 rfl rfl rfl ?_
          refine n_goto c_67_144 ?_
          refine n_fg (le_s (le_s (le_s (le_s (le_n (le_n (le_n (le_n le_0)))))))) ?_
          exact ih.2.1 _ _ _ M hS (by omega) (by omega) (by omega) (by omega) (by omega)
        · intro h72
          refine n_iload_n c_67_35 rfl ?_
          refine n_iload_n c_67_36 rfl ?_
          refine n_if2_eq c_67_37 (by omega) (by omega) ?_ ?_
          · intro h73
            refine n_iconst c_67_46 ?_
            refine n_goto c_67_47 ?_
            refine n_istore (L2 := [some (2, 38), some (0, x1), some (0, 6), some (0, x3), some (0, x4), some (0, 1), none, none]) c_67_51 rfl rfl ?_
            refine n_iload c_67_53 rfl ?_
            refine n_if0_eq c_67_55 (by omega) ?_ ?_
            · intro h74
              exfalso; omega
            · intro h75
              refine n_iconst c_67_58 ?_
              refine n_goto c_67_59 ?_
              refine n_istore (L2 := [some (2, 38), some (0, x1), some (0, 6), some (0, x3), some (0, x4), some (0, 1), some (0, 0), none]) c_67_63 rfl rfl ?_
              refine n_fg (le_s (le_s (le_s (le_s (le_s (le_n (le_s (le_n le_0)))))))) ?_
              exact ih.2.2.2.1 _ _ _ _ _ M hS (by omega) (by omega) (by omega) (by omega) (by omega) (by omega) (by omega) (by omega) (by omega) (by omega)
          · intro h76
            refine n_iload c_67_40 rfl ?_
            refine n_iload_n c_67_42 rfl ?_
            refine n_if2_ne c_67_43 (by omega) (by omega) ?_ ?_
            · intro h77
              refine n_iconst c_67_50 ?_
              refine n_istore (L2 := [some (2, 38), some (0, x1), some (0, 6), some (0, x3), some (0, x4), some (0, 0), none, none]) c_67_51 rfl rfl ?_
              refine n_iload c_67_53 rfl ?_
              refine n_if0_eq c_67_55 (by omega) ?_ ?_
              · intro h78
                refine n_iload_n c_67_62 rfl ?_
                refine n_istore (L2 := [some (2, 38), some (0, x1), some (0, 6), some (0, x3), some (0, x4), some (0, 0), some (0, 6), none]) c_67_63 rfl rfl ?_
                refine n_fg (le_s (le_s (le_s (le_s (le_s (le_n (le_s (le_n le_0)))))))) ?_
                exact ih.2.2.2.1 _ _ _ _ _ M hS (by omega) (by omega) (by omega) (by omega) (by omega) (by omega) (by omega) (by omega) (by omega) (by omega)
              · intro h79
                exfalso; omega
            · intro h80
              refine n_iconst c_67_46 ?_
              refine n_goto c_67_47 ?_
              refine n_istore (L2 := [some (2, 38), some (0, x1), some (0, 6), some (0, x3), some (0, x4), some (0, 1), none, none]) c_67_51 rfl rfl ?_
              refine n_iload c_67_53 rfl ?_
              refine n_if0_eq c_67_55 (by omega) ?_ ?_
              · intro h81
                exfalso; omega
              · intro h82
                refine n_iconst c_67_58 ?_
                refine n_goto c_67_59 ?_
                refine n_istore (L2 := [some (2, 38), some (0, x1), some (0, 6), some (0, x3), some (0, x4), some (0, 1), some (0, 0), none]) c_67_63 rfl rfl ?_
                refine n_fg (le_s (le_s (le_s (le_s (le_s (le_n (le_s (le_n le_0)))))))) ?_
                exact ih.2.2.2.1 _ _ _ _ _ M hS (by omega) (by omega) (by omega) (by omega) (by omega) (by omega) (by omega) (by omega) (by omega) (by omega)
      · skip
        refine n_iload c_67_29 rfl ?_
        refine n_iload_n c_67_31 rfl ?_
        refine n_if2_gt c_67_32 (by omega) (by omega) ?_ ?_
        · intro h83
          refine n_iinc (L2 := [some (2, 38), some (0, x1), some (0, 7), some (0, (x3 + 1)), some (0, x4), none, none, none]) c_67_141 rfl rfl rfl ?_
          refine n_goto c_67_144 ?_
          refine n_fg (le_s (le_s (le_s (le_s (le_n (le_n (le_n (le_n le_0)))))))) ?_
          exact ih.2.1 _ _ _ M hS (by omega) (by omega) (by omega) (by omega) (by omega)
        · intro h84
          refine n_iload_n c_67_35 rfl ?_
          refine n_iload_n c_67_36 rfl ?_
          refine n_if2_eq c_67_37 (by omega) (by omega) ?_ ?_
          · intro h85
            refine n_iconst c_67_46 ?_
            refine n_goto c_67_47 ?_
            refine n_istore (L2 := [some (2, 38), some (0, x1), some (0, 7), some (0, x3), some (0, x4), some (0, 1), none, none]) c_67_51 rfl rfl ?_
            refine n_iload c_67_53 rfl ?_
            refine n_if0_eq c_67_55 (by omega) ?_ ?_
            · intro h86
              exfalso; omega
            · intro h87
              refine n_iconst c_67_58 ?_
              refine n_goto c_67_59 ?_
              refine n_istore (L2 := [some (2, 38), some (0, x1), some (0, 7), some (0, x3), some (0, x4), some (0, 1), some (0, 0), none]) c_67_63 rfl rfl ?_
              refine n_fg (le_s (le_s (le_s (le_s (le_s (le_n (le_s (le_n le_0)))))))) ?_
              exact ih.2.2.2.1 _ _ _ _ _ M hS (by omega) (by omega) (by omega) (by omega) (by omega) (by omega) (by omega) (by omega) (by omega) (by omega)
          · intro h88
            refine n_iload c_67_40 rfl ?_
            refine n_iload_n c_67_42 rfl ?_
            refine n_if2_ne c_67_43 (by omega) (by omega) ?_ ?_
            · intro h89
              refine n_iconst c_67_50 ?_
              refine n_istore (L2 := [some (2, 38), some (0, x1), some (0, 7), some (0, x3), some (0, x4), some (0, 0), none, none]) c_67_51 rfl rfl ?_
              refine n_iload c_67_53 rfl ?_
              refine n_if0_eq c_67_55 (by omega) ?_ ?_
              · intro h90
                refine n_iload_n c_67_62 rfl ?_
                refine n_istore (L2 := [some (2, 38), some (0, x1), some (0, 7), some (0, x3), some (0, x4), some (0, 0), some (0, 7), none]) c_67_63 rfl rfl ?_
                refine n_fg (le_s (le_s (le_s (le_s (le_s (le_n (le_s (le_n le_0)))))))) ?_
                exact ih.2.2.2.1 _ _ _ _ _ M hS (by omega) (by omega) (by omega) (by omega) (by omega) (by omega) (by omega) (by omega) (by omega) (by omega)
              · intro h91
                exfalso; omega
            · intro h92
              refine n_iconst c_67_46 ?_
              refine n_goto c_67_47 ?_
              refine n_istore (L2 := [some (2, 38), some (0, x1), some (0, 7), some (0, x3), some (0, x4), some (0, 1), none, none]) c_67_51 rfl rfl ?_
              refine n_iload c_67_53 rfl ?_
              refine n_if0_eq c_67_55 (by omega) ?_ ?_
              · intro h93
                exfalso; omega
              · intro h94
                refine n_iconst c_67_58 ?_
                refine n_goto c_67_59 ?_
                refine n_istore (L2 := [some (2, 38), some (0, x1), some (0, 7), some (0, x3), some (0, x4), some (0, 1), some (0, 0), none]) c_67_63 rfl rfl ?_
                refine n_fg (le_s (le_s (le_s (le_s (le_s (le_n (le_s (le_n le_0)))))))) ?_
                exact ih.2.2.2.1 _ _ _ _ _ M hS (by omega) (by omega) (by omega) (by omega) (by omega) (by omega) (by omega) (by omega) (by omega) (by omega)
      · skip
        refine n_iload c_67_29 rfl ?_
        refine n_iload_n c_67_31 rfl ?_
        refine n_if2_gt c_67_32 (by omega) (by omega) ?_ ?_
        · intro h95
          refine n_iinc (L2 := [some (2, 38), some (0, x1), some (0, 8), some (0, (x3 + 1)), some (0, x4), none, none, none]) c_67_141 rfl rfl rfl ?_
          refine n_goto c_67_144 ?_
          refine n_fg (le_s (le_s (le_s (le_s (le_n (le_n (le_n (le_n le_0)))))))) ?_
          exact ih.2.1 _ _ _ M hS (by omega) (by omega) (by omega) (by omega) (by omega)
        · intro h96
          refine n_iload_n c_67_35 rfl ?_
          refine n_iload_n c_67_36 rfl ?_
          refine n_if2_eq c_67_37 (by omega) (by omega) ?_ ?_
          · intro h97
            refine n_iconst c_67_46 ?_
            refine n_goto c_67_47 ?_
            refine n_istore (L2 := [some (2, 38), some (0, x1), some (0, 8), some (0, x3), some (0, x4), some (0, 1), none, none]) c_67_51 rfl rfl ?_
            refine n_iload c_67_53 rfl ?_
            refine n_if0_eq c_67_55 (by omega) ?_ ?_
            · intro h98
              exfalso; omega
            · intro h99
              refine n_iconst c_67_58 ?_
              refine n_goto c_67_59 ?_
              refine n_istore (L2 := [some (2, 38), some (0, x1), some (0, 8), some (0, x3), some (0, x4), some (0, 1), some (0, 0), none]) c_67_63 rfl rfl ?_
              refine n_fg (le_s (le_s (le_s (le_s (le_s (le_n (le_s (le_n le_0)))))))) ?_
              exact ih.2.2.2.1 _ _ _ _ _ M hS (by omega) (by omega) (by omega) (by omega) (by omega) (by omega) (by omega) (by omega) (by omega) (by omega)
          · intro h100
            refine n_iload c_67_40 rfl ?_
            refine n_iload_n c_67_42 rfl ?_
            refine n_if2_ne c_67_43 (by omega) (by omega) ?_ ?_
            · intro h101
              refine n_iconst c_67_50 ?_
              refine n_istore (L2 := [some (2, 38), some (0, x1), some (0, 8), some (0, x3), some (0, x4), some (0, 0), none, none]) c_67_51 rfl rfl ?_
              refine n_iload c_67_53 rfl ?_
              refine n_if0_eq c_67_55 (by omega) ?_ ?_
              · intro h102
                refine n_iload_n c_67_62 rfl ?_
                refine n_istore (L2 := [some (2, 38), some (0, x1), some (0, 8), some (0, x3), some (0, x4), some (0, 0), some (0, 8), none]) c_67_63 rfl rfl ?_
                refine n_fg (le_s (le_s (le_s (le_s (le_s (le_n (le_s (le_n le_0)))))))) ?_
                exact ih.2.2.2.1 _ _ _ _ _ M hS (by omega) (by omega) (by omega) (by omega) (by omega) (by omega) (by omega) (by omega) (by omega) (by omega)
              · intro h103
                exfalso; omega
            · intro h104
              refine n_iconst c_67_46 ?_
              refine n_goto c_67_47 ?_
              refine n_istore (L2 := [some (2, 38), some (0, x1), some (0, 8), some (0, x3), some (0, x4), some (0, 1), none, none]) c_67_51 rfl rfl ?_
              refine n_iload c_67_53 rfl ?_
              refine n_if0_eq c_67_55 (by omega) ?_ ?_
              · intro h105
                exfalso; omega
              · intro h106
                refine n_iconst c_67_58 ?_
                refine n_goto c_67_59 ?_
                refine n_istore (L2 := [some (2, 38), some (0, x1), some (0, 8), some (0, x3), some (0, x4), some (0, 1), some (0, 0), none]) c_67_63 rfl rfl ?_
                refine n_fg (le_s (le_s (le_s (le_s (le_s (le_n (le_s (le_n le_0)))))))) ?_
                exact ih.2.2.2.1 _ _ _ _ _ M hS (by omega) (by omega) (by omega) (by omega) (by omega) (by omega) (by omega) (by omega) (by omega) (by omega)
    · intro x1 x2 x3 x4 x6 M hS k1 k2 k3 k4 k6 v0 v1 v2 v3 hnn
      rcases (show x2 = 0 ∨ x2 = 1 ∨ x2 = 2 ∨ x2 = 3 ∨ x2 = 4 ∨ x2 = 5 ∨ x2 = 6 ∨ x2 = 7 ∨ x2 = 8 by omega) with rfl | rfl | rfl | rfl | rfl | rfl | rfl | rfl | rfl
      · skip
        refine n_iload c_67_65 rfl ?_
        refine n_iload_n c_67_67 rfl ?_
        refine n_if2_gt c_67_68 (by omega) (by omega) ?_ ?_
        · intro h1
          refine n_iinc (L2 := [some (2, 38), some (0, x1), some (0, 0), some (0, x3), some (0, (x4 + 1)), none, some (0, x6), none]) c_67_135 rfl rfl rfl ?_
          refine n_goto c_67_138 ?_
          refine n_fg (le_s (le_s (le_s (le_s (le_s (le_n (le_n (le_n le_0)))))))) ?_
          exact ih.2.2.1 _ _ _ _ M hS (by omega) (by omega) (by omega) (by omega) (by omega) (by omega) (by omega) (by omega)
        · intro h2
          refine n_aload_n c_67_71 rfl ?_
          refine n_getR c_67_72 sc_38.n rfl rfl rfl r_38_1 ?_
          refine n_iload_n c_67_75 rfl ?_
          refine n_bipush c_67_76 rfl ?_
          refine n_imul c_67_78 rfl ?_
          refine n_iload c_67_79 rfl ?_
          refine n_iadd c_67_81 rfl ?_
          refine n_bipush c_67_82 rfl ?_
          refine n_imul c_67_84 rfl ?_
          refine n_iload c_67_85 rfl ?_
          refine n_iadd c_67_87 rfl ?_
          refine n_ialoadV c_67_88 sc_40.n rfl rfl rfl (by omega) (t_40 hS (by omega)) ?_
          intro z3 ez3 f4
          refine n_istore (L2 := [some (2, 38), some (0, x1), some (0, 0), some (0, x3), some (0, x4), none, some (0, x6), some (0, z3)]) c_67_89 rfl rfl ?_
          refine n_iload c_67_91 rfl ?_
          refine n_aload_n c_67_93 rfl ?_
          refine n_getV (bi := 7) c_67_94 sc_38.n rfl rfl rfl (t_38_7 hS) ?_
          intro z5 ez5 f6
          refine n_if2_eq c_67_97 (by omega) (by omega) ?_ ?_
          · intro h7
            refine n_fg (le_s (le_s (le_s (le_s (le_s (le_n (le_s (le_n le_0)))))))) ?_
            exact ih.2.2.2.2 _ _ _ _ _ M hS (by omega) (by omega) (by omega) (by omega) (by omega) (by omega) (by omega) (by omega) (by omega) (by omega) (by omega)
          · intro h8
            refine n_aload_n c_67_100 rfl ?_
            refine n_getR c_67_101 sc_38.n rfl rfl rfl r_38_2 ?_
            refine n_iload_n c_67_104 rfl ?_
            refine n_iload_n c_67_105 rfl ?_
            refine n_iload c_67_106 rfl ?_
            refine n_iconst c_67_108 ?_
            refine n_i_ishl c_67_109 rfl ?_
            refine n_i_ior c_67_110 rfl ?_
            refine n_iload c_67_111 rfl ?_
            refine n_bipush c_67_113 rfl ?_
            refine n_i_ishl c_67_115 rfl ?_
            refine n_i_ior c_67_116 rfl ?_
            refine n_iastore41 hS c_67_117 (by omega) (ckey_mk (by omega) (by omega) (by omega)) ?_
            intro M9 eM9 hS9
            refine n_aload_n c_67_118 rfl ?_
            refine n_getR c_67_119 sc_38.n rfl rfl rfl r_38_3 ?_
            refine n_iload_n c_67_122 rfl ?_
            refine n_iload c_67_123 rfl ?_
            refine n_iastoreV hS9 c_67_125 sc_42.n rfl (by omega) (w_42 (by omega) (by omega)) ?_
            intro M10 eM10 hS10
            have g10_0 : M10 42 x1 = z3 := by rw [eM10]; exact nu_s _ _ _ _
            refine n_iinc (L2 := [some (2, 38), some (0, (x1 + 1)), some (0, 0), some (0, x3), some (0, x4), none, some (0, x6), some (0, z3)]) c_67_126 rfl rfl rfl ?_
            refine n_fg (le_s (le_s (le_s (le_s (le_s (le_n (le_s (le_n le_0)))))))) ?_
            exact ih.2.2.2.2 _ _ _ _ _ M10 hS10 (by omega) (by omega) (by omega) (by omega) (by omega) (by omega) (by omega) (by omega) (by omega) (by omega) (by omega)
      · skip
        refine n_iload c_67_65 rfl ?_
        refine n_iload_n c_67_67 rfl ?_
        refine n_if2_gt c_67_68 (by omega) (by omega) ?_ ?_
        · intro h11
          refine n_iinc (L2 := [some (2, 38), some (0, x1), some (0, 1), some (0, x3), some (0, (x4 + 1)), none, some (0, x6), none]) c_67_135 rfl rfl rfl ?_
          refine n_goto c_67_138 ?_
          refine n_fg (le_s (le_s (le_s (le_s (le_s (le_n (le_n (le_n le_0)))))))) ?_
          exact ih.2.2.1 _ _ _ _ M hS (by omega) (by omega) (by omega) (by omega) (by omega) (by omega) (by omega) (by omega)
        · intro h12
          refine n_aload_n c_67_71 rfl ?_
          refine n_getR c_67_72 sc_38.n rfl rfl rfl r_38_1 ?_
          refine n_iload_n c_67_75 rfl ?_
          refine n_bipush c_67_76 rfl ?_
          refine n_imul c_67_78 rfl ?_
          refine n_iload c_67_79 rfl ?_
          refine n_iadd c_67_81 rfl ?_
          refine n_bipush c_67_82 rfl ?_
          refine n_imul c_67_84 rfl ?_
          refine n_iload c_67_85 rfl ?_
          refine n_iadd c_67_87 rfl ?_
          refine n_ialoadV c_67_88 sc_40.n rfl rfl rfl (by omega) (t_40 hS (by omega)) ?_
          intro z13 ez13 f14
          refine n_istore (L2 := [some (2, 38), some (0, x1), some (0, 1), some (0, x3), some (0, x4), none, some (0, x6), some (0, z13)]) c_67_89 rfl rfl ?_
          refine n_iload c_67_91 rfl ?_
          refine n_aload_n c_67_93 rfl ?_
          refine n_getV (bi := 7) c_67_94 sc_38.n rfl rfl rfl (t_38_7 hS) ?_
          intro z15 ez15 f16
          refine n_if2_eq c_67_97 (by omega) (by omega) ?_ ?_
          · intro h17
            refine n_fg (le_s (le_s (le_s (le_s (le_s (le_n (le_s (le_n le_0)))))))) ?_
            exact ih.2.2.2.2 _ _ _ _ _ M hS (by omega) (by omega) (by omega) (by omega) (by omega) (by omega) (by omega) (by omega) (by omega) (by omega) (by omega)
          · intro h18
            refine n_aload_n c_67_100 rfl ?_
            refine n_getR c_67_101 sc_38.n rfl rfl rfl r_38_2 ?_
            refine n_iload_n c_67_104 rfl ?_
            refine n_iload_n c_67_105 rfl ?_
            refine n_iload c_67_106 rfl ?_
            refine n_iconst c_67_108 ?_
            refine n_i_ishl c_67_109 rfl ?_
            refine n_i_ior c_67_110 rfl ?_
            refine n_iload c_67_111 rfl ?_
            refine n_bipush c_67_113 rfl ?_
            refine n_i_ishl c_67_115 rfl ?_
            refine n_i_ior c_67_116 rfl ?_
            refine n_iastore41 hS c_67_117 (by omega) (ckey_mk (by omega) (by omega) (by omega)) ?_
            intro M19 eM19 hS19
            refine n_aload_n c_67_118 rfl ?_
            refine n_getR c_67_119 sc_38.n rfl rfl rfl r_38_3 ?_
            refine n_iload_n c_67_122 rfl ?_
            refine n_iload c_67_123 rfl ?_
            refine n_iastoreV hS19 c_67_125 sc_42.n rfl (by omega) (w_42 (by omega) (by omega)) ?_
            intro M20 eM20 hS20
            have g20_0 : M20 42 x1 = z13 := by rw [eM20]; exact nu_s _ _ _ _
            refine n_iinc (L2 := [some (2, 38), some (0, (x1 + 1)), some (0, 1), some (0, x3), some (0, x4), none, some (0, x6), some (0, z13)]) c_67_126 rfl rfl rfl ?_
            refine n_fg (le_s (le_s (le_s (le_s (le_s (le_n (le_s (le_n le_0)))))))) ?_
            exact ih.2.2.2.2 _ _ _ _ _ M20 hS20 (by omega) (by omega) (by omega) (by omega) (by omega) (by omega) (by omega) (by omega) (by omega) (by omega) (by omega)
      · skip
        refine n_iload c_67_65 rfl ?_
        refine n_iload_n c_67_67 rfl ?_
        refine n_if2_gt c_67_68 (by omega) (by omega) ?_ ?_
        · intro h21
          refine n_iinc (L2 := [some (2, 38), some (0, x1), some (0, 2), some (0, x3), some (0, (x4 + 1)), none, some (0, x6), none]) c_67_135 rfl rfl rfl ?_
          refine n_goto c_67_138 ?_
          refine n_fg (le_s (le_s (le_s (le_s (le_s (le_n (le_n (le_n le_0)))))))) ?_
          exact ih.2.2.1 _ _ _ _ M hS (by omega) (by omega) (by omega) (by omega) (by omega) (by omega) (by omega) (by omega)
        · intro h22
          refine n_aload_n c_67_71 rfl ?_
          refine n_getR c_67_72 sc_38.n rfl rfl rfl r_38_1 ?_
          refine n_iload_n c_67_75 rfl ?_
          refine n_bipush c_67_76 rfl ?_
          refine n_imul c_67_78 rfl ?_
          refine n_iload c_67_79 rfl ?_
          refine n_iadd c_67_81 rfl ?_
          refine n_bipush c_67_82 rfl ?_
          refine n_imul c_67_84 rfl ?_
          refine n_iload c_67_85 rfl ?_
          refine n_iadd c_67_87 rfl ?_
          refine n_ialoadV c_67_88 sc_40.n rfl rfl rfl (by omega) (t_40 hS (by omega)) ?_
          intro z23 ez23 f24
          refine n_istore (L2 := [some (2, 38), some (0, x1), some (0, 2), some (0, x3), some (0, x4), none, some (0, x6), some (0, z23)]) c_67_89 rfl rfl ?_
          refine n_iload c_67_91 rfl ?_
          refine n_aload_n c_67_93 rfl ?_
          refine n_getV (bi := 7) c_67_94 sc_38.n rfl rfl rfl (t_38_7 hS) ?_
          intro z25 ez25 f26
          refine n_if2_eq c_67_97 (by omega) (by omega) ?_ ?_
          · intro h27
            refine n_fg (le_s (le_s (le_s (le_s (le_s (le_n (le_s (le_n le_0)))))))) ?_
            exact ih.2.2.2.2 _ _ _ _ _ M hS (by omega) (by omega) (by omega) (by omega) (by omega) (by omega) (by omega) (by omega) (by omega) (by omega) (by omega)
          · intro h28
            refine n_aload_n c_67_100 rfl ?_
            refine n_getR c_67_101 sc_38.n rfl rfl rfl r_38_2 ?_
            refine n_iload_n c_67_104 rfl ?_
            refine n_iload_n c_67_105 rfl ?_
            refine n_iload c_67_106 rfl ?_
            refine n_iconst c_67_108 ?_
            refine n_i_ishl c_67_109 rfl ?_
            refine n_i_ior c_67_110 rfl ?_
            refine n_iload c_67_111 rfl ?_
            refine n_bipush c_67_113 rfl ?_
            refine n_i_ishl c_67_115 rfl ?_
            refine n_i_ior c_67_116 rfl ?_
            refine n_iastore41 hS c_67_117 (by omega) (ckey_mk (by omega) (by omega) (by omega)) ?_
            intro M29 eM29 hS29
            refine n_aload_n c_67_118 rfl ?_
            refine n_getR c_67_119 sc_38.n rfl rfl rfl r_38_3 ?_
            refine n_iload_n c_67_122 rfl ?_
            refine n_iload c_67_123 rfl ?_
            refine n_iastoreV hS29 c_67_125 sc_42.n rfl (by omega) (w_42 (by omega) (by omega)) ?_
            intro M30 eM30 hS30
            have g30_0 : M30 42 x1 = z23 := by rw [eM30]; exact nu_s _ _ _ _
            refine n_iinc (L2 := [some (2, 38), some (0, (x1 + 1)), some (0, 2), some (0, x3), some (0, x4), none, some (0, x6), some (0, z23)]) c_67_126 rfl rfl rfl ?_
            refine n_fg (le_s (le_s (le_s (le_s (le_s (le_n (le_s (le_n le_0)))))))) ?_
            exact ih.2.2.2.2 _ _ _ _ _ M30 hS30 (by omega) (by omega) (by omega) (by omega) (by omega) (by omega) (by omega) (by omega) (by omega) (by omega) (by omega)
      · skip
        refine n_iload c_67_65 rfl ?_
        refine n_iload_n c_67_67 rfl ?_
        refine n_if2_gt c_67_68 (by omega) (by omega) ?_ ?_
        · intro h31
          refine n_iinc (L2 := [some (2, 38), some (0, x1), some (0, 3), some (0, x3), some (0, (x4 + 1)), none, some (0, x6), none]) c_67_135 rfl rfl rfl ?_
          refine n_goto c_67_138 ?_
          refine n_fg (le_s (le_s (le_s (le_s (le_s (le_n (le_n (le_n le_0)))))))) ?_
          exact ih.2.2.1 _ _ _ _ M hS (by omega) (by omega) (by omega) (by omega) (by omega) (by omega) (by omega) (by omega)
        · intro h32
          refine n_aload_n c_67_71 rfl ?_
          refine n_getR c_67_72 sc_38.n rfl rfl rfl r_38_1 ?_
          refine n_iload_n c_67_75 rfl ?_
          refine n_bipush c_67_76 rfl ?_
          refine n_imul c_67_78 rfl ?_
          refine n_iload c_67_79 rfl ?_
          refine n_iadd c_67_81 rfl ?_
          refine n_bipush c_67_82 rfl ?_
          refine n_imul c_67_84 rfl ?_
          refine n_iload c_67_85 rfl ?_
          refine n_iadd c_67_87 rfl ?_
          refine n_ialoadV c_67_88 sc_40.n rfl rfl rfl (by omega) (t_40 hS (by omega)) ?_
          intro z33 ez33 f34
          refine n_istore (L2 := [some (2, 38), some (0, x1), some (0, 3), some (0, x3), some (0, x4), none, some (0, x6), some (0, z33)]) c_67_89 rfl rfl ?_
          refine n_iload c_67_91 rfl ?_
          refine n_aload_n c_67_93 rfl ?_
          refine n_getV (bi := 7) c_67_94 sc_38.n rfl rfl rfl (t_38_7 hS) ?_
          intro z35 ez35 f36
          refine n_if2_eq c_67_97 (by omega) (by omega) ?_ ?_
          · intro h37
            refine n_fg (le_s (le_s (le_s (le_s (le_s (le_n (le_s (le_n le_0)))))))) ?_
            exact ih.2.2.2.2 _ _ _ _ _ M hS (by omega) (by omega) (by omega) (by omega) (by omega) (by omega) (by omega) (by omega) (by omega) (by omega) (by omega)
          · intro h38
            refine n_aload_n c_67_100 rfl ?_
            refine n_getR c_67_101 sc_38.n rfl rfl rfl r_38_2 ?_
            refine n_iload_n c_67_104 rfl ?_
            refine n_iload_n c_67_105 rfl ?_
            refine n_iload c_67_106 rfl ?_
            refine n_iconst c_67_108 ?_
            refine n_i_ishl c_67_109 rfl ?_
            refine n_i_ior c_67_110 rfl ?_
            refine n_iload c_67_111 rfl ?_
            refine n_bipush c_67_113 rfl ?_
            refine n_i_ishl c_67_115 rfl ?_
            refine n_i_ior c_67_116 rfl ?_
            refine n_iastore41 hS c_67_117 (by omega) (ckey_mk (by omega) (by omega) (by omega)) ?_
            intro M39 eM39 hS39
            refine n_aload_n c_67_118 rfl ?_
            refine n_getR c_67_119 sc_38.n rfl rfl rfl r_38_3 ?_
            refine n_iload_n c_67_122 rfl ?_
            refine n_iload c_67_123 rfl ?_
            refine n_iastoreV hS39 c_67_125 sc_42.n rfl (by omega) (w_42 (by omega) (by omega)) ?_
            intro M40 eM40 hS40
            have g40_0 : M40 42 x1 = z33 := by rw [eM40]; exact nu_s _ _ _ _
            refine n_iinc (L2 := [some (2, 38), some (0, (x1 + 1)), some (0, 3), some (0, x3), some (0, x4), none, some (0, x6), some (0, z33)]) c_67_126 rfl rfl rfl ?_
            refine n_fg (le_s (le_s (le_s (le_s (le_s (le_n (le_s (le_n le_0)))))))) ?_
            exact ih.2.2.2.2 _ _ _ _ _ M40 hS40 (by omega) (by omega) (by omega) (by omega) (by omega) (by omega) (by omega) (by omega) (by omega) (by omega) (by omega)
      · skip
        refine n_iload c_67_65 rfl ?_
        refine n_iload_n c_67_67 rfl ?_
        refine n_if2_gt c_67_68 (by omega) (by omega) ?_ ?_
        · intro h41
          refine n_iinc (L2 := [some (2, 38), some (0, x1), some (0, 4), some (0, x3), some (0, (x4 + 1)), none, some (0, x6), none]) c_67_135 rfl rfl rfl ?_
          refine n_goto c_67_138 ?_
          refine n_fg (le_s (le_s (le_s (le_s (le_s (le_n (le_n (le_n le_0)))))))) ?_
          exact ih.2.2.1 _ _ _ _ M hS (by omega) (by omega) (by omega) (by omega) (by omega) (by omega) (by omega) (by omega)
        · intro h42
          refine n_aload_n c_67_71 rfl ?_
          refine n_getR c_67_72 sc_38.n rfl rfl rfl r_38_1 ?_
          refine n_iload_n c_67_75 rfl ?_
          refine n_bipush c_67_76 rfl ?_
          refine n_imul c_67_78 rfl ?_
          refine n_iload c_67_79 rfl ?_
          refine n_iadd c_67_81 rfl ?_
          refine n_bipush c_67_82 rfl ?_
          refine n_imul c_67_84 rfl ?_
          refine n_iload c_67_85 rfl ?_
          refine n_iadd c_67_87 rfl ?_
          refine n_ialoadV c_67_88 sc_40.n rfl rfl rfl (by omega) (t_40 hS (by omega)) ?_
          intro z43 ez43 f44
          refine n_istore (L2 := [some (2, 38), some (0, x1), some (0, 4), some (0, x3), some (0, x4), none, some (0, x6), some (0, z43)]) c_67_89 rfl rfl ?_
          refine n_iload c_67_91 rfl ?_
          refine n_aload_n c_67_93 rfl ?_
          refine n_getV (bi := 7) c_67_94 sc_38.n rfl rfl rfl (t_38_7 hS) ?_
          intro z45 ez45 f46
          refine n_if2_eq c_67_97 (by omega) (by omega) ?_ ?_
          · intro h47
            refine n_fg (le_s (le_s (le_s (le_s (le_s (le_n (le_s (le_n le_0)))))))) ?_
            exact ih.2.2.2.2 _ _ _ _ _ M hS (by omega) (by omega) (by omega) (by omega) (by omega) (by omega) (by omega) (by omega) (by omega) (by omega) (by omega)
          · intro h48
            refine n_aload_n c_67_100 rfl ?_
            refine n_getR c_67_101 sc_38.n rfl rfl rfl r_38_2 ?_
            refine n_iload_n c_67_104 rfl ?_
            refine n_iload_n c_67_105 rfl ?_
            refine n_iload c_67_106 rfl ?_
            refine n_iconst c_67_108 ?_
            refine n_i_ishl c_67_109 rfl ?_
            refine n_i_ior c_67_110 rfl ?_
            refine n_iload c_67_111 rfl ?_
            refine n_bipush c_67_113 rfl ?_
            refine n_i_ishl c_67_115 rfl ?_
            refine n_i_ior c_67_116 rfl ?_
            refine n_iastore41 hS c_67_117 (by omega) (ckey_mk (by omega) (by omega) (by omega)) ?_
            intro M49 eM49 hS49
            refine n_aload_n c_67_118 rfl ?_
            refine n_getR c_67_119 sc_38.n rfl rfl rfl r_38_3 ?_
            refine n_iload_n c_67_122 rfl ?_
            refine n_iload c_67_123 rfl ?_
            refine n_iastoreV hS49 c_67_125 sc_42.n rfl (by omega) (w_42 (by omega) (by omega)) ?_
            intro M50 eM50 hS50
            have g50_0 : M50 42 x1 = z43 := by rw [eM50]; exact nu_s _ _ _ _
            refine n_iinc (L2 := [some (2, 38), some (0, (x1 + 1)), some (0, 4), some (0, x3), some (0, x4), none, some (0, x6), some (0, z43)]) c_67_126 rfl rfl rfl ?_
            refine n_fg (le_s (le_s (le_s (le_s (le_s (le_n (le_s (le_n le_0)))))))) ?_
            exact ih.2.2.2.2 _ _ _ _ _ M50 hS50 (by omega) (by omega) (by omega) (by omega) (by omega) (by omega) (by omega) (by omega) (by omega) (by omega) (by omega)
      · skip
        refine n_iload c_67_65 rfl ?_
        refine n_iload_n c_67_67 rfl ?_
        refine n_if2_gt c_67_68 (by omega) (by omega) ?_ ?_
        · intro h51
          refine n_iinc (L2 := [some (2, 38), some (0, x1), some (0, 5), some (0, x3), some (0, (x4 + 1)), none, some (0, x6), none]) c_67_135 rfl rfl rfl ?_
          refine n_goto c_67_138 ?_
          refine n_fg (le_s (le_s (le_s (le_s (le_s (le_n (le_n (le_n le_0)))))))) ?_
          exact ih.2.2.1 _ _ _ _ M hS (by omega) (by omega) (by omega) (by omega) (by omega) (by omega) (by omega) (by omega)
        · intro h52
          refine n_aload_n c_67_71 rfl ?_
          refine n_getR c_67_72 sc_38.n rfl rfl rfl r_38_1 ?_
          refine n_iload_n c_67_75 rfl ?_
          refine n_bipush c_67_76 rfl ?_
          refine n_imul c_67_78 rfl ?_
          refine n_iload c_67_79 rfl ?_
          refine n_iadd c_67_81 rfl ?_
          refine n_bipush c_67_82 rfl ?_
          refine n_imul c_67_84 rfl ?_
          refine n_iload c_67_85 rfl ?_
          refine n_iadd c_67_87 rfl ?_
          refine n_ialoadV c_67_88 sc_40.n rfl rfl rfl (by omega) (t_40 hS (by omega)) ?_
          intro z53 ez53 f54
          refine n_istore (L2 := [some (2, 38), some (0, x1), some (0, 5), some (0, x3), some (0, x4), none, some (0, x6), some (0, z53)]) c_67_89 rfl rfl ?_
          refine n_iload c_67_91 rfl ?_
          refine n_aload_n c_67_93 rfl ?_
          refine n_getV (bi := 7) c_67_94 sc_38.n rfl rfl rfl (t_38_7 hS) ?_
          intro z55 ez55 f56
          refine n_if2_eq c_67_97 (by omega) (by omega) ?_ ?_
          · intro h57
            refine n_fg (le_s (le_s (le_s (le_s (le_s (le_n (le_s (le_n le_0)))))))) ?_
            exact ih.2.2.2.2 _ _ _ _ _ M hS (by omega) (by omega) (by omega) (by omega) (by omega) (by omega) (by omega) (by omega) (by omega) (by omega) (by omega)
          · intro h58
            refine n_aload_n c_67_100 rfl ?_
            refine n_getR c_67_101 sc_38.n rfl rfl rfl r_38_2 ?_
            refine n_iload_n c_67_104 rfl ?_
            refine n_iload_n c_67_105 rfl ?_
            refine n_iload c_67_106 rfl ?_
            refine n_iconst c_67_108 ?_
            refine n_i_ishl c_67_109 rfl ?_
            refine n_i_ior c_67_110 rfl ?_
            refine n_iload c_67_111 rfl ?_
            refine n_bipush c_67_113 rfl ?_
            refine n_i_ishl c_67_115 rfl ?_
            refine n_i_ior c_67_116 rfl ?_
            refine n_iastore41 hS c_67_117 (by omega) (ckey_mk (by omega) (by omega) (by omega)) ?_
            intro M59 eM59 hS59
            refine n_aload_n c_67_118 rfl ?_
            refine n_getR c_67_119 sc_38.n rfl rfl rfl r_38_3 ?_
            refine n_iload_n c_67_122 rfl ?_
            refine n_iload c_67_123 rfl ?_
            refine n_iastoreV hS59 c_67_125 sc_42.n rfl (by omega) (w_42 (by omega) (by omega)) ?_
            intro M60 eM60 hS60
            have g60_0 : M60 42 x1 = z53 := by rw [eM60]; exact nu_s _ _ _ _
            refine n_iinc (L2 := [some (2, 38), some (0, (x1 + 1)), some (0, 5), some (0, x3), some (0, x4), none, some (0, x6), some (0, z53)]) c_67_126 rfl rfl rfl ?_
            refine n_fg (le_s (le_s (le_s (le_s (le_s (le_n (le_s (le_n le_0)))))))) ?_
            exact ih.2.2.2.2 _ _ _ _ _ M60 hS60 (by omega) (by omega) (by omega) (by omega) (by omega) (by omega) (by omega) (by omega) (by omega) (by omega) (by omega)
      · skip
        refine n_iload c_67_65 rfl ?_
        refine n_iload_n c_67_67 rfl ?_
        refine n_if2_gt c_67_68 (by omega) (by omega) ?_ ?_
        · intro h61
          refine n_iinc (L2 := [some (2, 38), some (0, x1), some (0, 6), some (0, x3), some (0, (x4 + 1)), none, some (0, x6), none]) c_67_135 rfl rfl rfl ?_
          refine n_goto c_67_138 ?_
          refine n_fg (le_s (le_s (le_s (le_s (le_s (le_n (le_n (le_n le_0)))))))) ?_
          exact ih.2.2.1 _ _ _ _ M hS (by omega) (by omega) (by omega) (by omega) (by omega) (by omega) (by omega) (by omega)
        · intro h62
          refine n_aload_n c_67_71 rfl ?_
          refine n_getR c_67_72 sc_38.n rfl rfl rfl r_38_1 ?_
          refine n_iload_n c_67_75 rfl ?_
          refine n_bipush c_67_76 rfl ?_
          refine n_imul c_67_78 rfl ?_
          refine n_iload c_67_79 rfl ?_
          refine n_iadd c_67_81 rfl ?_
          refine n_bipush c_67_82 rfl ?_
          refine n_imul c_67_84 rfl ?_
          refine n_iload c_67_85 rfl ?_
          refine n_iadd c_67_87 rfl ?_
          refine n_ialoadV c_67_88 sc_40.n rfl rfl rfl (by omega) (t_40 hS (by omega)) ?_
          intro z63 ez63 f64
          refine n_istore (L2 := [some (2, 38), some (0, x1), some (0, 6), some (0, x3), some (0, x4), none, some (0, x6), some (0, z63)]) c_67_89 rfl rfl ?_
          refine n_iload c_67_91 rfl ?_
          refine n_aload_n c_67_93 rfl ?_
          refine n_getV (bi := 7) c_67_94 sc_38.n rfl rfl rfl (t_38_7 hS) ?_
          intro z65 ez65 f66
          refine n_if2_eq c_67_97 (by omega) (by omega) ?_ ?_
          · intro h67
            refine n_fg (le_s (le_s (le_s (le_s (le_s (le_n (le_s (le_n le_0)))))))) ?_
            exact ih.2.2.2.2 _ _ _ _ _ M hS (by omega) (by omega) (by omega) (by omega) (by omega) (by omega) (by omega) (by omega) (by omega) (by omega) (by omega)
          · intro h68
            refine n_aload_n c_67_100 rfl ?_
            refine n_getR c_67_101 sc_38.n rfl rfl rfl r_38_2 ?_
            refine n_iload_n c_67_104 rfl ?_
            refine n_iload_n c_67_105 rfl ?_
            refine n_iload c_67_106 rfl ?_
            refine n_iconst c_67_108 ?_
            refine n_i_ishl c_67_109 rfl ?_
            refine n_i_ior c_67_110 rfl ?_
            refine n_iload c_67_111 rfl ?_
            refine n_bipush c_67_113 rfl ?_
            refine n_i_ishl c_67_115 rfl ?_
            refine n_i_ior c_67_116 rfl ?_
            refine n_iastore41 hS c_67_117 (by omega) (ckey_mk (by omega) (by omega) (by omega)) ?_
            intro M69 eM69 hS69
            refine n_aload_n c_67_118 rfl ?_
            refine n_getR c_67_119 sc_38.n rfl rfl rfl r_38_3 ?_
            refine n_iload_n c_67_122 rfl ?_
            refine n_iload c_67_123 rfl ?_
            refine n_iastoreV hS69 c_67_125 sc_42.n rfl (by omega) (w_42 (by omega) (by omega)) ?_
            intro M70 eM70 hS70
            have g70_0 : M70 42 x1 = z63 := by rw [eM70]; exact nu_s _ _ _ _
            refine n_iinc (L2 := [some (2, 38), some (0, (x1 + 1)), some (0, 6), some (0, x3), some (0, x4), none, some (0, x6), some (0, z63)]) c_67_126 rfl rfl rfl ?_
            refine n_fg (le_s (le_s (le_s (le_s (le_s (le_n (le_s (le_n le_0)))))))) ?_
            exact ih.2.2.2.2 _ _ _ _ _ M70 hS70 (by omega) (by omega) (by omega) (by omega) (by omega) (by omega) (by omega) (by omega) (by omega) (by omega) (by omega)
      · skip
        refine n_iload c_67_65 rfl ?_
        refine n_iload_n c_67_67 rfl ?_
        refine n_if2_gt c_67_68 (by omega) (by omega) ?_ ?_
        · intro h71
          refine n_iinc (L2 := [some (2, 38), some (0, x1), some (0, 7), some (0, x3), some (0, (x4 + 1)), none, some (0, x6), none]) c_67_135 rfl rfl rfl ?_
          refine n_goto c_67_138 ?_
          refine n_fg (le_s (le_s (le_s (le_s (le_s (le_n (le_n (le_n le_0)))))))) ?_
          exact ih.2.2.1 _ _ _ _ M hS (by omega) (by omega) (by omega) (by omega) (by omega) (by omega) (by omega) (by omega)
        · intro h72
          refine n_aload_n c_67_71 rfl ?_
          refine n_getR c_67_72 sc_38.n rfl rfl rfl r_38_1 ?_
          refine n_iload_n c_67_75 rfl ?_
          refine n_bipush c_67_76 rfl ?_
          refine n_imul c_67_78 rfl ?_
          refine n_iload c_67_79 rfl ?_
          refine n_iadd c_67_81 rfl ?_
          refine n_bipush c_67_82 rfl ?_
          refine n_imul c_67_84 rfl ?_
          refine n_iload c_67_85 rfl ?_
          refine n_iadd c_67_87 rfl ?_
          refine n_ialoadV c_67_88 sc_40.n rfl rfl rfl (by omega) (t_40 hS (by omega)) ?_
          intro z73 ez73 f74
          refine n_istore (L2 := [some (2, 38), some (0, x1), some (0, 7), some (0, x3), some (0, x4), none, some (0, x6), some (0, z73)]) c_67_89 rfl rfl ?_
          refine n_iload c_67_91 rfl ?_
          refine n_aload_n c_67_93 rfl ?_
          refine n_getV (bi := 7) c_67_94 sc_38.n rfl rfl rfl (t_38_7 hS) ?_
          intro z75 ez75 f76
          refine n_if2_eq c_67_97 (by omega) (by omega) ?_ ?_
          · intro h77
            refine n_fg (le_s (le_s (le_s (le_s (le_s (le_n (le_s (le_n le_0)))))))) ?_
            exact ih.2.2.2.2 _ _ _ _ _ M hS (by omega) (by omega) (by omega) (by omega) (by omega) (by omega) (by omega) (by omega) (by omega) (by omega) (by omega)
          · intro h78
            refine n_aload_n c_67_100 rfl ?_
            refine n_getR c_67_101 sc_38.n rfl rfl rfl r_38_2 ?_
            refine n_iload_n c_67_104 rfl ?_
            refine n_iload_n c_67_105 rfl ?_
            refine n_iload c_67_106 rfl ?_
            refine n_iconst c_67_108 ?_
            refine n_i_ishl c_67_109 rfl ?_
            refine n_i_ior c_67_110 rfl ?_
            refine n_iload c_67_111 rfl ?_
            refine n_bipush c_67_113 rfl ?_
            refine n_i_ishl c_67_115 rfl ?_
            refine n_i_ior c_67_116 rfl ?_
            refine n_iastore41 hS c_67_117 (by omega) (ckey_mk (by omega) (by omega) (by omega)) ?_
            intro M79 eM79 hS79
            refine n_aload_n c_67_118 rfl ?_
            refine n_getR c_67_119 sc_38.n rfl rfl rfl r_38_3 ?_
            refine n_iload_n c_67_122 rfl ?_
            refine n_iload c_67_123 rfl ?_
            refine n_iastoreV hS79 c_67_125 sc_42.n rfl (by omega) (w_42 (by omega) (by omega)) ?_
            intro M80 eM80 hS80
            have g80_0 : M80 42 x1 = z73 := by rw [eM80]; exact nu_s _ _ _ _
            refine n_iinc (L2 := [some (2, 38), some (0, (x1 + 1)), some (0, 7), some (0, x3), some (0, x4), none, some (0, x6), some (0, z73)]) c_67_126 rfl rfl rfl ?_
            refine n_fg (le_s (le_s (le_s (le_s (le_s (le_n (le_s (le_n le_0)))))))) ?_
            exact ih.2.2.2.2 _ _ _ _ _ M80 hS80 (by omega) (by omega) (by omega) (by omega) (by omega) (by omega) (by omega) (by omega) (by omega) (by omega) (by omega)
      · skip
        refine n_iload c_67_65 rfl ?_
        refine n_iload_n c_67_67 rfl ?_
        refine n_if2_gt c_67_68 (by omega) (by omega) ?_ ?_
        · intro h81
          refine n_iinc (L2 := [some (2, 38), some (0, x1), some (0, 8), some (0, x3), some (0, (x4 + 1)), none, some (0, x6), none]) c_67_135 rfl rfl rfl ?_
          refine n_goto c_67_138 ?_
          refine n_fg (le_s (le_s (le_s (le_s (le_s (le_n (le_n (le_n le_0)))))))) ?_
          exact ih.2.2.1 _ _ _ _ M hS (by omega) (by omega) (by omega) (by omega) (by omega) (by omega) (by omega) (by omega)
        · intro h82
          refine n_aload_n c_67_71 rfl ?_
          refine n_getR c_67_72 sc_38.n rfl rfl rfl r_38_1 ?_
          refine n_iload_n c_67_75 rfl ?_
          refine n_bipush c_67_76 rfl ?_
          refine n_imul c_67_78 rfl ?_
          refine n_iload c_67_79 rfl ?_
          refine n_iadd c_67_81 rfl ?_
          refine n_bipush c_67_82 rfl ?_
          refine n_imul c_67_84 rfl ?_
          refine n_iload c_67_85 rfl ?_
          refine n_iadd c_67_87 rfl ?_
          refine n_ialoadV c_67_88 sc_40.n rfl rfl rfl (by omega) (t_40 hS (by omega)) ?_
          intro z83 ez83 f84
          refine n_istore (L2 := [some (2, 38), some (0, x1), some (0, 8), some (0, x3), some (0, x4), none, some (0, x6), some (0, z83)]) c_67_89 rfl rfl ?_
          refine n_iload c_67_91 rfl ?_
          refine n_aload_n c_67_93 rfl ?_
          refine n_getV (bi := 7) c_67_94 sc_38.n rfl rfl rfl (t_38_7 hS) ?_
          intro z85 ez85 f86
          refine n_if2_eq c_67_97 (by omega) (by omega) ?_ ?_
          · intro h87
            refine n_fg (le_s (le_s (le_s (le_s (le_s (le_n (le_s (le_n le_0)))))))) ?_
            exact ih.2.2.2.2 _ _ _ _ _ M hS (by omega) (by omega) (by omega) (by omega) (by omega) (by omega) (by omega) (by omega) (by omega) (by omega) (by omega)
          · intro h88
            refine n_aload_n c_67_100 rfl ?_
            refine n_getR c_67_101 sc_38.n rfl rfl rfl r_38_2 ?_
            refine n_iload_n c_67_104 rfl ?_
            refine n_iload_n c_67_105 rfl ?_
            refine n_iload c_67_106 rfl ?_
            refine n_iconst c_67_108 ?_
            refine n_i_ishl c_67_109 rfl ?_
            refine n_i_ior c_67_110 rfl ?_
            refine n_iload c_67_111 rfl ?_
            refine n_bipush c_67_113 rfl ?_
            refine n_i_ishl c_67_115 rfl ?_
            refine n_i_ior c_67_116 rfl ?_
            refine n_iastore41 hS c_67_117 (by omega) (ckey_mk (by omega) (by omega) (by omega)) ?_
            intro M89 eM89 hS89
            refine n_aload_n c_67_118 rfl ?_
            refine n_getR c_67_119 sc_38.n rfl rfl rfl r_38_3 ?_
            refine n_iload_n c_67_122 rfl ?_
            refine n_iload c_67_123 rfl ?_
            refine n_iastoreV hS89 c_67_125 sc_42.n rfl (by omega) (w_42 (by omega) (by omega)) ?_
            intro M90 eM90 hS90
            have g90_0 : M90 42 x1 = z83 := by rw [eM90]; exact nu_s _ _ _ _
            refine n_iinc (L2 := [some (2, 38), some (0, (x1 + 1)), some (0, 8), some (0, x3), some (0, x4), none, some (0, x6), some (0, z83)]) c_67_126 rfl rfl rfl ?_
            refine n_fg (le_s (le_s (le_s (le_s (le_s (le_n (le_s (le_n le_0)))))))) ?_
            exact ih.2.2.2.2 _ _ _ _ _ M90 hS90 (by omega) (by omega) (by omega) (by omega) (by omega) (by omega) (by omega) (by omega) (by omega) (by omega) (by omega)
    · intro x1 x2 x3 x4 x6 M hS k1 k2 k3 k4 k6 v0 v1 v2 v3 v4 hnn
      rcases (show x2 = 0 ∨ x2 = 1 ∨ x2 = 2 ∨ x2 = 3 ∨ x2 = 4 ∨ x2 = 5 ∨ x2 = 6 ∨ x2 = 7 ∨ x2 = 8 by omega) with rfl | rfl | rfl | rfl | rfl | rfl | rfl | rfl | rfl
      · skip
        refine n_iinc (L2 := [some (2, 38), some (0, x1), some (0, 0), some (0, x3), some (0, x4), none, some (0, (x6 + 1)), none]) c_67_129 rfl rfl rfl ?_
        refine n_goto c_67_132 ?_
        refine n_fg (le_s (le_s (le_s (le_s (le_s (le_n (le_s (le_n le_0)))))))) ?_
        exact ih.2.2.2.1 _ _ _ _ _ M hS (by omega) (by omega) (by omega) (by omega) (by omega) (by omega) (by omega) (by omega) (by omega) (by omega)
      · skip
        refine n_iinc (L2 := [some (2, 38), some (0, x1), some (0, 1), some (0, x3), some (0, x4), none, some (0, (x6 + 1)), none]) c_67_129 rfl rfl rfl ?_
        refine n_goto c_67_132 ?_
        refine n_fg (le_s (le_s (le_s (le_s (le_s (le_n (le_s (le_n le_0)))))))) ?_
        exact ih.2.2.2.1 _ _ _ _ _ M hS (by omega) (by omega) (by omega) (by omega) (by omega) (by omega) (by omega) (by omega) (by omega) (by omega)
      · skip
        refine n_iinc (L2 := [some (2, 38), some (0, x1), some (0, 2), some (0, x3), some (0, x4), none, some (0, (x6 + 1)), none]) c_67_129 rfl rfl rfl ?_
        refine n_goto c_67_132 ?_
        refine n_fg (le_s (le_s (le_s (le_s (le_s (le_n (le_s (le_n le_0)))))))) ?_
        exact ih.2.2.2.1 _ _ _ _ _ M hS (by omega) (by omega) (by omega) (by omega) (by omega) (by omega) (by omega) (by omega) (by omega) (by omega)
      · skip
        refine n_iinc (L2 := [some (2, 38), some (0, x1), some (0, 3), some (0, x3), some (0, x4), none, some (0, (x6 + 1)), none]) c_67_129 rfl rfl rfl ?_
        refine n_goto c_67_132 ?_
        refine n_fg (le_s (le_s (le_s (le_s (le_s (le_n (le_s (le_n le_0)))))))) ?_
        exact ih.2.2.2.1 _ _ _ _ _ M hS (by omega) (by omega) (by omega) (by omega) (by omega) (by omega) (by omega) (by omega) (by omega) (by omega)
      · skip
        refine n_iinc (L2 := [some (2, 38), some (0, x1), some (0, 4), some (0, x3), some (0, x4), none, some (0, (x6 + 1)), none]) c_67_129 rfl rfl rfl ?_
        refine n_goto c_67_132 ?_
        refine n_fg (le_s (le_s (le_s (le_s (le_s (le_n (le_s (le_n le_0)))))))) ?_
        exact ih.2.2.2.1 _ _ _ _ _ M hS (by omega) (by omega) (by omega) (by omega) (by omega) (by omega) (by omega) (by omega) (by omega) (by omega)
      · skip
        refine n_iinc (L2 := [some (2, 38), some (0, x1), some (0, 5), some (0, x3), some (0, x4), none, some (0, (x6 + 1)), none]) c_67_129 rfl rfl rfl ?_
        refine n_goto c_67_132 ?_
        refine n_fg (le_s (le_s (le_s (le_s (le_s (le_n (le_s (le_n le_0)))))))) ?_
        exact ih.2.2.2.1 _ _ _ _ _ M hS (by omega) (by omega) (by omega) (by omega) (by omega) (by omega) (by omega) (by omega) (by omega) (by omega)
      · skip
        refine n_iinc (L2 := [some (2, 38), some (0, x1), some (0, 6), some (0, x3), some (0, x4), none, some (0, (x6 + 1)), none]) c_67_129 rfl rfl rfl ?_
        refine n_goto c_67_132 ?_
        refine n_fg (le_s (le_s (le_s (le_s (le_s (le_n (le_s (le_n le_0)))))))) ?_
        exact ih.2.2.2.1 _ _ _ _ _ M hS (by omega) (by omega) (by omega) (by omega) (by omega) (by omega) (by omega) (by omega) (by omega) (by omega)
      · skip
        refine n_iinc (L2 := [some (2, 38), some (0, x1), some (0, 7), some (0, x3), some (0, x4), none, some (0, (x6 + 1)), none]) c_67_129 rfl rfl rfl ?_
        refine n_goto c_67_132 ?_
        refine n_fg (le_s (le_s (le_s (le_s (le_s (le_n (le_s (le_n le_0)))))))) ?_
        exact ih.2.2.2.1 _ _ _ _ _ M hS (by omega) (by omega) (by omega) (by omega) (by omega) (by omega) (by omega) (by omega) (by omega) (by omega)
      · skip
        refine n_iinc (L2 := [some (2, 38), some (0, x1), some (0, 8), some (0, x3), some (0, x4), none, some (0, (x6 + 1)), none]) c_67_129 rfl rfl rfl ?_
        refine n_goto c_67_132 ?_
        refine n_fg (le_s (le_s (le_s (le_s (le_s (le_n (le_s (le_n le_0)))))))) ?_
        exact ih.2.2.2.1 _ _ _ _ _ M hS (by omega) (by omega) (by omega) (by omega) (by omega) (by omega) (by omega) (by omega) (by omega) (by omega)
set_option maxHeartbeats 4000000 in
theorem order_2 {xs : List Int32} {e : Nat} {ac : Int} {M0 M : nM} (hS : Sf 2 ac M0 M)  : nW xs e 67 0 [some (2, 38), none, none, none, none, none, none, none] [] M (nPV fun M1 => Sf 2 ac M0 M1) := by
  have hd : (2 : Int) = 2 ∨ (2 : Int) = 3 := by decide
  have hac := hS.2.2.2.2
  refine n_iconst c_67_0 ?_
  refine n_istore_n (L2 := [some (2, 38), some (0, 0), none, none, none, none, none, none]) c_67_1 rfl rfl ?_
  refine n_iconst c_67_2 ?_
  refine n_istore_n (L2 := [some (2, 38), some (0, 0), some (0, 0), none, none, none, none, none]) c_67_3 rfl rfl ?_
  refine n_fg (le_s (le_s (le_s (le_n (le_n (le_n (le_n (le_n le_0)))))))) ?_
  exact (order_2_c hS  61500).1 _ _ M hS (by omega) (by omega) (by omega) (by omega)
