/-! What the methods tell. -/
set_option maxHeartbeats 4000000 in
theorem threeOfX0_2 {xs : List Int32} {e : Nat} {ac : Int} {M0 M : nM} {c : Int} (hS : Sf 2 ac M0 M) (hc : 0 ≤ c ∧ c ≤ 511) : nW xs e 18 0 [some (2, 4), some (0, c), some (0, 0), none, none, none, none] [] M (nPI fun z M1 => M = M1 ∧ (0 ≤ z ∧ z ≤ 7) ∧ (z = t3 2 c 0)) := by
  have hd : (2 : Int) = 2 ∨ (2 : Int) = 3 := by decide
  have hac := hS.2.2.2.2
  refine n_iload_n c_18_0 rfl ?_
  refine n_istore_n (L2 := [some (2, 4), some (0, c), some (0, 0), some (0, c), none, none, none]) c_18_1 rfl rfl ?_
  refine n_iconst c_18_2 ?_
  refine n_istore (L2 := [some (2, 4), some (0, c), some (0, 0), some (0, c), some (0, 0), none, none]) c_18_3 rfl rfl ?_
  refine n_iconst c_18_5 ?_
  refine n_istore (L2 := [some (2, 4), some (0, c), some (0, 0), some (0, c), some (0, 0), some (0, 0), none]) c_18_6 rfl rfl ?_
  refine n_iload c_18_8 rfl ?_
  refine n_iload_n c_18_10 rfl ?_
  refine n_iconst c_18_11 ?_
  refine n_iadd c_18_12 rfl ?_
  refine n_if2_ge c_18_13 (by omega) (by omega) ?_ ?_
  · intro h1
    exfalso; omega
  · intro h2
    refine n_aload_n c_18_16 rfl ?_
    refine n_getV (bi := 0) c_18_17 sc_4.n rfl rfl rfl (t_4_0 hS) ?_
    intro z3 ez3 f4
    obtain rfl : z3 = 2 := by omega
    refine n_iconst c_18_20 ?_
    refine n_if2_ne c_18_21 (by omega) (by omega) ?_ ?_
    · intro h5
      exfalso; omega
    · intro h6
      refine n_iload_n c_18_24 rfl ?_
      refine n_iconst c_18_25 ?_
      refine n_iremV c_18_26 (by omega) (by omega) ?_
      intro z7 ez7 f8
      have dk0 : z7 = c / 1 % 2 := by rw [ez7, Int.ediv_one]
      refine n_goto c_18_27 ?_
      refine n_istore (L2 := [some (2, 4), some (0, c), some (0, 0), some (0, c), some (0, 0), some (0, 0), some (0, z7)]) c_18_33 rfl rfl ?_
      refine n_aload_n c_18_35 rfl ?_
      refine n_getV (bi := 0) c_18_36 sc_4.n rfl rfl rfl (t_4_0 hS) ?_
      intro z9 ez9 f10
      obtain rfl : z9 = 2 := by omega
      refine n_iconst c_18_39 ?_
      refine n_if2_ne c_18_40 (by omega) (by omega) ?_ ?_
      · intro h11
        exfalso; omega
      · intro h12
        refine n_iload_n c_18_43 rfl ?_
        refine n_iconst c_18_44 ?_
        refine n_idivV c_18_45 (by omega) (by omega) ?_
        intro z13 ez13 f14
        have rk1 : z13 = c / 2 := by rw [ez13]
        refine n_goto c_18_46 ?_
        refine n_istore_n (L2 := [some (2, 4), some (0, c), some (0, 0), some (0, z13), some (0, 0), some (0, 0), some (0, z7)]) c_18_52 rfl rfl ?_
        refine n_iload c_18_53 rfl ?_
        refine n_iload_n c_18_55 rfl ?_
        refine n_if2_lt c_18_56 (by omega) (by omega) ?_ ?_
        · intro h15
          exfalso; omega
        · intro h16
          refine n_iload c_18_59 rfl ?_
          refine n_aload_n c_18_61 rfl ?_
          refine n_getV (bi := 0) c_18_62 sc_4.n rfl rfl rfl (t_4_0 hS) ?_
          intro z17 ez17 f18
          obtain rfl : z17 = 2 := by omega
          refine n_imul c_18_65 rfl ?_
          refine n_iload c_18_66 rfl ?_
          refine n_iadd c_18_68 rfl ?_
          refine n_istore (L2 := [some (2, 4), some (0, c), some (0, 0), some (0, z13), some (0, ((0 * 2) + z7)), some (0, 0), some (0, z7)]) c_18_69 rfl rfl ?_
          refine n_iinc (L2 := [some (2, 4), some (0, c), some (0, 0), some (0, z13), some (0, ((0 * 2) + z7)), some (0, (0 + 1)), some (0, z7)]) c_18_71 rfl rfl rfl ?_
          refine n_goto c_18_74 ?_
          refine n_iload c_18_8 rfl ?_
          refine n_iload_n c_18_10 rfl ?_
          refine n_iconst c_18_11 ?_
          refine n_iadd c_18_12 rfl ?_
          refine n_if2_ge c_18_13 (by omega) (by omega) ?_ ?_
          · intro h19
            exfalso; omega
          · intro h20
            refine n_aload_n c_18_16 rfl ?_
            refine n_getV (bi := 0) c_18_17 sc_4.n rfl rfl rfl (t_4_0 hS) ?_
            intro z21 ez21 f22
            obtain rfl : z21 = 2 := by omega
            refine n_iconst c_18_20 ?_
            refine n_if2_ne c_18_21 (by omega) (by omega) ?_ ?_
            · intro h23
              exfalso; omega
            · intro h24
              refine n_iload_n c_18_24 rfl ?_
              refine n_iconst c_18_25 ?_
              refine n_iremV c_18_26 (by omega) (by omega) ?_
              intro z25 ez25 f26
              have dk1 : z25 = c / 2 % 2 := by rw [ez25, rk1]
              refine n_goto c_18_27 ?_
              refine n_istore (L2 := [some (2, 4), some (0, c), some (0, 0), some (0, z13), some (0, ((0 * 2) + z7)), some (0, (0 + 1)), some (0, z25)]) c_18_33 rfl rfl ?_
              refine n_aload_n c_18_35 rfl ?_
              refine n_getV (bi := 0) c_18_36 sc_4.n rfl rfl rfl (t_4_0 hS) ?_
              intro z27 ez27 f28
              obtain rfl : z27 = 2 := by omega
              refine n_iconst c_18_39 ?_
              refine n_if2_ne c_18_40 (by omega) (by omega) ?_ ?_
              · intro h29
                exfalso; omega
              · intro h30
                refine n_iload_n c_18_43 rfl ?_
                refine n_iconst c_18_44 ?_
                refine n_idivV c_18_45 (by omega) (by omega) ?_
                intro z31 ez31 f32
                have rk2 : z31 = c / 4 := by rw [ez31, rk1]; exact Int.ediv_ediv_of_nonneg (by omega)
                refine n_goto c_18_46 ?_
                refine n_istore_n (L2 := [some (2, 4), some (0, c), some (0, 0), some (0, z31), some (0, ((0 * 2) + z7)), some (0, (0 + 1)), some (0, z25)]) c_18_52 rfl rfl ?_
                refine n_iload c_18_53 rfl ?_
                refine n_iload_n c_18_55 rfl ?_
                refine n_if2_lt c_18_56 (by omega) (by omega) ?_ ?_
                · intro h33
                  exfalso; omega
                · intro h34
                  refine n_iload c_18_59 rfl ?_
                  refine n_aload_n c_18_61 rfl ?_
                  refine n_getV (bi := 0) c_18_62 sc_4.n rfl rfl rfl (t_4_0 hS) ?_
                  intro z35 ez35 f36
                  obtain rfl : z35 = 2 := by omega
                  refine n_imul c_18_65 rfl ?_
                  refine n_iload c_18_66 rfl ?_
                  refine n_iadd c_18_68 rfl ?_
                  refine n_istore (L2 := [some (2, 4), some (0, c), some (0, 0), some (0, z31), some (0, ((((0 * 2) + z7) * 2) + z25)), some (0, (0 + 1)), some (0, z25)]) c_18_69 rfl rfl ?_
                  refine n_iinc (L2 := [some (2, 4), some (0, c), some (0, 0), some (0, z31), some (0, ((((0 * 2) + z7) * 2) + z25)), some (0, ((0 + 1) + 1)), some (0, z25)]) c_18_71 rfl rfl rfl ?_
                  refine n_goto c_18_74 ?_
                  refine n_iload c_18_8 rfl ?_
                  refine n_iload_n c_18_10 rfl ?_
                  refine n_iconst c_18_11 ?_
                  refine n_iadd c_18_12 rfl ?_
                  refine n_if2_ge c_18_13 (by omega) (by omega) ?_ ?_
                  · intro h37
                    exfalso; omega
                  · intro h38
                    refine n_aload_n c_18_16 rfl ?_
                    refine n_getV (bi := 0) c_18_17 sc_4.n rfl rfl rfl (t_4_0 hS) ?_
                    intro z39 ez39 f40
                    obtain rfl : z39 = 2 := by omega
                    refine n_iconst c_18_20 ?_
                    refine n_if2_ne c_18_21 (by omega) (by omega) ?_ ?_
                    · intro h41
                      exfalso; omega
                    · intro h42
                      refine n_iload_n c_18_24 rfl ?_
                      refine n_iconst c_18_25 ?_
                      refine n_iremV c_18_26 (by omega) (by omega) ?_
                      intro z43 ez43 f44
                      have dk2 : z43 = c / 4 % 2 := by rw [ez43, rk2]
                      refine n_goto c_18_27 ?_
                      refine n_istore (L2 := [some (2, 4), some (0, c), some (0, 0), some (0, z31), some (0, ((((0 * 2) + z7) * 2) + z25)), some (0, ((0 + 1) + 1)), some (0, z43)]) c_18_33 rfl rfl ?_
                      refine n_aload_n c_18_35 rfl ?_
                      refine n_getV (bi := 0) c_18_36 sc_4.n rfl rfl rfl (t_4_0 hS) ?_
                      intro z45 ez45 f46
                      obtain rfl : z45 = 2 := by omega
                      refine n_iconst c_18_39 ?_
                      refine n_if2_ne c_18_40 (by omega) (by omega) ?_ ?_
                      · intro h47
                        exfalso; omega
                      · intro h48
                        refine n_iload_n c_18_43 rfl ?_
                        refine n_iconst c_18_44 ?_
                        refine n_idivV c_18_45 (by omega) (by omega) ?_
                        intro z49 ez49 f50
                        have rk3 : z49 = c / 8 := by rw [ez49, rk2]; exact Int.ediv_ediv_of_nonneg (by omega)
                        refine n_goto c_18_46 ?_
                        refine n_istore_n (L2 := [some (2, 4), some (0, c), some (0, 0), some (0, z49), some (0, ((((0 * 2) + z7) * 2) + z25)), some (0, ((0 + 1) + 1)), some (0, z43)]) c_18_52 rfl rfl ?_
                        refine n_iload c_18_53 rfl ?_
                        refine n_iload_n c_18_55 rfl ?_
                        refine n_if2_lt c_18_56 (by omega) (by omega) ?_ ?_
                        · intro h51
                          exfalso; omega
                        · intro h52
                          refine n_iload c_18_59 rfl ?_
                          refine n_aload_n c_18_61 rfl ?_
                          refine n_getV (bi := 0) c_18_62 sc_4.n rfl rfl rfl (t_4_0 hS) ?_
                          intro z53 ez53 f54
                          obtain rfl : z53 = 2 := by omega
                          refine n_imul c_18_65 rfl ?_
                          refine n_iload c_18_66 rfl ?_
                          refine n_iadd c_18_68 rfl ?_
                          refine n_istore (L2 := [some (2, 4), some (0, c), some (0, 0), some (0, z49), some (0, ((((((0 * 2) + z7) * 2) + z25) * 2) + z43)), some (0, ((0 + 1) + 1)), some (0, z43)]) c_18_69 rfl rfl ?_
                          refine n_iinc (L2 := [some (2, 4), some (0, c), some (0, 0), some (0, z49), some (0, ((((((0 * 2) + z7) * 2) + z25) * 2) + z43)), some (0, (((0 + 1) + 1) + 1)), some (0, z43)]) c_18_71 rfl rfl rfl ?_
                          refine n_goto c_18_74 ?_
                          refine n_iload c_18_8 rfl ?_
                          refine n_iload_n c_18_10 rfl ?_
                          refine n_iconst c_18_11 ?_
                          refine n_iadd c_18_12 rfl ?_
                          refine n_if2_ge c_18_13 (by omega) (by omega) ?_ ?_
                          · intro h55
                            refine n_iload c_18_77 rfl ?_
                            exact n_rI c_18_79 rfl ⟨rfl, by omega, by have e : t3 2 c 0 = ((c / 1 % 2) * 2 + c / 2 % 2) * 2 + c / 4 % 2 := rfl; rw [e, ← dk0, ← dk1, ← dk2]; omega⟩
                          · intro h56
                            exfalso; omega

set_option maxHeartbeats 4000000 in
theorem threeOfX3_2 {xs : List Int32} {e : Nat} {ac : Int} {M0 M : nM} {c : Int} (hS : Sf 2 ac M0 M) (hc : 0 ≤ c ∧ c ≤ 511) : nW xs e 18 0 [some (2, 4), some (0, c), some (0, 3), none, none, none, none] [] M (nPI fun z M1 => M = M1 ∧ (0 ≤ z ∧ z ≤ 7) ∧ (z = t3 2 c 3)) := by
  have hd : (2 : Int) = 2 ∨ (2 : Int) = 3 := by decide
  have hac := hS.2.2.2.2
  refine n_iload_n c_18_0 rfl ?_
  refine n_istore_n (L2 := [some (2, 4), some (0, c), some (0, 3), some (0, c), none, none, none]) c_18_1 rfl rfl ?_
  refine n_iconst c_18_2 ?_
  refine n_istore (L2 := [some (2, 4), some (0, c), some (0, 3), some (0, c), some (0, 0), none, none]) c_18_3 rfl rfl ?_
  refine n_iconst c_18_5 ?_
  refine n_istore (L2 := [some (2, 4), some (0, c), some (0, 3), some (0, c), some (0, 0), some (0, 0), none]) c_18_6 rfl rfl ?_
  refine n_iload c_18_8 rfl ?_
  refine n_iload_n c_18_10 rfl ?_
  refine n_iconst c_18_11 ?_
  refine n_iadd c_18_12 rfl ?_
  refine n_if2_ge c_18_13 (by omega) (by omega) ?_ ?_
  · intro h1
    exfalso; omega
  · intro h2
    refine n_aload_n c_18_16 rfl ?_
    refine n_getV (bi := 0) c_18_17 sc_4.n rfl rfl rfl (t_4_0 hS) ?_
    intro z3 ez3 f4
    obtain rfl : z3 = 2 := by omega
    refine n_iconst c_18_20 ?_
    refine n_if2_ne c_18_21 (by omega) (by omega) ?_ ?_
    · intro h5
      exfalso; omega
    · intro h6
      refine n_iload_n c_18_24 rfl ?_
      refine n_iconst c_18_25 ?_
      refine n_iremV c_18_26 (by omega) (by omega) ?_
      intro z7 ez7 f8
      have dk0 : z7 = c / 1 % 2 := by rw [ez7, Int.ediv_one]
      refine n_goto c_18_27 ?_
      refine n_istore (L2 := [some (2, 4), some (0, c), some (0, 3), some (0, c), some (0, 0), some (0, 0), some (0, z7)]) c_18_33 rfl rfl ?_
      refine n_aload_n c_18_35 rfl ?_
      refine n_getV (bi := 0) c_18_36 sc_4.n rfl rfl rfl (t_4_0 hS) ?_
      intro z9 ez9 f10
      obtain rfl : z9 = 2 := by omega
      refine n_iconst c_18_39 ?_
      refine n_if2_ne c_18_40 (by omega) (by omega) ?_ ?_
      · intro h11
        exfalso; omega
      · intro h12
        refine n_iload_n c_18_43 rfl ?_
        refine n_iconst c_18_44 ?_
        refine n_idivV c_18_45 (by omega) (by omega) ?_
        intro z13 ez13 f14
        have rk1 : z13 = c / 2 := by rw [ez13]
        refine n_goto c_18_46 ?_
        refine n_istore_n (L2 := [some (2, 4), some (0, c), some (0, 3), some (0, z13), some (0, 0), some (0, 0), some (0, z7)]) c_18_52 rfl rfl ?_
        refine n_iload c_18_53 rfl ?_
        refine n_iload_n c_18_55 rfl ?_
        refine n_if2_lt c_18_56 (by omega) (by omega) ?_ ?_
        · intro h15
          refine n_iinc (L2 := [some (2, 4), some (0, c), some (0, 3), some (0, z13), some (0, 0), some (0, (0 + 1)), some (0, z7)]) c_18_71 rfl rfl rfl ?_
          refine n_goto c_18_74 ?_
          refine n_iload c_18_8 rfl ?_
          refine n_iload_n c_18_10 rfl ?_
          refine n_iconst c_18_11 ?_
          refine n_iadd c_18_12 rfl ?_
          refine n_if2_ge c_18_13 (by omega) (by omega) ?_ ?_
          · intro h16
            exfalso; omega
          · intro h17
            refine n_aload_n c_18_16 rfl ?_
            refine n_getV (bi := 0) c_18_17 sc_4.n rfl rfl rfl (t_4_0 hS) ?_
            intro z18 ez18 f19
            obtain rfl : z18 = 2 := by omega
            refine n_iconst c_18_20 ?_
            refine n_if2_ne c_18_21 (by omega) (by omega) ?_ ?_
            · intro h20
              exfalso; omega
            · intro h21
              refine n_iload_n c_18_24 rfl ?_
              refine n_iconst c_18_25 ?_
              refine n_iremV c_18_26 (by omega) (by omega) ?_
              intro z22 ez22 f23
              have dk1 : z22 = c / 2 % 2 := by rw [ez22, rk1]
              refine n_goto c_18_27 ?_
              refine n_istore (L2 := [some (2, 4), some (0, c), some (0, 3), some (0, z13), some (0, 0), some (0, (0 + 1)), some (0, z22)]) c_18_33 rfl rfl ?_
              refine n_aload_n c_18_35 rfl ?_
              refine n_getV (bi := 0) c_18_36 sc_4.n rfl rfl rfl (t_4_0 hS) ?_
              intro z24 ez24 f25
              obtain rfl : z24 = 2 := by omega
              refine n_iconst c_18_39 ?_
              refine n_if2_ne c_18_40 (by omega) (by omega) ?_ ?_
              · intro h26
                exfalso; omega
              · intro h27
                refine n_iload_n c_18_43 rfl ?_
                refine n_iconst c_18_44 ?_
                refine n_idivV c_18_45 (by omega) (by omega) ?_
                intro z28 ez28 f29
                have rk2 : z28 = c / 4 := by rw [ez28, rk1]; exact Int.ediv_ediv_of_nonneg (by omega)
                refine n_goto c_18_46 ?_
                refine n_istore_n (L2 := [some (2, 4), some (0, c), some (0, 3), some (0, z28), some (0, 0), some (0, (0 + 1)), some (0, z22)]) c_18_52 rfl rfl ?_
                refine n_iload c_18_53 rfl ?_
                refine n_iload_n c_18_55 rfl ?_
                refine n_if2_lt c_18_56 (by omega) (by omega) ?_ ?_
                · intro h30
                  refine n_iinc (L2 := [some (2, 4), some (0, c), some (0, 3), some (0, z28), some (0, 0), some (0, ((0 + 1) + 1)), some (0, z22)]) c_18_71 rfl rfl rfl ?_
                  refine n_goto c_18_74 ?_
                  refine n_iload c_18_8 rfl ?_
                  refine n_iload_n c_18_10 rfl ?_
                  refine n_iconst c_18_11 ?_
                  refine n_iadd c_18_12 rfl ?_
                  refine n_if2_ge c_18_13 (by omega) (by omega) ?_ ?_
                  · intro h31
                    exfalso; omega
                  · intro h32
                    refine n_aload_n c_18_16 rfl ?_
                    refine n_getV (bi := 0) c_18_17 sc_4.n rfl rfl rfl (t_4_0 hS) ?_
                    intro z33 ez33 f34
                    obtain rfl : z33 = 2 := by omega
                    refine n_iconst c_18_20 ?_
                    refine n_if2_ne c_18_21 (by omega) (by omega) ?_ ?_
                    · intro h35
                      exfalso; omega
                    · intro h36
                      refine n_iload_n c_18_24 rfl ?_
                      refine n_iconst c_18_25 ?_
                      refine n_iremV c_18_26 (by omega) (by omega) ?_
                      intro z37 ez37 f38
                      have dk2 : z37 = c / 4 % 2 := by rw [ez37, rk2]
                      refine n_goto c_18_27 ?_
                      refine n_istore (L2 := [some (2, 4), some (0, c), some (0, 3), some (0, z28), some (0, 0), some (0, ((0 + 1) + 1)), some (0, z37)]) c_18_33 rfl rfl ?_
                      refine n_aload_n c_18_35 rfl ?_
                      refine n_getV (bi := 0) c_18_36 sc_4.n rfl rfl rfl (t_4_0 hS) ?_
                      intro z39 ez39 f40
                      obtain rfl : z39 = 2 := by omega
                      refine n_iconst c_18_39 ?_
                      refine n_if2_ne c_18_40 (by omega) (by omega) ?_ ?_
                      · intro h41
                        exfalso; omega
                      · intro h42
                        refine n_iload_n c_18_43 rfl ?_
                        refine n_iconst c_18_44 ?_
                        refine n_idivV c_18_45 (by omega) (by omega) ?_
                        intro z43 ez43 f44
                        have rk3 : z43 = c / 8 := by rw [ez43, rk2]; exact Int.ediv_ediv_of_nonneg (by omega)
                        refine n_goto c_18_46 ?_
                        refine n_istore_n (L2 := [some (2, 4), some (0, c), some (0, 3), some (0, z43), some (0, 0), some (0, ((0 + 1) + 1)), some (0, z37)]) c_18_52 rfl rfl ?_
                        refine n_iload c_18_53 rfl ?_
                        refine n_iload_n c_18_55 rfl ?_
                        refine n_if2_lt c_18_56 (by omega) (by omega) ?_ ?_
                        · intro h45
                          refine n_iinc (L2 := [some (2, 4), some (0, c), some (0, 3), some (0, z43), some (0, 0), some (0, (((0 + 1) + 1) + 1)), some (0, z37)]) c_18_71 rfl rfl rfl ?_
                          refine n_goto c_18_74 ?_
                          refine n_iload c_18_8 rfl ?_
                          refine n_iload_n c_18_10 rfl ?_
                          refine n_iconst c_18_11 ?_
                          refine n_iadd c_18_12 rfl ?_
                          refine n_if2_ge c_18_13 (by omega) (by omega) ?_ ?_
                          · intro h46
                            exfalso; omega
                          · intro h47
                            refine n_aload_n c_18_16 rfl ?_
                            refine n_getV (bi := 0) c_18_17 sc_4.n rfl rfl rfl (t_4_0 hS) ?_
                            intro z48 ez48 f49
                            obtain rfl : z48 = 2 := by omega
                            refine n_iconst c_18_20 ?_
                            refine n_if2_ne c_18_21 (by omega) (by omega) ?_ ?_
                            · intro h50
                              exfalso; omega
                            · intro h51
                              refine n_iload_n c_18_24 rfl ?_
                              refine n_iconst c_18_25 ?_
                              refine n_iremV c_18_26 (by omega) (by omega) ?_
                              intro z52 ez52 f53
                              have dk3 : z52 = c / 8 % 2 := by rw [ez52, rk3]
                              refine n_goto c_18_27 ?_
                              refine n_istore (L2 := [some (2, 4), some (0, c), some (0, 3), some (0, z43), some (0, 0), some (0, (((0 + 1) + 1) + 1)), some (0, z52)]) c_18_33 rfl rfl ?_
                              refine n_aload_n c_18_35 rfl ?_
                              refine n_getV (bi := 0) c_18_36 sc_4.n rfl rfl rfl (t_4_0 hS) ?_
                              intro z54 ez54 f55
                              obtain rfl : z54 = 2 := by omega
                              refine n_iconst c_18_39 ?_
                              refine n_if2_ne c_18_40 (by omega) (by omega) ?_ ?_
                              · intro h56
                                exfalso; omega
                              · intro h57
                                refine n_iload_n c_18_43 rfl ?_
                                refine n_iconst c_18_44 ?_
                                refine n_idivV c_18_45 (by omega) (by omega) ?_
                                intro z58 ez58 f59
                                have rk4 : z58 = c / 16 := by rw [ez58, rk3]; exact Int.ediv_ediv_of_nonneg (by omega)
                                refine n_goto c_18_46 ?_
                                refine n_istore_n (L2 := [some (2, 4), some (0, c), some (0, 3), some (0, z58), some (0, 0), some (0, (((0 + 1) + 1) + 1)), some (0, z52)]) c_18_52 rfl rfl ?_
                                refine n_iload c_18_53 rfl ?_
                                refine n_iload_n c_18_55 rfl ?_
                                refine n_if2_lt c_18_56 (by omega) (by omega) ?_ ?_
                                · intro h60
                                  exfalso; omega
                                · intro h61
                                  refine n_iload c_18_59 rfl ?_
                                  refine n_aload_n c_18_61 rfl ?_
                                  refine n_getV (bi := 0) c_18_62 sc_4.n rfl rfl rfl (t_4_0 hS) ?_
                                  intro z62 ez62 f63
                                  obtain rfl : z62 = 2 := by omega
                                  refine n_imul c_18_65 rfl ?_
                                  refine n_iload c_18_66 rfl ?_
                                  refine n_iadd c_18_68 rfl ?_
                                  refine n_istore (L2 := [some (2, 4), some (0, c), some (0, 3), some (0, z58), some (0, ((0 * 2) + z52)), some (0, (((0 + 1) + 1) + 1)), some (0, z52)]) c_18_69 rfl rfl ?_
                                  refine n_iinc (L2 := [some (2, 4), some (0, c), some (0, 3), some (0, z58), some (0, ((0 * 2) + z52)), some (0, ((((0 + 1) + 1) + 1) + 1)), some (0, z52)]) c_18_71 rfl rfl rfl ?_
                                  refine n_goto c_18_74 ?_
                                  refine n_iload c_18_8 rfl ?_
                                  refine n_iload_n c_18_10 rfl ?_
                                  refine n_iconst c_18_11 ?_
                                  refine n_iadd c_18_12 rfl ?_
                                  refine n_if2_ge c_18_13 (by omega) (by omega) ?_ ?_
                                  · intro h64
                                    exfalso; omega
                                  · intro h65
                                    refine n_aload_n c_18_16 rfl ?_
                                    refine n_getV (bi := 0) c_18_17 sc_4.n rfl rfl rfl (t_4_0 hS) ?_
                                    intro z66 ez66 f67
                                    obtain rfl : z66 = 2 := by omega
                                    refine n_iconst c_18_20 ?_
                                    refine n_if2_ne c_18_21 (by omega) (by omega) ?_ ?_
                                    · intro h68
                                      exfalso; omega
                                    · intro h69
                                      refine n_iload_n c_18_24 rfl ?_
                                      refine n_iconst c_18_25 ?_
                                      refine n_iremV c_18_26 (by omega) (by omega) ?_
                                      intro z70 ez70 f71
                                      have dk4 : z70 = c / 16 % 2 := by rw [ez70, rk4]
                                      refine n_goto c_18_27 ?_
                                      refine n_istore (L2 := [some (2, 4), some (0, c), some (0, 3), some (0, z58), some (0, ((0 * 2) + z52)), some (0, ((((0 + 1) + 1) + 1) + 1)), some (0, z70)]) c_18_33 rfl rfl ?_
                                      refine n_aload_n c_18_35 rfl ?_
                                      refine n_getV (bi := 0) c_18_36 sc_4.n rfl rfl rfl (t_4_0 hS) ?_
                                      intro z72 ez72 f73
                                      obtain rfl : z72 = 2 := by omega
                                      refine n_iconst c_18_39 ?_
                                      refine n_if2_ne c_18_40 (by omega) (by omega) ?_ ?_
                                      · intro h74
                                        exfalso; omega
                                      · intro h75
                                        refine n_iload_n c_18_43 rfl ?_
                                        refine n_iconst c_18_44 ?_
                                        refine n_idivV c_18_45 (by omega) (by omega) ?_
                                        intro z76 ez76 f77
                                        have rk5 : z76 = c / 32 := by rw [ez76, rk4]; exact Int.ediv_ediv_of_nonneg (by omega)
                                        refine n_goto c_18_46 ?_
                                        refine n_istore_n (L2 := [some (2, 4), some (0, c), some (0, 3), some (0, z76), some (0, ((0 * 2) + z52)), some (0, ((((0 + 1) + 1) + 1) + 1)), some (0, z70)]) c_18_52 rfl rfl ?_
                                        refine n_iload c_18_53 rfl ?_
                                        refine n_iload_n c_18_55 rfl ?_
                                        refine n_if2_lt c_18_56 (by omega) (by omega) ?_ ?_
                                        · intro h78
                                          exfalso; omega
                                        · intro h79
                                          refine n_iload c_18_59 rfl ?_
                                          refine n_aload_n c_18_61 rfl ?_
                                          refine n_getV (bi := 0) c_18_62 sc_4.n rfl rfl rfl (t_4_0 hS) ?_
                                          intro z80 ez80 f81
                                          obtain rfl : z80 = 2 := by omega
                                          refine n_imul c_18_65 rfl ?_
                                          refine n_iload c_18_66 rfl ?_
                                          refine n_iadd c_18_68 rfl ?_
                                          refine n_istore (L2 := [some (2, 4), some (0, c), some (0, 3), some (0, z76), some (0, ((((0 * 2) + z52) * 2) + z70)), some (0, ((((0 + 1) + 1) + 1) + 1)), some (0, z70)]) c_18_69 rfl rfl ?_
                                          refine n_iinc (L2 := [some (2, 4), some (0, c), some (0, 3), some (0, z76), some (0, ((((0 * 2) + z52) * 2) + z70)), some (0, (((((0 + 1) + 1) + 1) + 1) + 1)), some (0, z70)]) c_18_71 rfl rfl rfl ?_
                                          refine n_goto c_18_74 ?_
                                          refine n_iload c_18_8 rfl ?_
                                          refine n_iload_n c_18_10 rfl ?_
                                          refine n_iconst c_18_11 ?_
                                          refine n_iadd c_18_12 rfl ?_
                                          refine n_if2_ge c_18_13 (by omega) (by omega) ?_ ?_
                                          · intro h82
                                            exfalso; omega
                                          · intro h83
                                            refine n_aload_n c_18_16 rfl ?_
                                            refine n_getV (bi := 0) c_18_17 sc_4.n rfl rfl rfl (t_4_0 hS) ?_
                                            intro z84 ez84 f85
                                            obtain rfl : z84 = 2 := by omega
                                            refine n_iconst c_18_20 ?_
                                            refine n_if2_ne c_18_21 (by omega) (by omega) ?_ ?_
                                            · intro h86
                                              exfalso; omega
                                            · intro h87
                                              refine n_iload_n c_18_24 rfl ?_
                                              refine n_iconst c_18_25 ?_
                                              refine n_iremV c_18_26 (by omega) (by omega) ?_
                                              intro z88 ez88 f89
                                              have dk5 : z88 = c / 32 % 2 := by rw [ez88, rk5]
                                              refine n_goto c_18_27 ?_
                                              refine n_istore (L2 := [some (2, 4), some (0, c), some (0, 3), some (0, z76), some (0, ((((0 * 2) + z52) * 2) + z70)), some (0, (((((0 + 1) + 1) + 1) + 1) + 1)), some (0, z88)]) c_18_33 rfl rfl ?_
                                              refine n_aload_n c_18_35 rfl ?_
                                              refine n_getV (bi := 0) c_18_36 sc_4.n rfl rfl rfl (t_4_0 hS) ?_
                                              intro z90 ez90 f91
                                              obtain rfl : z90 = 2 := by omega
                                              refine n_iconst c_18_39 ?_
                                              refine n_if2_ne c_18_40 (by omega) (by omega) ?_ ?_
                                              · intro h92
                                                exfalso; omega
                                              · intro h93
                                                refine n_iload_n c_18_43 rfl ?_
                                                refine n_iconst c_18_44 ?_
                                                refine n_idivV c_18_45 (by omega) (by omega) ?_
                                                intro z94 ez94 f95
                                                have rk6 : z94 = c / 64 := by rw [ez94, rk5]; exact Int.ediv_ediv_of_nonneg (by omega)
                                                refine n_goto c_18_46 ?_
                                                refine n_istore_n (L2 := [some (2, 4), some (0, c), some (0, 3), some (0, z94), some (0, ((((0 * 2) + z52) * 2) + z70)), some (0, (((((0 + 1) + 1) + 1) + 1) + 1)), some (0, z88)]) c_18_52 rfl rfl ?_
                                                refine n_iload c_18_53 rfl ?_
                                                refine n_iload_n c_18_55 rfl ?_
                                                refine n_if2_lt c_18_56 (by omega) (by omega) ?_ ?_
                                                · intro h96
                                                  exfalso; omega
                                                · intro h97
                                                  refine n_iload c_18_59 rfl ?_
                                                  refine n_aload_n c_18_61 rfl ?_
                                                  refine n_getV (bi := 0) c_18_62 sc_4.n rfl rfl rfl (t_4_0 hS) ?_
                                                  intro z98 ez98 f99
                                                  obtain rfl : z98 = 2 := by omega
                                                  refine n_imul c_18_65 rfl ?_
                                                  refine n_iload c_18_66 rfl ?_
                                                  refine n_iadd c_18_68 rfl ?_
                                                  refine n_istore (L2 := [some (2, 4), some (0, c), some (0, 3), some (0, z94), some (0, ((((((0 * 2) + z52) * 2) + z70) * 2) + z88)), some (0, (((((0 + 1) + 1) + 1) + 1) + 1)), some (0, z88)]) c_18_69 rfl rfl ?_
                                                  refine n_iinc (L2 := [some (2, 4), some (0, c), some (0, 3), some (0, z94), some (0, ((((((0 * 2) + z52) * 2) + z70) * 2) + z88)), some (0, ((((((0 + 1) + 1) + 1) + 1) + 1) + 1)), some (0, z88)]) c_18_71 rfl rfl rfl ?_
                                                  refine n_goto c_18_74 ?_
                                                  refine n_iload c_18_8 rfl ?_
                                                  refine n_iload_n c_18_10 rfl ?_
                                                  refine n_iconst c_18_11 ?_
                                                  refine n_iadd c_18_12 rfl ?_
                                                  refine n_if2_ge c_18_13 (by omega) (by omega) ?_ ?_
                                                  · intro h100
                                                    refine n_iload c_18_77 rfl ?_
                                                    exact n_rI c_18_79 rfl ⟨rfl, by omega, by have e : t3 2 c 3 = ((c / 8 % 2) * 2 + c / 16 % 2) * 2 + c / 32 % 2 := rfl; rw [e, ← dk3, ← dk4, ← dk5]; omega⟩
                                                  · intro h101
                                                    exfalso; omega
                        · intro h102
                          exfalso; omega
                · intro h103
                  exfalso; omega
        · intro h104
          exfalso; omega

set_option maxHeartbeats 4000000 in
theorem threeOfX6_2 {xs : List Int32} {e : Nat} {ac : Int} {M0 M : nM} {c : Int} (hS : Sf 2 ac M0 M) (hc : 0 ≤ c ∧ c ≤ 511) : nW xs e 18 0 [some (2, 4), some (0, c), some (0, 6), none, none, none, none] [] M (nPI fun z M1 => M = M1 ∧ (0 ≤ z ∧ z ≤ 7) ∧ (z = t3 2 c 6)) := by
  have hd : (2 : Int) = 2 ∨ (2 : Int) = 3 := by decide
  have hac := hS.2.2.2.2
  refine n_iload_n c_18_0 rfl ?_
  refine n_istore_n (L2 := [some (2, 4), some (0, c), some (0, 6), some (0, c), none, none, none]) c_18_1 rfl rfl ?_
  refine n_iconst c_18_2 ?_
  refine n_istore (L2 := [some (2, 4), some (0, c), some (0, 6), some (0, c), some (0, 0), none, none]) c_18_3 rfl rfl ?_
  refine n_iconst c_18_5 ?_
  refine n_istore (L2 := [some (2, 4), some (0, c), some (0, 6), some (0, c), some (0, 0), some (0, 0), none]) c_18_6 rfl rfl ?_
  refine n_iload c_18_8 rfl ?_
  refine n_iload_n c_18_10 rfl ?_
  refine n_iconst c_18_11 ?_
  refine n_iadd c_18_12 rfl ?_
  refine n_if2_ge c_18_13 (by omega) (by omega) ?_ ?_
  · intro h1
    exfalso; omega
  · intro h2
    refine n_aload_n c_18_16 rfl ?_
    refine n_getV (bi := 0) c_18_17 sc_4.n rfl rfl rfl (t_4_0 hS) ?_
    intro z3 ez3 f4
    obtain rfl : z3 = 2 := by omega
    refine n_iconst c_18_20 ?_
    refine n_if2_ne c_18_21 (by omega) (by omega) ?_ ?_
    · intro h5
      exfalso; omega
    · intro h6
      refine n_iload_n c_18_24 rfl ?_
      refine n_iconst c_18_25 ?_
      refine n_iremV c_18_26 (by omega) (by omega) ?_
      intro z7 ez7 f8
      have dk0 : z7 = c / 1 % 2 := by rw [ez7, Int.ediv_one]
      refine n_goto c_18_27 ?_
      refine n_istore (L2 := [some (2, 4), some (0, c), some (0, 6), some (0, c), some (0, 0), some (0, 0), some (0, z7)]) c_18_33 rfl rfl ?_
      refine n_aload_n c_18_35 rfl ?_
      refine n_getV (bi := 0) c_18_36 sc_4.n rfl rfl rfl (t_4_0 hS) ?_
      intro z9 ez9 f10
      obtain rfl : z9 = 2 := by omega
      refine n_iconst c_18_39 ?_
      refine n_if2_ne c_18_40 (by omega) (by omega) ?_ ?_
      · intro h11
        exfalso; omega
      · intro h12
        refine n_iload_n c_18_43 rfl ?_
        refine n_iconst c_18_44 ?_
        refine n_idivV c_18_45 (by omega) (by omega) ?_
        intro z13 ez13 f14
        have rk1 : z13 = c / 2 := by rw [ez13]
        refine n_goto c_18_46 ?_
        refine n_istore_n (L2 := [some (2, 4), some (0, c), some (0, 6), some (0, z13), some (0, 0), some (0, 0), some (0, z7)]) c_18_52 rfl rfl ?_
        refine n_iload c_18_53 rfl ?_
        refine n_iload_n c_18_55 rfl ?_
        refine n_if2_lt c_18_56 (by omega) (by omega) ?_ ?_
        · intro h15
          refine n_iinc (L2 := [some (2, 4), some (0, c), some (0, 6), some (0, z13), some (0, 0), some (0, (0 + 1)), some (0, z7)]) c_18_71 rfl rfl rfl ?_
          refine n_goto c_18_74 ?_
          refine n_iload c_18_8 rfl ?_
          refine n_iload_n c_18_10 rfl ?_
          refine n_iconst c_18_11 ?_
          refine n_iadd c_18_12 rfl ?_
          refine n_if2_ge c_18_13 (by omega) (by omega) ?_ ?_
          · intro h16
            exfalso; omega
          · intro h17
            refine n_aload_n c_18_16 rfl ?_
            refine n_getV (bi := 0) c_18_17 sc_4.n rfl rfl rfl (t_4_0 hS) ?_
            intro z18 ez18 f19
            obtain rfl : z18 = 2 := by omega
            refine n_iconst c_18_20 ?_
            refine n_if2_ne c_18_21 (by omega) (by omega) ?_ ?_
            · intro h20
              exfalso; omega
            · intro h21
              refine n_iload_n c_18_24 rfl ?_
              refine n_iconst c_18_25 ?_
              refine n_iremV c_18_26 (by omega) (by omega) ?_
              intro z22 ez22 f23
              have dk1 : z22 = c / 2 % 2 := by rw [ez22, rk1]
              refine n_goto c_18_27 ?_
              refine n_istore (L2 := [some (2, 4), some (0, c), some (0, 6), some (0, z13), some (0, 0), some (0, (0 + 1)), some (0, z22)]) c_18_33 rfl rfl ?_
              refine n_aload_n c_18_35 rfl ?_
              refine n_getV (bi := 0) c_18_36 sc_4.n rfl rfl rfl (t_4_0 hS) ?_
              intro z24 ez24 f25
              obtain rfl : z24 = 2 := by omega
              refine n_iconst c_18_39 ?_
              refine n_if2_ne c_18_40 (by omega) (by omega) ?_ ?_
              · intro h26
                exfalso; omega
              · intro h27
                refine n_iload_n c_18_43 rfl ?_
                refine n_iconst c_18_44 ?_
                refine n_idivV c_18_45 (by omega) (by omega) ?_
                intro z28 ez28 f29
                have rk2 : z28 = c / 4 := by rw [ez28, rk1]; exact Int.ediv_ediv_of_nonneg (by omega)
                refine n_goto c_18_46 ?_
                refine n_istore_n (L2 := [some (2, 4), some (0, c), some (0, 6), some (0, z28), some (0, 0), some (0, (0 + 1)), some (0, z22)]) c_18_52 rfl rfl ?_
                refine n_iload c_18_53 rfl ?_
                refine n_iload_n c_18_55 rfl ?_
                refine n_if2_lt c_18_56 (by omega) (by omega) ?_ ?_
                · intro h30
                  refine n_iinc (L2 := [some (2, 4), some (0, c), some (0, 6), some (0, z28), some (0, 0), some (0, ((0 + 1) + 1)), some (0, z22)]) c_18_71 rfl rfl rfl ?_
                  refine n_goto c_18_74 ?_
                  refine n_iload c_18_8 rfl ?_
                  refine n_iload_n c_18_10 rfl ?_
                  refine n_iconst c_18_11 ?_
                  refine n_iadd c_18_12 rfl ?_
                  refine n_if2_ge c_18_13 (by omega) (by omega) ?_ ?_
                  · intro h31
                    exfalso; omega
                  · intro h32
                    refine n_aload_n c_18_16 rfl ?_
                    refine n_getV (bi := 0) c_18_17 sc_4.n rfl rfl rfl (t_4_0 hS) ?_
                    intro z33 ez33 f34
                    obtain rfl : z33 = 2 := by omega
                    refine n_iconst c_18_20 ?_
                    refine n_if2_ne c_18_21 (by omega) (by omega) ?_ ?_
                    · intro h35
                      exfalso; omega
                    · intro h36
                      refine n_iload_n c_18_24 rfl ?_
                      refine n_iconst c_18_25 ?_
                      refine n_iremV c_18_26 (by omega) (by omega) ?_
                      intro z37 ez37 f38
                      have dk2 : z37 = c / 4 % 2 := by rw [ez37, rk2]
                      refine n_goto c_18_27 ?_
                      refine n_istore (L2 := [some (2, 4), some (0, c), some (0, 6), some (0, z28), some (0, 0), some (0, ((0 + 1) + 1)), some (0, z37)]) c_18_33 rfl rfl ?_
                      refine n_aload_n c_18_35 rfl ?_
                      refine n_getV (bi := 0) c_18_36 sc_4.n rfl rfl rfl (t_4_0 hS) ?_
                      intro z39 ez39 f40
                      obtain rfl : z39 = 2 := by omega
                      refine n_iconst c_18_39 ?_
                      refine n_if2_ne c_18_40 (by omega) (by omega) ?_ ?_
                      · intro h41
                        exfalso; omega
                      · intro h42
                        refine n_iload_n c_18_43 rfl ?_
                        refine n_iconst c_18_44 ?_
                        refine n_idivV c_18_45 (by omega) (by omega) ?_
                        intro z43 ez43 f44
                        have rk3 : z43 = c / 8 := by rw [ez43, rk2]; exact Int.ediv_ediv_of_nonneg (by omega)
                        refine n_goto c_18_46 ?_
                        refine n_istore_n (L2 := [some (2, 4), some (0, c), some (0, 6), some (0, z43), some (0, 0), some (0, ((0 + 1) + 1)), some (0, z37)]) c_18_52 rfl rfl ?_
                        refine n_iload c_18_53 rfl ?_
                        refine n_iload_n c_18_55 rfl ?_
                        refine n_if2_lt c_18_56 (by omega) (by omega) ?_ ?_
                        · intro h45
                          refine n_iinc (L2 := [some (2, 4), some (0, c), some (0, 6), some (0, z43), some (0, 0), some (0, (((0 + 1) + 1) + 1)), some (0, z37)]) c_18_71 rfl rfl rfl ?_
                          refine n_goto c_18_74 ?_
                          refine n_iload c_18_8 rfl ?_
                          refine n_iload_n c_18_10 rfl ?_
                          refine n_iconst c_18_11 ?_
                          refine n_iadd c_18_12 rfl ?_
                          refine n_if2_ge c_18_13 (by omega) (by omega) ?_ ?_
                          · intro h46
                            exfalso; omega
                          · intro h47
                            refine n_aload_n c_18_16 rfl ?_
                            refine n_getV (bi := 0) c_18_17 sc_4.n rfl rfl rfl (t_4_0 hS) ?_
                            intro z48 ez48 f49
                            obtain rfl : z48 = 2 := by omega
                            refine n_iconst c_18_20 ?_
                            refine n_if2_ne c_18_21 (by omega) (by omega) ?_ ?_
                            · intro h50
                              exfalso; omega
                            · intro h51
                              refine n_iload_n c_18_24 rfl ?_
                              refine n_iconst c_18_25 ?_
                              refine n_iremV c_18_26 (by omega) (by omega) ?_
                              intro z52 ez52 f53
                              have dk3 : z52 = c / 8 % 2 := by rw [ez52, rk3]
                              refine n_goto c_18_27 ?_
                              refine n_istore (L2 := [some (2, 4), some (0, c), some (0, 6), some (0, z43), some (0, 0), some (0, (((0 + 1) + 1) + 1)), some (0, z52)]) c_18_33 rfl rfl ?_
                              refine n_aload_n c_18_35 rfl ?_
                              refine n_getV (bi := 0) c_18_36 sc_4.n rfl rfl rfl (t_4_0 hS) ?_
                              intro z54 ez54 f55
                              obtain rfl : z54 = 2 := by omega
                              refine n_iconst c_18_39 ?_
                              refine n_if2_ne c_18_40 (by omega) (by omega) ?_ ?_
                              · intro h56
                                exfalso; omega
                              · intro h57
                                refine n_iload_n c_18_43 rfl ?_
                                refine n_iconst c_18_44 ?_
                                refine n_idivV c_18_45 (by omega) (by omega) ?_
                                intro z58 ez58 f59
                                have rk4 : z58 = c / 16 := by rw [ez58, rk3]; exact Int.ediv_ediv_of_nonneg (by omega)
                                refine n_goto c_18_46 ?_
                                refine n_istore_n (L2 := [some (2, 4), some (0, c), some (0, 6), some (0, z58), some (0, 0), some (0, (((0 + 1) + 1) + 1)), some (0, z52)]) c_18_52 rfl rfl ?_
                                refine n_iload c_18_53 rfl ?_
                                refine n_iload_n c_18_55 rfl ?_
                                refine n_if2_lt c_18_56 (by omega) (by omega) ?_ ?_
                                · intro h60
                                  refine n_iinc (L2 := [some (2, 4), some (0, c), some (0, 6), some (0, z58), some (0, 0), some (0, ((((0 + 1) + 1) + 1) + 1)), some (0, z52)]) c_18_71 rfl rfl rfl ?_
                                  refine n_goto c_18_74 ?_
                                  refine n_iload c_18_8 rfl ?_
                                  refine n_iload_n c_18_10 rfl ?_
                                  refine n_iconst c_18_11 ?_
                                  refine n_iadd c_18_12 rfl ?_
                                  refine n_if2_ge c_18_13 (by omega) (by omega) ?_ ?_
                                  · intro h61
                                    exfalso; omega
                                  · intro h62
                                    refine n_aload_n c_18_16 rfl ?_
                                    refine n_getV (bi := 0) c_18_17 sc_4.n rfl rfl rfl (t_4_0 hS) ?_
                                    intro z63 ez63 f64
                                    obtain rfl : z63 = 2 := by omega
                                    refine n_iconst c_18_20 ?_
                                    refine n_if2_ne c_18_21 (by omega) (by omega) ?_ ?_
                                    · intro h65
                                      exfalso; omega
                                    · intro h66
                                      refine n_iload_n c_18_24 rfl ?_
                                      refine n_iconst c_18_25 ?_
                                      refine n_iremV c_18_26 (by omega) (by omega) ?_
                                      intro z67 ez67 f68
                                      have dk4 : z67 = c / 16 % 2 := by rw [ez67, rk4]
                                      refine n_goto c_18_27 ?_
                                      refine n_istore (L2 := [some (2, 4), some (0, c), some (0, 6), some (0, z58), some (0, 0), some (0, ((((0 + 1) + 1) + 1) + 1)), some (0, z67)]) c_18_33 rfl rfl ?_
                                      refine n_aload_n c_18_35 rfl ?_
                                      refine n_getV (bi := 0) c_18_36 sc_4.n rfl rfl rfl (t_4_0 hS) ?_
                                      intro z69 ez69 f70
                                      obtain rfl : z69 = 2 := by omega
                                      refine n_iconst c_18_39 ?_
                                      refine n_if2_ne c_18_40 (by omega) (by omega) ?_ ?_
                                      · intro h71
                                        exfalso; omega
                                      · intro h72
                                        refine n_iload_n c_18_43 rfl ?_
                                        refine n_iconst c_18_44 ?_
                                        refine n_idivV c_18_45 (by omega) (by omega) ?_
                                        intro z73 ez73 f74
                                        have rk5 : z73 = c / 32 := by rw [ez73, rk4]; exact Int.ediv_ediv_of_nonneg (by omega)
                                        refine n_goto c_18_46 ?_
                                        refine n_istore_n (L2 := [some (2, 4), some (0, c), some (0, 6), some (0, z73), some (0, 0), some (0, ((((0 + 1) + 1) + 1) + 1)), some (0, z67)]) c_18_52 rfl rfl ?_
                                        refine n_iload c_18_53 rfl ?_
                                        refine n_iload_n c_18_55 rfl ?_
                                        refine n_if2_lt c_18_56 (by omega) (by omega) ?_ ?_
                                        · intro h75
                                          refine n_iinc (L2 := [some (2, 4), some (0, c), some (0, 6), some (0, z73), some (0, 0), some (0, (((((0 + 1) + 1) + 1) + 1) + 1)), some (0, z67)]) c_18_71 rfl rfl rfl ?_
                                          refine n_goto c_18_74 ?_
                                          refine n_iload c_18_8 rfl ?_
                                          refine n_iload_n c_18_10 rfl ?_
                                          refine n_iconst c_18_11 ?_
                                          refine n_iadd c_18_12 rfl ?_
                                          refine n_if2_ge c_18_13 (by omega) (by omega) ?_ ?_
                                          · intro h76
                                            exfalso; omega
                                          · intro h77
                                            refine n_aload_n c_18_16 rfl ?_
                                            refine n_getV (bi := 0) c_18_17 sc_4.n rfl rfl rfl (t_4_0 hS) ?_
                                            intro z78 ez78 f79
                                            obtain rfl : z78 = 2 := by omega
                                            refine n_iconst c_18_20 ?_
                                            refine n_if2_ne c_18_21 (by omega) (by omega) ?_ ?_
                                            · intro h80
                                              exfalso; omega
                                            · intro h81
                                              refine n_iload_n c_18_24 rfl ?_
                                              refine n_iconst c_18_25 ?_
                                              refine n_iremV c_18_26 (by omega) (by omega) ?_
                                              intro z82 ez82 f83
                                              have dk5 : z82 = c / 32 % 2 := by rw [ez82, rk5]
                                              refine n_goto c_18_27 ?_
                                              refine n_istore (L2 := [some (2, 4), some (0, c), some (0, 6), some (0, z73), some (0, 0), some (0, (((((0 + 1) + 1) + 1) + 1) + 1)), some (0, z82)]) c_18_33 rfl rfl ?_
                                              refine n_aload_n c_18_35 rfl ?_
                                              refine n_getV (bi := 0) c_18_36 sc_4.n rfl rfl rfl (t_4_0 hS) ?_
                                              intro z84 ez84 f85
                                              obtain rfl : z84 = 2 := by omega
                                              refine n_iconst c_18_39 ?_
                                              refine n_if2_ne c_18_40 (by omega) (by omega) ?_ ?_
                                              · intro h86
                                                exfalso; omega
                                              · intro h87
                                                refine n_iload_n c_18_43 rfl ?_
                                                refine n_iconst c_18_44 ?_
                                                refine n_idivV c_18_45 (by omega) (by omega) ?_
                                                intro z88 ez88 f89
                                                have rk6 : z88 = c / 64 := by rw [ez88, rk5]; exact Int.ediv_ediv_of_nonneg (by omega)
                                                refine n_goto c_18_46 ?_
                                                refine n_istore_n (L2 := [some (2, 4), some (0, c), some (0, 6), some (0, z88), some (0, 0), some (0, (((((0 + 1) + 1) + 1) + 1) + 1)), some (0, z82)]) c_18_52 rfl rfl ?_
                                                refine n_iload c_18_53 rfl ?_
                                                refine n_iload_n c_18_55 rfl ?_
                                                refine n_if2_lt c_18_56 (by omega) (by omega) ?_ ?_
                                                · intro h90
                                                  refine n_iinc (L2 := [some (2, 4), some (0, c), some (0, 6), some (0, z88), some (0, 0), some (0, ((((((0 + 1) + 1) + 1) + 1) + 1) + 1)), some (0, z82)]) c_18_71 rfl rfl rfl ?_
                                                  refine n_goto c_18_74 ?_
                                                  refine n_iload c_18_8 rfl ?_
                                                  refine n_iload_n c_18_10 rfl ?_
                                                  refine n_iconst c_18_11 ?_
                                                  refine n_iadd c_18_12 rfl ?_
                                                  refine n_if2_ge c_18_13 (by omega) (by omega) ?_ ?_
                                                  · intro h91
                                                    exfalso; omega
                                                  · intro h92
                                                    refine n_aload_n c_18_16 rfl ?_
                                                    refine n_getV (bi := 0) c_18_17 sc_4.n rfl rfl rfl (t_4_0 hS) ?_
                                                    intro z93 ez93 f94
                                                    obtain rfl : z93 = 2 := by omega
                                                    refine n_iconst c_18_20 ?_
                                                    refine n_if2_ne c_18_21 (by omega) (by omega) ?_ ?_
                                                    · intro h95
                                                      exfalso; omega
                                                    · intro h96
                                                      refine n_iload_n c_18_24 rfl ?_
                                                      refine n_iconst c_18_25 ?_
                                                      refine n_iremV c_18_26 (by omega) (by omega) ?_
                                                      intro z97 ez97 f98
                                                      have dk6 : z97 = c / 64 % 2 := by rw [ez97, rk6]
                                                      refine n_goto c_18_27 ?_
                                                      refine n_istore (L2 := [some (2, 4), some (0, c), some (0, 6), some (0, z88), some (0, 0), some (0, ((((((0 + 1) + 1) + 1) + 1) + 1) + 1)), some (0, z97)]) c_18_33 rfl rfl ?_
                                                      refine n_aload_n c_18_35 rfl ?_
                                                      refine n_getV (bi := 0) c_18_36 sc_4.n rfl rfl rfl (t_4_0 hS) ?_
                                                      intro z99 ez99 f100
                                                      obtain rfl : z99 = 2 := by omega
                                                      refine n_iconst c_18_39 ?_
                                                      refine n_if2_ne c_18_40 (by omega) (by omega) ?_ ?_
                                                      · intro h101
                                                        exfalso; omega
                                                      · intro h102
                                                        refine n_iload_n c_18_43 rfl ?_
                                                        refine n_iconst c_18_44 ?_
                                                        refine n_idivV c_18_45 (by omega) (by omega) ?_
                                                        intro z103 ez103 f104
                                                        have rk7 : z103 = c / 128 := by rw [ez103, rk6]; exact Int.ediv_ediv_of_nonneg (by omega)
                                                        refine n_goto c_18_46 ?_
                                                        refine n_istore_n (L2 := [some (2, 4), some (0, c), some (0, 6), some (0, z103), some (0, 0), some (0, ((((((0 + 1) + 1) + 1) + 1) + 1) + 1)), some (0, z97)]) c_18_52 rfl rfl ?_
                                                        refine n_iload c_18_53 rfl ?_
                                                        refine n_iload_n c_18_55 rfl ?_
                                                        refine n_if2_lt c_18_56 (by omega) (by omega) ?_ ?_
                                                        · intro h105
                                                          exfalso; omega
                                                        · intro h106
                                                          refine n_iload c_18_59 rfl ?_
                                                          refine n_aload_n c_18_61 rfl ?_
                                                          refine n_getV (bi := 0) c_18_62 sc_4.n rfl rfl rfl (t_4_0 hS) ?_
                                                          intro z107 ez107 f108
                                                          obtain rfl : z107 = 2 := by omega
                                                          refine n_imul c_18_65 rfl ?_
                                                          refine n_iload c_18_66 rfl ?_
                                                          refine n_iadd c_18_68 rfl ?_
                                                          refine n_istore (L2 := [some (2, 4), some (0, c), some (0, 6), some (0, z103), some (0, ((0 * 2) + z97)), some (0, ((((((0 + 1) + 1) + 1) + 1) + 1) + 1)), some (0, z97)]) c_18_69 rfl rfl ?_
                                                          refine n_iinc (L2 := [some (2, 4), some (0, c), some (0, 6), some (0, z103), some (0, ((0 * 2) + z97)), some (0, (((((((0 + 1) + 1) + 1) + 1) + 1) + 1) + 1)), some (0, z97)]) c_18_71 rfl rfl rfl ?_
                                                          refine n_goto c_18_74 ?_
                                                          refine n_iload c_18_8 rfl ?_
                                                          refine n_iload_n c_18_10 rfl ?_
                                                          refine n_iconst c_18_11 ?_
                                                          refine n_iadd c_18_12 rfl ?_
                                                          refine n_if2_ge c_18_13 (by omega) (by omega) ?_ ?_
                                                          · intro h109
                                                            exfalso; omega
                                                          · intro h110
                                                            refine n_aload_n c_18_16 rfl ?_
                                                            refine n_getV (bi := 0) c_18_17 sc_4.n rfl rfl rfl (t_4_0 hS) ?_
                                                            intro z111 ez111 f112
                                                            obtain rfl : z111 = 2 := by omega
                                                            refine n_iconst c_18_20 ?_
                                                            refine n_if2_ne c_18_21 (by omega) (by omega) ?_ ?_
                                                            · intro h113
                                                              exfalso; omega
                                                            · intro h114
                                                              refine n_iload_n c_18_24 rfl ?_
                                                              refine n_iconst c_18_25 ?_
                                                              refine n_iremV c_18_26 (by omega) (by omega) ?_
                                                              intro z115 ez115 f116
                                                              have dk7 : z115 = c / 128 % 2 := by rw [ez115, rk7]
                                                              refine n_goto c_18_27 ?_
                                                              refine n_istore (L2 := [some (2, 4), some (0, c), some (0, 6), some (0, z103), some (0, ((0 * 2) + z97)), some (0, (((((((0 + 1) + 1) + 1) + 1) + 1) + 1) + 1)), some (0, z115)]) c_18_33 rfl rfl ?_
                                                              refine n_aload_n c_18_35 rfl ?_
                                                              refine n_getV (bi := 0) c_18_36 sc_4.n rfl rfl rfl (t_4_0 hS) ?_
                                                              intro z117 ez117 f118
                                                              obtain rfl : z117 = 2 := by omega
                                                              refine n_iconst c_18_39 ?_
                                                              refine n_if2_ne c_18_40 (by omega) (by omega) ?_ ?_
                                                              · intro h119
                                                                exfalso; omega
                                                              · intro h120
                                                                refine n_iload_n c_18_43 rfl ?_
                                                                refine n_iconst c_18_44 ?_
                                                                refine n_idivV c_18_45 (by omega) (by omega) ?_
                                                                intro z121 ez121 f122
                                                                have rk8 : z121 = c / 256 := by rw [ez121, rk7]; exact Int.ediv_ediv_of_nonneg (by omega)
                                                                refine n_goto c_18_46 ?_
                                                                refine n_istore_n (L2 := [some (2, 4), some (0, c), some (0, 6), some (0, z121), some (0, ((0 * 2) + z97)), some (0, (((((((0 + 1) + 1) + 1) + 1) + 1) + 1) + 1)), some (0, z115)]) c_18_52 rfl rfl ?_
                                                                refine n_iload c_18_53 rfl ?_
                                                                refine n_iload_n c_18_55 rfl ?_
                                                                refine n_if2_lt c_18_56 (by omega) (by omega) ?_ ?_
                                                                · intro h123
                                                                  exfalso; omega
                                                                · intro h124
                                                                  refine n_iload c_18_59 rfl ?_
                                                                  refine n_aload_n c_18_61 rfl ?_
                                                                  refine n_getV (bi := 0) c_18_62 sc_4.n rfl rfl rfl (t_4_0 hS) ?_
                                                                  intro z125 ez125 f126
                                                                  obtain rfl : z125 = 2 := by omega
                                                                  refine n_imul c_18_65 rfl ?_
                                                                  refine n_iload c_18_66 rfl ?_
                                                                  refine n_iadd c_18_68 rfl ?_
                                                                  refine n_istore (L2 := [some (2, 4), some (0, c), some (0, 6), some (0, z121), some (0, ((((0 * 2) + z97) * 2) + z115)), some (0, (((((((0 + 1) + 1) + 1) + 1) + 1) + 1) + 1)), some (0, z115)]) c_18_69 rfl rfl ?_
                                                                  refine n_iinc (L2 := [some (2, 4), some (0, c), some (0, 6), some (0, z121), some (0, ((((0 * 2) + z97) * 2) + z115)), some (0, ((((((((0 + 1) + 1) + 1) + 1) + 1) + 1) + 1) + 1)), some (0, z115)]) c_18_71 rfl rfl rfl ?_
                                                                  refine n_goto c_18_74 ?_
                                                                  refine n_iload c_18_8 rfl ?_
                                                                  refine n_iload_n c_18_10 rfl ?_
                                                                  refine n_iconst c_18_11 ?_
                                                                  refine n_iadd c_18_12 rfl ?_
                                                                  refine n_if2_ge c_18_13 (by omega) (by omega) ?_ ?_
                                                                  · intro h127
                                                                    exfalso; omega
                                                                  · intro h128
                                                                    refine n_aload_n c_18_16 rfl ?_
                                                                    refine n_getV (bi := 0) c_18_17 sc_4.n rfl rfl rfl (t_4_0 hS) ?_
                                                                    intro z129 ez129 f130
                                                                    obtain rfl : z129 = 2 := by omega
                                                                    refine n_iconst c_18_20 ?_
                                                                    refine n_if2_ne c_18_21 (by omega) (by omega) ?_ ?_
                                                                    · intro h131
                                                                      exfalso; omega
                                                                    · intro h132
                                                                      refine n_iload_n c_18_24 rfl ?_
                                                                      refine n_iconst c_18_25 ?_
                                                                      refine n_iremV c_18_26 (by omega) (by omega) ?_
                                                                      intro z133 ez133 f134
                                                                      have dk8 : z133 = c / 256 % 2 := by rw [ez133, rk8]
                                                                      refine n_goto c_18_27 ?_
                                                                      refine n_istore (L2 := [some (2, 4), some (0, c), some (0, 6), some (0, z121), some (0, ((((0 * 2) + z97) * 2) + z115)), some (0, ((((((((0 + 1) + 1) + 1) + 1) + 1) + 1) + 1) + 1)), some (0, z133)]) c_18_33 rfl rfl ?_
                                                                      refine n_aload_n c_18_35 rfl ?_
                                                                      refine n_getV (bi := 0) c_18_36 sc_4.n rfl rfl rfl (t_4_0 hS) ?_
                                                                      intro z135 ez135 f136
                                                                      obtain rfl : z135 = 2 := by omega
                                                                      refine n_iconst c_18_39 ?_
                                                                      refine n_if2_ne c_18_40 (by omega) (by omega) ?_ ?_
                                                                      · intro h137
                                                                        exfalso; omega
                                                                      · intro h138
                                                                        refine n_iload_n c_18_43 rfl ?_
                                                                        refine n_iconst c_18_44 ?_
                                                                        refine n_idivV c_18_45 (by omega) (by omega) ?_
                                                                        intro z139 ez139 f140
                                                                        have rk9 : z139 = c / 512 := by rw [ez139, rk8]; exact Int.ediv_ediv_of_nonneg (by omega)
                                                                        refine n_goto c_18_46 ?_
                                                                        refine n_istore_n (L2 := [some (2, 4), some (0, c), some (0, 6), some (0, z139), some (0, ((((0 * 2) + z97) * 2) + z115)), some (0, ((((((((0 + 1) + 1) + 1) + 1) + 1) + 1) + 1) + 1)), some (0, z133)]) c_18_52 rfl rfl ?_
                                                                        refine n_iload c_18_53 rfl ?_
                                                                        refine n_iload_n c_18_55 rfl ?_
                                                                        refine n_if2_lt c_18_56 (by omega) (by omega) ?_ ?_
                                                                        · intro h141
                                                                          exfalso; omega
                                                                        · intro h142
                                                                          refine n_iload c_18_59 rfl ?_
                                                                          refine n_aload_n c_18_61 rfl ?_
                                                                          refine n_getV (bi := 0) c_18_62 sc_4.n rfl rfl rfl (t_4_0 hS) ?_
                                                                          intro z143 ez143 f144
                                                                          obtain rfl : z143 = 2 := by omega
                                                                          refine n_imul c_18_65 rfl ?_
                                                                          refine n_iload c_18_66 rfl ?_
                                                                          refine n_iadd c_18_68 rfl ?_
                                                                          refine n_istore (L2 := [some (2, 4), some (0, c), some (0, 6), some (0, z139), some (0, ((((((0 * 2) + z97) * 2) + z115) * 2) + z133)), some (0, ((((((((0 + 1) + 1) + 1) + 1) + 1) + 1) + 1) + 1)), some (0, z133)]) c_18_69 rfl rfl ?_
                                                                          refine n_iinc (L2 := [some (2, 4), some (0, c), some (0, 6), some (0, z139), some (0, ((((((0 * 2) + z97) * 2) + z115) * 2) + z133)), some (0, (((((((((0 + 1) + 1) + 1) + 1) + 1) + 1) + 1) + 1) + 1)), some (0, z133)]) c_18_71 rfl rfl rfl ?_
                                                                          refine n_goto c_18_74 ?_
                                                                          refine n_iload c_18_8 rfl ?_
                                                                          refine n_iload_n c_18_10 rfl ?_
                                                                          refine n_iconst c_18_11 ?_
                                                                          refine n_iadd c_18_12 rfl ?_
                                                                          refine n_if2_ge c_18_13 (by omega) (by omega) ?_ ?_
                                                                          · intro h145
                                                                            refine n_iload c_18_77 rfl ?_
                                                                            exact n_rI c_18_79 rfl ⟨rfl, by omega, by have e : t3 2 c 6 = ((c / 64 % 2) * 2 + c / 128 % 2) * 2 + c / 256 % 2 := rfl; rw [e, ← dk6, ← dk7, ← dk8]; omega⟩
                                                                          · intro h146
                                                                            exfalso; omega
                                                · intro h147
                                                  exfalso; omega
                                        · intro h148
                                          exfalso; omega
                                · intro h149
                                  exfalso; omega
                        · intro h150
                          exfalso; omega
                · intro h151
                  exfalso; omega
        · intro h152
          exfalso; omega

set_option maxHeartbeats 4000000 in
theorem ibitsX1_2 {xs : List Int32} {e : Nat} {ac : Int} {M0 M : nM} (hS : Sf 2 ac M0 M)  : nW xs e 202 0 [some (0, 1)] [] M (nPI fun z M1 => M = M1 ∧ (1 ≤ z ∧ z ≤ 1) ∧ (z = popc 1)) := by
  have hd : (2 : Int) = 2 ∨ (2 : Int) = 3 := by decide
  have hac := hS.2.2.2.2
  refine n_iload_n c_202_0 rfl ?_
  refine n_iload_n c_202_1 rfl ?_
  refine n_iconst c_202_2 ?_
  refine n_i_iushr (z := 0) c_202_3 (by decide) ?_
  refine n_ldc_w (n := 1431655765) c_202_4 rfl ?_
  refine n_i_iand (z := 0) c_202_7 (by decide) ?_
  refine n_isub c_202_8 rfl ?_
  refine n_istore_n (L2 := [some (0, (1 - 0))]) c_202_9 rfl rfl ?_
  refine n_iload_n c_202_10 rfl ?_
  refine n_ldc_w (n := 858993459) c_202_11 rfl ?_
  refine n_i_iand (z := 1) c_202_14 (by decide) ?_
  refine n_iload_n c_202_15 rfl ?_
  refine n_iconst c_202_16 ?_
  refine n_i_iushr (z := 0) c_202_17 (by decide) ?_
  refine n_ldc_w (n := 858993459) c_202_18 rfl ?_
  refine n_i_iand (z := 0) c_202_21 (by decide) ?_
  refine n_iadd c_202_22 rfl ?_
  refine n_istore_n (L2 := [some (0, (1 + 0))]) c_202_23 rfl rfl ?_
  refine n_iload_n c_202_24 rfl ?_
  refine n_iload_n c_202_25 rfl ?_
  refine n_iconst c_202_26 ?_
  refine n_i_iushr (z := 0) c_202_27 (by decide) ?_
  refine n_iadd c_202_28 rfl ?_
  refine n_ldc_w (n := 252645135) c_202_29 rfl ?_
  refine n_i_iand (z := 1) c_202_32 (by decide) ?_
  refine n_istore_n (L2 := [some (0, 1)]) c_202_33 rfl rfl ?_
  refine n_iload_n c_202_34 rfl ?_
  refine n_iload_n c_202_35 rfl ?_
  refine n_bipush c_202_36 rfl ?_
  refine n_i_iushr (z := 0) c_202_38 (by decide) ?_
  refine n_iadd c_202_39 rfl ?_
  refine n_istore_n (L2 := [some (0, (1 + 0))]) c_202_40 rfl rfl ?_
  refine n_iload_n c_202_41 rfl ?_
  refine n_iload_n c_202_42 rfl ?_
  refine n_bipush c_202_43 rfl ?_
  refine n_i_iushr (z := 0) c_202_45 (by decide) ?_
  refine n_iadd c_202_46 rfl ?_
  refine n_istore_n (L2 := [some (0, ((1 + 0) + 0))]) c_202_47 rfl rfl ?_
  refine n_iload_n c_202_48 rfl ?_
  refine n_bipush c_202_49 rfl ?_
  refine n_i_iand (z := 1) c_202_51 (by decide) ?_
  exact n_rI c_202_52 rfl ⟨rfl, by omega, by decide⟩

set_option maxHeartbeats 4000000 in
theorem ibitsX2_2 {xs : List Int32} {e : Nat} {ac : Int} {M0 M : nM} (hS : Sf 2 ac M0 M)  : nW xs e 202 0 [some (0, 2)] [] M (nPI fun z M1 => M = M1 ∧ (1 ≤ z ∧ z ≤ 1) ∧ (z = popc 2)) := by
  have hd : (2 : Int) = 2 ∨ (2 : Int) = 3 := by decide
  have hac := hS.2.2.2.2
  refine n_iload_n c_202_0 rfl ?_
  refine n_iload_n c_202_1 rfl ?_
  refine n_iconst c_202_2 ?_
  refine n_i_iushr (z := 1) c_202_3 (by decide) ?_
  refine n_ldc_w (n := 1431655765) c_202_4 rfl ?_
  refine n_i_iand (z := 1) c_202_7 (by decide) ?_
  refine n_isub c_202_8 rfl ?_
  refine n_istore_n (L2 := [some (0, (2 - 1))]) c_202_9 rfl rfl ?_
  refine n_iload_n c_202_10 rfl ?_
  refine n_ldc_w (n := 858993459) c_202_11 rfl ?_
  refine n_i_iand (z := 1) c_202_14 (by decide) ?_
  refine n_iload_n c_202_15 rfl ?_
  refine n_iconst c_202_16 ?_
  refine n_i_iushr (z := 0) c_202_17 (by decide) ?_
  refine n_ldc_w (n := 858993459) c_202_18 rfl ?_
  refine n_i_iand (z := 0) c_202_21 (by decide) ?_
  refine n_iadd c_202_22 rfl ?_
  refine n_istore_n (L2 := [some (0, (1 + 0))]) c_202_23 rfl rfl ?_
  refine n_iload_n c_202_24 rfl ?_
  refine n_iload_n c_202_25 rfl ?_
  refine n_iconst c_202_26 ?_
  refine n_i_iushr (z := 0) c_202_27 (by decide) ?_
  refine n_iadd c_202_28 rfl ?_
  refine n_ldc_w (n := 252645135) c_202_29 rfl ?_
  refine n_i_iand (z := 1) c_202_32 (by decide) ?_
  refine n_istore_n (L2 := [some (0, 1)]) c_202_33 rfl rfl ?_
  refine n_iload_n c_202_34 rfl ?_
  refine n_iload_n c_202_35 rfl ?_
  refine n_bipush c_202_36 rfl ?_
  refine n_i_iushr (z := 0) c_202_38 (by decide) ?_
  refine n_iadd c_202_39 rfl ?_
  refine n_istore_n (L2 := [some (0, (1 + 0))]) c_202_40 rfl rfl ?_
  refine n_iload_n c_202_41 rfl ?_
  refine n_iload_n c_202_42 rfl ?_
  refine n_bipush c_202_43 rfl ?_
  refine n_i_iushr (z := 0) c_202_45 (by decide) ?_
  refine n_iadd c_202_46 rfl ?_
  refine n_istore_n (L2 := [some (0, ((1 + 0) + 0))]) c_202_47 rfl rfl ?_
  refine n_iload_n c_202_48 rfl ?_
  refine n_bipush c_202_49 rfl ?_
  refine n_i_iand (z := 1) c_202_51 (by decide) ?_
  exact n_rI c_202_52 rfl ⟨rfl, by omega, by decide⟩

set_option maxHeartbeats 4000000 in
theorem ibitsX3_2 {xs : List Int32} {e : Nat} {ac : Int} {M0 M : nM} (hS : Sf 2 ac M0 M)  : nW xs e 202 0 [some (0, 3)] [] M (nPI fun z M1 => M = M1 ∧ (2 ≤ z ∧ z ≤ 2) ∧ (z = popc 3)) := by
  have hd : (2 : Int) = 2 ∨ (2 : Int) = 3 := by decide
  have hac := hS.2.2.2.2
  refine n_iload_n c_202_0 rfl ?_
  refine n_iload_n c_202_1 rfl ?_
  refine n_iconst c_202_2 ?_
  refine n_i_iushr (z := 1) c_202_3 (by decide) ?_
  refine n_ldc_w (n := 1431655765) c_202_4 rfl ?_
  refine n_i_iand (z := 1) c_202_7 (by decide) ?_
  refine n_isub c_202_8 rfl ?_
  refine n_istore_n (L2 := [some (0, (3 - 1))]) c_202_9 rfl rfl ?_
  refine n_iload_n c_202_10 rfl ?_
  refine n_ldc_w (n := 858993459) c_202_11 rfl ?_
  refine n_i_iand (z := 2) c_202_14 (by decide) ?_
  refine n_iload_n c_202_15 rfl ?_
  refine n_iconst c_202_16 ?_
  refine n_i_iushr (z := 0) c_202_17 (by decide) ?_
  refine n_ldc_w (n := 858993459) c_202_18 rfl ?_
  refine n_i_iand (z := 0) c_202_21 (by decide) ?_
  refine n_iadd c_202_22 rfl ?_
  refine n_istore_n (L2 := [some (0, (2 + 0))]) c_202_23 rfl rfl ?_
  refine n_iload_n c_202_24 rfl ?_
  refine n_iload_n c_202_25 rfl ?_
  refine n_iconst c_202_26 ?_
  refine n_i_iushr (z := 0) c_202_27 (by decide) ?_
  refine n_iadd c_202_28 rfl ?_
  refine n_ldc_w (n := 252645135) c_202_29 rfl ?_
  refine n_i_iand (z := 2) c_202_32 (by decide) ?_
  refine n_istore_n (L2 := [some (0, 2)]) c_202_33 rfl rfl ?_
  refine n_iload_n c_202_34 rfl ?_
  refine n_iload_n c_202_35 rfl ?_
  refine n_bipush c_202_36 rfl ?_
  refine n_i_iushr (z := 0) c_202_38 (by decide) ?_
  refine n_iadd c_202_39 rfl ?_
  refine n_istore_n (L2 := [some (0, (2 + 0))]) c_202_40 rfl rfl ?_
  refine n_iload_n c_202_41 rfl ?_
  refine n_iload_n c_202_42 rfl ?_
  refine n_bipush c_202_43 rfl ?_
  refine n_i_iushr (z := 0) c_202_45 (by decide) ?_
  refine n_iadd c_202_46 rfl ?_
  refine n_istore_n (L2 := [some (0, ((2 + 0) + 0))]) c_202_47 rfl rfl ?_
  refine n_iload_n c_202_48 rfl ?_
  refine n_bipush c_202_49 rfl ?_
  refine n_i_iand (z := 2) c_202_51 (by decide) ?_
  exact n_rI c_202_52 rfl ⟨rfl, by omega, by decide⟩

set_option maxHeartbeats 4000000 in
theorem ibitsX_2 {xs : List Int32} {e : Nat} {ac : Int} {M0 M : nM} {x : Int} (hS : Sf 2 ac M0 M) (hx : 1 ≤ x ∧ x ≤ 3) : nW xs e 202 0 [some (0, x)] [] M (nPI fun z M1 => M = M1 ∧ (1 ≤ z ∧ z ≤ 2) ∧ (z = popc x)) := by
  rcases (show x = 1 ∨ x = 2 ∨ x = 3 by omega) with rfl | rfl | rfl
  · exact n_post (ibitsX1_2 hS ) (fun w M1 h => by obtain ⟨z, rfl, h1, h2, h3⟩ := h; exact ⟨z, rfl, h1, by omega, h3⟩)
  · exact n_post (ibitsX2_2 hS ) (fun w M1 h => by obtain ⟨z, rfl, h1, h2, h3⟩ := h; exact ⟨z, rfl, h1, by omega, h3⟩)
  · exact n_post (ibitsX3_2 hS ) (fun w M1 h => by obtain ⟨z, rfl, h1, h2, h3⟩ := h; exact ⟨z, rfl, h1, by omega, h3⟩)

set_option maxHeartbeats 4000000 in
theorem addX_1_2 {xs : List Int32} {e : Nat} {ac : Int} {M : nM} {c s : Int} {Ms : nM} (hS : Sf 2 ac M M) (hc : 0 ≤ c ∧ c ≤ 3) (hs : 0 ≤ s ∧ s ≤ 1000000) (hK : MK 4 8 3 0 0 1 2 0 0 0 0 0 0 0 M) (hI : MI 2 2 1 ac Ms M) (hzc : M (M 15 9) c = 0) (hcl : Clo 2 2 1 ac (Tm Ms) c) : nW xs (e + 1) 56 0 [some (2, 15), some (0, c), some (0, s)] [] M (nPV fun M1 => Sf 2 ac M1 M1 ∧ MK 4 8 3 0 0 1 2 0 0 0 0 0 0 0 M1 ∧ (MI 2 2 1 ac Ms M1) ∧ (GR M M1) ∧ (AD c M M1) ∧ (FAm M M1) ∧ (ADz c s M M1)) := by
  have hd : (2 : Int) = 2 ∨ (2 : Int) = 3 := by decide
  have hac := hS.2.2.2.2
  refine n_aload_n c_56_0 rfl ?_
  refine n_getV (bi := 10) c_56_1 sc_15.n rfl rfl rfl (t_15_10 hS) ?_
  intro z1 ez1 f2
  refine n_sipush c_56_4 rfl ?_
  refine n_if2_le c_56_7 (by omega) (by omega) ?_ ?_
  · intro h3
    refine n_aload_n c_56_11 rfl ?_
    refine n_getR c_56_12 sc_15.n rfl rfl rfl r_15_1 ?_
    refine n_aload_n c_56_15 rfl ?_
    refine n_getV (bi := 10) c_56_16 sc_15.n rfl rfl rfl (t_15_10 hS) ?_
    intro z4 ez4 f5
    obtain rfl : z1 = z4 := by omega
    refine n_iload_n c_56_19 rfl ?_
    refine n_iastoreM hS c_56_20 sc_20.n rfl (by omega) (m_20 (by omega) (by omega)) ?_
    intro M6 eM6 hS6
    have hK6 := hK.u (by unfold Kok; omega) eM6
    have g6_0 : M6 15 10 = M 15 10 := by rw [eM6]; exact nu_a (by omega)
    have g6_1 : M6 20 z1 = c := by rw [eM6]; exact nu_s _ _ _ _
    refine n_aload_n c_56_21 rfl ?_
    refine n_getR c_56_22 sc_15.n rfl rfl rfl r_15_2 ?_
    refine n_aload_n c_56_25 rfl ?_
    refine n_getV (bi := 10) c_56_26 sc_15.n rfl rfl rfl (t_15_10 hS6) ?_
    intro z7 ez7 f8
    obtain rfl : z1 = z7 := by omega
    refine n_iload_n c_56_29 rfl ?_
    refine n_iastoreM hS6 c_56_30 sc_21.n rfl (by omega) (m_21 (by omega) (by omega)) ?_
    intro M9 eM9 hS9
    have hK9 := hK6.u (by unfold Kok; omega) eM9
    have g9_0 : M9 15 10 = M6 15 10 := by rw [eM9]; exact nu_a (by omega)
    have g9_1 : M9 20 z1 = M6 20 z1 := by rw [eM9]; exact nu_a (by omega)
    have g9_2 : M9 21 z1 = s := by rw [eM9]; exact nu_s _ _ _ _
    refine n_aload_n c_56_31 rfl ?_
    refine n_getR c_56_32 sc_15.n rfl rfl rfl r_15_3 ?_
    refine n_aload_n c_56_35 rfl ?_
    refine n_getV (bi := 10) c_56_36 sc_15.n rfl rfl rfl (t_15_10 hS9) ?_
    intro z10 ez10 f11
    obtain rfl : z1 = z10 := by omega
    refine n_aload_n c_56_39 rfl ?_
    refine n_getB c_56_40 hK9.b ?_
    refine n_iload_n c_56_43 rfl ?_
    refine n_iconst c_56_44 ?_
    refine n_v2I c_56_45 rfl sc_4.n rfl rfl rfl rfl (threeOfX0_2 (c := c) hS9 (by omega)) ?_
    intro z12 M13 hP14
    obtain ⟨eM, f14, f14p0⟩ := hP14
    subst eM
    refine n_iastoreM hS9 c_56_48 sc_22.n rfl (by omega) (m_22 (by omega) (by omega)) ?_
    intro M15 eM15 hS15
    have hK15 := hK9.u (by unfold Kok; omega) eM15
    have g15_0 : M15 15 10 = M9 15 10 := by rw [eM15]; exact nu_a (by omega)
    have g15_1 : M15 20 z1 = M9 20 z1 := by rw [eM15]; exact nu_a (by omega)
    have g15_2 : M15 21 z1 = M9 21 z1 := by rw [eM15]; exact nu_a (by omega)
    have g15_3 : M15 22 z1 = z12 := by rw [eM15]; exact nu_s _ _ _ _
    refine n_aload_n c_56_49 rfl ?_
    refine n_getR c_56_50 sc_15.n rfl rfl rfl r_15_4 ?_
    refine n_aload_n c_56_53 rfl ?_
    refine n_getV (bi := 10) c_56_54 sc_15.n rfl rfl rfl (t_15_10 hS15) ?_
    intro z16 ez16 f17
    obtain rfl : z1 = z16 := by omega
    refine n_aload_n c_56_57 rfl ?_
    refine n_getB c_56_58 hK15.b ?_
    refine n_iload_n c_56_61 rfl ?_
    refine n_iconst c_56_62 ?_
    refine n_v2I c_56_63 rfl sc_4.n rfl rfl rfl rfl (threeOfX3_2 (c := c) hS15 (by omega)) ?_
    intro z18 M19 hP20
    obtain ⟨eM, f20, f20p0⟩ := hP20
    subst eM
    refine n_iastoreM hS15 c_56_66 sc_23.n rfl (by omega) (m_23 (by omega) (by omega)) ?_
    intro M21 eM21 hS21
    have hK21 := hK15.u (by unfold Kok; omega) eM21
    have g21_0 : M21 15 10 = M15 15 10 := by rw [eM21]; exact nu_a (by omega)
    have g21_1 : M21 20 z1 = M15 20 z1 := by rw [eM21]; exact nu_a (by omega)
    have g21_2 : M21 21 z1 = M15 21 z1 := by rw [eM21]; exact nu_a (by omega)
    have g21_3 : M21 22 z1 = M15 22 z1 := by rw [eM21]; exact nu_a (by omega)
    have g21_4 : M21 23 z1 = z18 := by rw [eM21]; exact nu_s _ _ _ _
    refine n_aload_n c_56_67 rfl ?_
    refine n_getR c_56_68 sc_15.n rfl rfl rfl r_15_5 ?_
    refine n_aload_n c_56_71 rfl ?_
    refine n_getV (bi := 10) c_56_72 sc_15.n rfl rfl rfl (t_15_10 hS21) ?_
    intro z22 ez22 f23
    obtain rfl : z1 = z22 := by omega
    refine n_aload_n c_56_75 rfl ?_
    refine n_getB c_56_76 hK21.b ?_
    refine n_iload_n c_56_79 rfl ?_
    refine n_bipush c_56_80 rfl ?_
    refine n_v2I c_56_82 rfl sc_4.n rfl rfl rfl rfl (threeOfX6_2 (c := c) hS21 (by omega)) ?_
    intro z24 M25 hP26
    obtain ⟨eM, f26, f26p0⟩ := hP26
    subst eM
    refine n_iastoreM hS21 c_56_85 sc_24.n rfl (by omega) (m_24 (by omega) (by omega)) ?_
    intro M27 eM27 hS27
    have hK27 := hK21.u (by unfold Kok; omega) eM27
    have g27_0 : M27 15 10 = M21 15 10 := by rw [eM27]; exact nu_a (by omega)
    have g27_1 : M27 20 z1 = M21 20 z1 := by rw [eM27]; exact nu_a (by omega)
    have g27_2 : M27 21 z1 = M21 21 z1 := by rw [eM27]; exact nu_a (by omega)
    have g27_3 : M27 22 z1 = M21 22 z1 := by rw [eM27]; exact nu_a (by omega)
    have g27_4 : M27 23 z1 = M21 23 z1 := by rw [eM27]; exact nu_a (by omega)
    have g27_5 : M27 24 z1 = z24 := by rw [eM27]; exact nu_s _ _ _ _
    refine n_aload_n c_56_86 rfl ?_
    refine n_dup2 c_56_87 ?_
    refine n_getV (bi := 10) c_56_88 sc_15.n rfl rfl rfl (t_15_10 hS27) ?_
    intro z28 ez28 f29
    obtain rfl : z1 = z28 := by omega
    refine n_iconst c_56_91 ?_
    refine n_iadd c_56_92 rfl ?_
    refine n_putM (bi := 10) hS27 c_56_93 sc_15.n rfl rfl rfl rfl (m_15_10 (by omega)) ?_
    intro M30 eM30 hS30
    have hK30 := hK27.cnt (c := z1) (by omega) (by omega) (z := (z1 + 1)) (by omega) eM30
    have g30_0 : M30 20 z1 = M27 20 z1 := by rw [eM30]; exact nu_a (by omega)
    have g30_1 : M30 21 z1 = M27 21 z1 := by rw [eM30]; exact nu_a (by omega)
    have g30_2 : M30 22 z1 = M27 22 z1 := by rw [eM30]; exact nu_a (by omega)
    have g30_3 : M30 23 z1 = M27 23 z1 := by rw [eM30]; exact nu_a (by omega)
    have g30_4 : M30 24 z1 = M27 24 z1 := by rw [eM30]; exact nu_a (by omega)
    have g30_5 : M30 15 10 = (z1 + 1) := by rw [eM30]; exact nu_s _ _ _ _
    refine n_aload_n c_56_96 rfl ?_
    refine n_getP c_56_97 ?_
    intro p31 ep31
    refine n_iload_n c_56_100 rfl ?_
    refine n_aload_n c_56_101 rfl ?_
    refine n_getV (bi := 10) c_56_102 sc_15.n rfl rfl rfl (t_15_10 hS30) ?_
    intro z32 ez32 f33
    refine n_iastoreQ hS30 hK30 c_56_105 ep31 (by omega) (by omega) ?_
    intro M34 eM34 fM34 hS34 hK34
    have g34_0 := fM34 20 z1 (by omega) (by omega)
    have g34_1 := fM34 21 z1 (by omega) (by omega)
    have g34_2 := fM34 22 z1 (by omega) (by omega)
    have g34_3 := fM34 23 z1 (by omega) (by omega)
    have g34_4 := fM34 24 z1 (by omega) (by omega)
    have g34_5 := fM34 15 10 (by omega) (by omega)
    have hP := hS.p9
    have ad := MI.add (z := z32) (M3 := M15) (M4 := M21) (M5 := M27) hI ez1 (by omega) (by omega) hzc hcl (by omega) hP eM6 eM9 (by rw [eM15, f14p0]) (by rw [eM21, f20p0]) (by rw [eM27, f26p0]) eM30 eM34
    have ad3 : ADz c s M M34 := ADz.mk (d := 2) (z := z32) (M3 := M15) (M4 := M21) (M5 := M27) ez1 hP eM6 eM9 (by rw [eM15, f14p0]) (by rw [eM21, f20p0]) (by rw [eM27, f26p0]) eM30 eM34
    have ad2 : AD c M M34 := by refine Or.inr ⟨?_, ?_⟩; (have y := fM34 15 10 (by omega) (by omega); omega); (rw [fM34 20 _ (by omega) (by omega), eM30, nu_a (by omega), eM27, nu_a (by omega), eM21, nu_a (by omega), eM15, nu_a (by omega), eM9, nu_a (by omega), eM6, ← ez1, nu_s])
    exact n_rV c_56_106 rfl ⟨hS34, hK34, by exact ad.1, by exact ad.2.1, by exact ad2, by exact ad.2.2.2, by exact ad3⟩
  · intro h35
    exact n_rV c_56_10 rfl ⟨hS, hK, by exact hI, by exact GR.refl, by exact Or.inl (by omega), by exact FAm.refl, by exact Or.inl ⟨by omega, rfl⟩⟩

set_option maxHeartbeats 4000000 in
theorem fillMX25T_1_2_c {xs : List Int32} {e : Nat} {ac : Int} {M0 M : nM} {p i j g : Int} {Ms : nM} (hS : Sf 2 ac M0 M) (hp : ActAt p) (hpl : p < 55 + 3 * ac) (hi : 0 ≤ i ∧ i ≤ 7) (hj : 0 ≤ j ∧ j ≤ 7) (hK : MK 4 8 3 0 0 1 2 0 0 0 0 0 0 0 M) (hg : M 15 10 = g) (hms : M = Ms) : ∀ nn : Nat, (∀ (x5 x6 x7 x8 x9 x10 : Int) (M : nM), Sf 2 ac M0 M → (2 ≤ x5 ∧ x5 ≤ 2) → (0 ≤ x6 ∧ x6 ≤ 6) → (0 ≤ x7 ∧ x7 ≤ 6) → (0 ≤ x8 ∧ x8 ≤ 6) → (0 ≤ x9 ∧ x9 ≤ 8) → (0 ≤ x10 ∧ x10 ≤ 2) → (MK 4 8 3 0 0 1 2 0 0 0 0 0 0 0 M) → (M 15 10 = g) → (x9 = 4 * x10) → (x6 = (i / (2 * 2) * 2 + j / (2 * 2)) * 2) → (x7 = (i / 2 % 2 * 2 + j / 2 % 2) * 2) → (x8 = (i % 2 * 2 + j % 2) * 2) → (FCm 26 Ms M) → (∀ c : Int, 0 ≤ c → c < x9 → M 26 c = linw 2 (fun i => Ms (p + 1) i) 1 2 0 i j c) → (2 - x10) * 21 + 21 < (nn : Int) → nW xs e 45 86 [some (2, 25), none, some (2, (p + 1)), none, none, some (0, x5), some (0, x6), some (0, x7), some (0, x8), some (0, x9), some (0, x10), none, none, none, none] [] M (nPV fun M1 => Sf 2 ac M0 M1 ∧ (M1 15 10 = g) ∧ MK 4 8 3 0 0 1 2 0 0 0 0 0 0 0 M1 ∧ (FCm 26 Ms M1) ∧ (∀ c : Int, 0 ≤ c → c < 2 * 2 * 2 → M1 26 c = linw 2 (fun i => Ms (p + 1) i) 1 2 0 i j c))) ∧ (∀ (x5 x6 x7 x8 x9 x10 x11 x12 : Int) (M : nM), Sf 2 ac M0 M → (2 ≤ x5 ∧ x5 ≤ 2) → (0 ≤ x6 ∧ x6 ≤ 6) → (0 ≤ x7 ∧ x7 ≤ 6) → (0 ≤ x8 ∧ x8 ≤ 6) → (0 ≤ x9 ∧ x9 ≤ 8) → (0 ≤ x10 ∧ x10 ≤ 1) → (0 ≤ x11 ∧ x11 ≤ 1) → (0 ≤ x12 ∧ x12 ≤ 2) → (MK 4 8 3 0 0 1 2 0 0 0 0 0 0 0 M) → (M 15 10 = g) → (x9 = 4 * x10 + 2 * x12) → (x6 = (i / (2 * 2) * 2 + j / (2 * 2)) * 2) → (x7 = (i / 2 % 2 * 2 + j / 2 % 2) * 2) → (x8 = (i % 2 * 2 + j % 2) * 2) → (FCm 26 Ms M) → (∀ c : Int, 0 ≤ c → c < x9 → M 26 c = linw 2 (fun i => Ms (p + 1) i) 1 2 0 i j c) → (x11 = Ms (p + 1) (x6 + x10) * 1) → (2 - x10) * 21 + (2 - x12) * 5 + 5 < (nn : Int) → nW xs e 45 110 [some (2, 25), none, some (2, (p + 1)), none, none, some (0, x5), some (0, x6), some (0, x7), some (0, x8), some (0, x9), some (0, x10), some (0, x11), some (0, x12), none, none] [] M (nPV fun M1 => Sf 2 ac M0 M1 ∧ (M1 15 10 = g) ∧ MK 4 8 3 0 0 1 2 0 0 0 0 0 0 0 M1 ∧ (FCm 26 Ms M1) ∧ (∀ c : Int, 0 ≤ c → c < 2 * 2 * 2 → M1 26 c = linw 2 (fun i => Ms (p + 1) i) 1 2 0 i j c))) ∧ (∀ (x5 x6 x7 x8 x9 x10 x11 x12 x13 x14 : Int) (M : nM), Sf 2 ac M0 M → (2 ≤ x5 ∧ x5 ≤ 2) → (0 ≤ x6 ∧ x6 ≤ 6) → (0 ≤ x7 ∧ x7 ≤ 6) → (0 ≤ x8 ∧ x8 ≤ 6) → (0 ≤ x9 ∧ x9 ≤ 8) → (0 ≤ x10 ∧ x10 ≤ 1) → (0 ≤ x11 ∧ x11 ≤ 1) → (0 ≤ x12 ∧ x12 ≤ 1) → (0 ≤ x13 ∧ x13 ≤ 3) → (0 ≤ x14 ∧ x14 ≤ 2) → (MK 4 8 3 0 0 1 2 0 0 0 0 0 0 0 M) → (M 15 10 = g) → (x9 = 4 * x10 + 2 * x12 + x14) → (x6 = (i / (2 * 2) * 2 + j / (2 * 2)) * 2) → (x7 = (i / 2 % 2 * 2 + j / 2 % 2) * 2) → (x8 = (i % 2 * 2 + j % 2) * 2) → (FCm 26 Ms M) → (∀ c : Int, 0 ≤ c → c < x9 → M 26 c = linw 2 (fun i => Ms (p + 1) i) 1 2 0 i j c) → (x11 = Ms (p + 1) (x6 + x10) * 1) → (x13 = Ms (p + 1) (x6 + x10) * 1 + Ms (p + 1) (x7 + x12) * 2) → (2 - x10) * 21 + (2 - x12) * 5 + (2 - x14) * 1 + 1 < (nn : Int) → nW xs e 45 137 [some (2, 25), none, some (2, (p + 1)), none, none, some (0, x5), some (0, x6), some (0, x7), some (0, x8), some (0, x9), some (0, x10), some (0, x11), some (0, x12), some (0, x13), some (0, x14)] [] M (nPV fun M1 => Sf 2 ac M0 M1 ∧ (M1 15 10 = g) ∧ MK 4 8 3 0 0 1 2 0 0 0 0 0 0 0 M1 ∧ (FCm 26 Ms M1) ∧ (∀ c : Int, 0 ≤ c → c < 2 * 2 * 2 → M1 26 c = linw 2 (fun i => Ms (p + 1) i) 1 2 0 i j c))) := by
  have hd : (2 : Int) = 2 ∨ (2 : Int) = 3 := by decide
  have hac := hS.2.2.2.2
  have hpb := hp.1
  intro nn
  induction nn with
  | zero => refine ⟨?_, ?_, ?_⟩ <;> (intros; omega)
  | succ nn ih =>
    refine ⟨?_, ?_, ?_⟩
    · intro x5 x6 x7 x8 x9 x10 M hS k5 k6 k7 k8 k9 k10 hK hgg v0 v1 v2 v3 v4 v5 hnn
      refine n_iload c_45_86 rfl ?_
      refine n_iload c_45_88 rfl ?_
      refine n_if2_ge c_45_90 (by omega) (by omega) ?_ ?_
      · intro h1
        exact n_rV c_45_187 rfl ⟨hS, by omega, hK, by exact v4, by exact fun c h0 h1 => v5 c h0 (by omega)⟩
      · intro h2
        refine n_aload_n c_45_93 rfl ?_
        refine n_iload c_45_94 rfl ?_
        refine n_iload c_45_96 rfl ?_
        refine n_iadd c_45_98 rfl ?_
        refine n_ialoadV c_45_99 hp.c0.2.1.n rfl rfl rfl (by omega) (t_actrl hS hp hpl (Or.inl rfl) (by omega) (by omega)) ?_
        intro z3 ez3 f4
        refine n_aload_n c_45_100 rfl ?_
        refine n_getV (bi := 1) c_45_101 sc_25.n rfl rfl rfl hK.w25.1 ?_
        intro z5 ez5 f6
        obtain rfl : z5 = 1 := by omega
        refine n_imul c_45_104 rfl ?_
        refine n_istore (L2 := [some (2, 25), none, some (2, (p + 1)), none, none, some (0, x5), some (0, x6), some (0, x7), some (0, x8), some (0, x9), some (0, x10), some (0, (z3 * 1)), none, none, none]) c_45_105 rfl rfl ?_
        refine n_iconst c_45_107 ?_
        refine n_istore (L2 := [some (2, 25), none, some (2, (p + 1)), none, none, some (0, x5), some (0, x6), some (0, x7), some (0, x8), some (0, x9), some (0, x10), some (0, (z3 * 1)), some (0, 0), none, none]) c_45_108 rfl rfl ?_
        refine n_fg (le_s (le_n (le_s (le_n (le_n (le_s (le_s (le_s (le_s (le_s (le_s (le_s (le_s (le_n (le_n le_0))))))))))))))) ?_
        exact ih.2.1 _ _ _ _ _ _ _ _ M hS (by omega) (by omega) (by omega) (by omega) (by omega) (by omega) (by omega) (by omega) hK (by omega) (by omega) (by exact v1) (by exact v2) (by exact v3) (by exact v4) (by exact v5) (by have u1 := v4 (p + 1) (x6 + x10) (by omega); omega) (by omega)
    · intro x5 x6 x7 x8 x9 x10 x11 x12 M hS k5 k6 k7 k8 k9 k10 k11 k12 hK hgg v0 v1 v2 v3 v4 v5 v6 hnn
      refine n_iload c_45_110 rfl ?_
      refine n_iload c_45_112 rfl ?_
      refine n_if2_ge c_45_114 (by omega) (by omega) ?_ ?_
      · intro h1
        refine n_iinc (L2 := [some (2, 25), none, some (2, (p + 1)), none, none, some (0, x5), some (0, x6), some (0, x7), some (0, x8), some (0, x9), some (0, (x10 + 1)), some (0, x11), some (0, x12), none, none]) c_45_181 rfl rfl rfl ?_
        refine n_goto c_45_184 ?_
        refine n_fg (le_s (le_n (le_s (le_n (le_n (le_s (le_s (le_s (le_s (le_s (le_s (le_n (le_n (le_n (le_n le_0))))))))))))))) ?_
        exact ih.1 _ _ _ _ _ _ M hS (by omega) (by omega) (by omega) (by omega) (by omega) (by omega) hK (by omega) (by omega) (by exact v1) (by exact v2) (by exact v3) (by exact v4) (by exact v5) (by omega)
      · intro h2
        refine n_iload c_45_117 rfl ?_
        refine n_aload_n c_45_119 rfl ?_
        refine n_iload c_45_120 rfl ?_
        refine n_iload c_45_122 rfl ?_
        refine n_iadd c_45_124 rfl ?_
        refine n_ialoadV c_45_125 hp.c0.2.1.n rfl rfl rfl (by omega) (t_actrl hS hp hpl (Or.inl rfl) (by omega) (by omega)) ?_
        intro z3 ez3 f4
        refine n_aload_n c_45_126 rfl ?_
        refine n_getV (bi := 2) c_45_127 sc_25.n rfl rfl rfl hK.w25.2.1 ?_
        intro z5 ez5 f6
        obtain rfl : z5 = 2 := by omega
        refine n_imul c_45_130 rfl ?_
        refine n_iadd c_45_131 rfl ?_
        refine n_istore (L2 := [some (2, 25), none, some (2, (p + 1)), none, none, some (0, x5), some (0, x6), some (0, x7), some (0, x8), some (0, x9), some (0, x10), some (0, x11), some (0, x12), some (0, (x11 + (z3 * 2))), none]) c_45_132 rfl rfl ?_
        refine n_iconst c_45_134 ?_
        refine n_istore (L2 := [some (2, 25), none, some (2, (p + 1)), none, none, some (0, x5), some (0, x6), some (0, x7), some (0, x8), some (0, x9), some (0, x10), some (0, x11), some (0, x12), some (0, (x11 + (z3 * 2))), some (0, 0)]) c_45_135 rfl rfl ?_
        refine n_fg (le_s (le_n (le_s (le_n (le_n (le_s (le_s (le_s (le_s (le_s (le_s (le_s (le_s (le_s (le_s le_0))))))))))))))) ?_
        exact ih.2.2 _ _ _ _ _ _ _ _ _ _ M hS (by omega) (by omega) (by omega) (by omega) (by omega) (by omega) (by omega) (by omega) (by omega) (by omega) hK (by omega) (by omega) (by exact v1) (by exact v2) (by exact v3) (by exact v4) (by exact v5) (by exact v6) (by have u1 := v4 (p + 1) (x7 + x12) (by omega); omega) (by omega)
    · intro x5 x6 x7 x8 x9 x10 x11 x12 x13 x14 M hS k5 k6 k7 k8 k9 k10 k11 k12 k13 k14 hK hgg v0 v1 v2 v3 v4 v5 v6 v7 hnn
      have vf := v4
      refine n_iload c_45_137 rfl ?_
      refine n_iload c_45_139 rfl ?_
      refine n_if2_ge c_45_141 (by omega) (by omega) ?_ ?_
      · intro h1
        refine n_iinc (L2 := [some (2, 25), none, some (2, (p + 1)), none, none, some (0, x5), some (0, x6), some (0, x7), some (0, x8), some (0, x9), some (0, x10), some (0, x11), some (0, (x12 + 1)), some (0, x13), some (0, x14)]) c_45_175 rfl rfl rfl ?_
        refine n_goto c_45_178 ?_
        refine n_fg (le_s (le_n (le_s (le_n (le_n (le_s (le_s (le_s (le_s (le_s (le_s (le_s (le_s (le_n (le_n le_0))))))))))))))) ?_
        exact ih.2.1 _ _ _ _ _ _ _ _ M hS (by omega) (by omega) (by omega) (by omega) (by omega) (by omega) (by omega) (by omega) hK (by omega) (by omega) (by exact v1) (by exact v2) (by exact v3) (by exact v4) (by exact v5) (by exact v6) (by omega)
      · intro h2
        refine n_aload_n c_45_144 rfl ?_
        refine n_getR c_45_145 sc_25.n rfl rfl rfl r_25_0 ?_
        refine n_iload c_45_148 rfl ?_
        refine n_iload c_45_150 rfl ?_
        refine n_aload_n c_45_152 rfl ?_
        refine n_iload c_45_153 rfl ?_
        refine n_iload c_45_155 rfl ?_
        refine n_iadd c_45_157 rfl ?_
        refine n_ialoadV c_45_158 hp.c0.2.1.n rfl rfl rfl (by omega) (t_actrl hS hp hpl (Or.inl rfl) (by omega) (by omega)) ?_
        intro z3 ez3 f4
        refine n_aload_n c_45_159 rfl ?_
        refine n_getV (bi := 3) c_45_160 sc_25.n rfl rfl rfl hK.w25.2.2 ?_
        intro z5 ez5 f6
        obtain rfl : z5 = 0 := by omega
        refine n_imul c_45_163 rfl ?_
        refine n_iadd c_45_164 rfl ?_
        refine n_iastoreV hS c_45_165 sc_26.n rfl (by omega) (w_26 (by omega) (by omega)) ?_
        intro M7 eM7 hS7
        have hK7 := hK.u (by unfold Kok; omega) eM7
        have g7_0 : M7 15 10 = M 15 10 := by rw [eM7]; exact nu_a (by omega)
        refine n_iinc (L2 := [some (2, 25), none, some (2, (p + 1)), none, none, some (0, x5), some (0, x6), some (0, x7), some (0, x8), some (0, (x9 + 1)), some (0, x10), some (0, x11), some (0, x12), some (0, x13), some (0, x14)]) c_45_166 rfl rfl rfl ?_
        refine n_iinc (L2 := [some (2, 25), none, some (2, (p + 1)), none, none, some (0, x5), some (0, x6), some (0, x7), some (0, x8), some (0, (x9 + 1)), some (0, x10), some (0, x11), some (0, x12), some (0, x13), some (0, (x14 + 1))]) c_45_169 rfl rfl rfl ?_
        refine n_goto c_45_172 ?_
        refine n_fg (le_s (le_n (le_s (le_n (le_n (le_s (le_s (le_s (le_s (le_s (le_s (le_s (le_s (le_s (le_s le_0))))))))))))))) ?_
        exact ih.2.2 _ _ _ _ _ _ _ _ _ _ M7 hS7 (by omega) (by omega) (by omega) (by omega) (by omega) (by omega) (by omega) (by omega) (by omega) (by omega) hK7 (by omega) (by omega) (by exact v1) (by exact v2) (by exact v3) (by exact FCm.u v4 eM7) (by exact fun c h0 h1 => by rw [eM7, nu_e]; by_cases e : c = x9; (rw [if_pos ⟨rfl, e⟩, e]; show _ = Ms (p + 1) ((i / (2 * 2) * 2 + j / (2 * 2)) * 2 + x9 / (2 * 2)) * 1 + Ms (p + 1) ((i / 2 % 2 * 2 + j / 2 % 2) * 2 + x9 / 2 % 2) * 2 + Ms (p + 1) ((i % 2 * 2 + j % 2) * 2 + x9 % 2) * 0; rw [show x9 / (2 * 2) = x10 by omega, show x9 / 2 % 2 = x12 by omega, show x9 % 2 = x14 by omega, ← v1, ← v2, ← v3]; have u3 := vf (p + 1) (x8 + x14) (by omega); omega); (rw [if_neg (fun u => e u.2)]; exact v5 c h0 (by omega))) (by exact v6) (by exact v7) (by omega)
set_option maxHeartbeats 4000000 in
theorem fillMX25T_1_2 {xs : List Int32} {e : Nat} {ac : Int} {M0 M : nM} {p i j g : Int} {Ms : nM} (hS : Sf 2 ac M0 M) (hp : ActAt p) (hpl : p < 55 + 3 * ac) (hi : 0 ≤ i ∧ i ≤ 7) (hj : 0 ≤ j ∧ j ≤ 7) (hK : MK 4 8 3 0 0 1 2 0 0 0 0 0 0 0 M) (hg : M 15 10 = g) (hms : M = Ms) : nW xs e 45 0 [some (2, 25), some (2, 4), some (2, (p + 1)), some (0, i), some (0, j), none, none, none, none, none, none, none, none, none, none] [] M (nPV fun M1 => Sf 2 ac M0 M1 ∧ (M1 15 10 = g) ∧ MK 4 8 3 0 0 1 2 0 0 0 0 0 0 0 M1 ∧ (FCm 26 Ms M1) ∧ (∀ c : Int, 0 ≤ c → c < 2 * 2 * 2 → M1 26 c = linw 2 (fun i => Ms (p + 1) i) 1 2 0 i j c)) := by
  have hd : (2 : Int) = 2 ∨ (2 : Int) = 3 := by decide
  have hac := hS.2.2.2.2
  have hpb := hp.1
  refine n_aload_n c_45_0 rfl ?_
  refine n_getV (bi := 1) c_45_1 sc_25.n rfl rfl rfl hK.w25.1 ?_
  intro z1 ez1 f2
  obtain rfl : z1 = 1 := by omega
  refine n_if0_ne c_45_4 (by omega) ?_ ?_
  · intro h3
    refine n_aload_n c_45_8 rfl ?_
    refine n_getV (bi := 0) c_45_9 sc_4.n rfl rfl rfl (t_4_0 hS) ?_
    intro z4 ez4 f5
    obtain rfl : z4 = 2 := by omega
    refine n_istore (L2 := [some (2, 25), some (2, 4), some (2, (p + 1)), some (0, i), some (0, j), some (0, 2), none, none, none, none, none, none, none, none, none]) c_45_12 rfl rfl ?_
    refine n_aload_n c_45_14 rfl ?_
    refine n_getR c_45_15 sc_4.n rfl rfl rfl r_4_2 ?_
    refine n_iload_n c_45_18 rfl ?_
    refine n_ialoadV c_45_19 sc_5.n rfl rfl rfl (by omega) (t_5d hS hd (by omega) (by omega)) ?_
    intro z6 ez6 f7
    have q19 := t_5e hS (i := i) (by omega) (by omega)
    refine n_iload c_45_20 rfl ?_
    refine n_imul c_45_22 rfl ?_
    refine n_aload_n c_45_23 rfl ?_
    refine n_getR c_45_24 sc_4.n rfl rfl rfl r_4_2 ?_
    refine n_iload c_45_27 rfl ?_
    refine n_ialoadV c_45_29 sc_5.n rfl rfl rfl (by omega) (t_5d hS hd (by omega) (by omega)) ?_
    intro z8 ez8 f9
    have q29 := t_5e hS (i := j) (by omega) (by omega)
    refine n_iadd c_45_30 rfl ?_
    refine n_iload c_45_31 rfl ?_
    refine n_imul c_45_33 rfl ?_
    refine n_istore (L2 := [some (2, 25), some (2, 4), some (2, (p + 1)), some (0, i), some (0, j), some (0, 2), some (0, (((z6 * 2) + z8) * 2)), none, none, none, none, none, none, none, none]) c_45_34 rfl rfl ?_
    refine n_aload_n c_45_36 rfl ?_
    refine n_getR c_45_37 sc_4.n rfl rfl rfl r_4_3 ?_
    refine n_iload_n c_45_40 rfl ?_
    refine n_ialoadV c_45_41 sc_6.n rfl rfl rfl (by omega) (t_6d hS hd (by omega) (by omega)) ?_
    intro z10 ez10 f11
    have q41 := t_6e hS (i := i) (by omega) (by omega)
    refine n_iload c_45_42 rfl ?_
    refine n_imul c_45_44 rfl ?_
    refine n_aload_n c_45_45 rfl ?_
    refine n_getR c_45_46 sc_4.n rfl rfl rfl r_4_3 ?_
    refine n_iload c_45_49 rfl ?_
    refine n_ialoadV c_45_51 sc_6.n rfl rfl rfl (by omega) (t_6d hS hd (by omega) (by omega)) ?_
    intro z12 ez12 f13
    have q51 := t_6e hS (i := j) (by omega) (by omega)
    refine n_iadd c_45_52 rfl ?_
    refine n_iload c_45_53 rfl ?_
    refine n_imul c_45_55 rfl ?_
    refine n_istore (L2 := [some (2, 25), some (2, 4), some (2, (p + 1)), some (0, i), some (0, j), some (0, 2), some (0, (((z6 * 2) + z8) * 2)), some (0, (((z10 * 2) + z12) * 2)), none, none, none, none, none, none, none]) c_45_56 rfl rfl ?_
    refine n_aload_n c_45_58 rfl ?_
    refine n_getR c_45_59 sc_4.n rfl rfl rfl r_4_4 ?_
    refine n_iload_n c_45_62 rfl ?_
    refine n_ialoadV c_45_63 sc_7.n rfl rfl rfl (by omega) (t_7d hS hd (by omega) (by omega)) ?_
    intro z14 ez14 f15
    have q63 := t_7e hS (i := i) (by omega) (by omega)
    refine n_iload c_45_64 rfl ?_
    refine n_imul c_45_66 rfl ?_
    refine n_aload_n c_45_67 rfl ?_
    refine n_getR c_45_68 sc_4.n rfl rfl rfl r_4_4 ?_
    refine n_iload c_45_71 rfl ?_
    refine n_ialoadV c_45_73 sc_7.n rfl rfl rfl (by omega) (t_7d hS hd (by omega) (by omega)) ?_
    intro z16 ez16 f17
    have q73 := t_7e hS (i := j) (by omega) (by omega)
    refine n_iadd c_45_74 rfl ?_
    refine n_iload c_45_75 rfl ?_
    refine n_imul c_45_77 rfl ?_
    refine n_istore (L2 := [some (2, 25), some (2, 4), some (2, (p + 1)), some (0, i), some (0, j), some (0, 2), some (0, (((z6 * 2) + z8) * 2)), some (0, (((z10 * 2) + z12) * 2)), some (0, (((z14 * 2) + z16) * 2)), none, none, none, none, none, none]) c_45_78 rfl rfl ?_
    refine n_iconst c_45_80 ?_
    refine n_istore (L2 := [some (2, 25), some (2, 4), some (2, (p + 1)), some (0, i), some (0, j), some (0, 2), some (0, (((z6 * 2) + z8) * 2)), some (0, (((z10 * 2) + z12) * 2)), some (0, (((z14 * 2) + z16) * 2)), some (0, 0), none, none, none, none, none]) c_45_81 rfl rfl ?_
    refine n_iconst c_45_83 ?_
    refine n_istore (L2 := [some (2, 25), some (2, 4), some (2, (p + 1)), some (0, i), some (0, j), some (0, 2), some (0, (((z6 * 2) + z8) * 2)), some (0, (((z10 * 2) + z12) * 2)), some (0, (((z14 * 2) + z16) * 2)), some (0, 0), some (0, 0), none, none, none, none]) c_45_84 rfl rfl ?_
    refine n_fg (le_s (le_n (le_s (le_n (le_n (le_s (le_s (le_s (le_s (le_s (le_s (le_n (le_n (le_n (le_n le_0))))))))))))))) ?_
    exact (fillMX25T_1_2_c hS hp hpl hi hj hK hg hms 178).1 _ _ _ _ _ _ M hS (by omega) (by omega) (by omega) (by omega) (by omega) (by omega) hK (by omega) (by omega) (by omega) (by omega) (by omega) (by subst hms; exact fun _ _ _ => rfl) (by exact fun c h0 h1 => by omega) (by omega)
  · intro h18
    exfalso; omega

set_option maxHeartbeats 4000000 in
theorem fillMX27T_1_2 {xs : List Int32} {e : Nat} {ac : Int} {M0 M : nM} {p i j g : Int} {Ms : nM} (hS : Sf 2 ac M0 M) (hp : ActAt p) (hpl : p < 55 + 3 * ac) (hi : 0 ≤ i ∧ i ≤ 7) (hj : 0 ≤ j ∧ j ≤ 7) (hK : MK 4 8 3 0 0 1 2 0 0 0 0 0 0 0 M) (hg : M 15 10 = g) (hms : M = Ms) : nW xs e 45 0 [some (2, 27), some (2, 4), some (2, (p + 1)), some (0, i), some (0, j), none, none, none, none, none, none, none, none, none, none] [] M (nPV fun M1 => Sf 2 ac M0 M1 ∧ (M1 15 10 = g) ∧ MK 4 8 3 0 0 1 2 0 0 0 0 0 0 0 M1 ∧ (FCm 28 Ms M1) ∧ (∀ c : Int, 0 ≤ c → c < 2 * 2 * 2 → M1 28 c = linw 2 (fun i => Ms (p + 1) i) 0 0 0 i j c)) := by
  have hd : (2 : Int) = 2 ∨ (2 : Int) = 3 := by decide
  have hac := hS.2.2.2.2
  refine n_aload_n c_45_0 rfl ?_
  refine n_getV (bi := 1) c_45_1 sc_27.n rfl rfl rfl hK.w27.1 ?_
  intro z1 ez1 f2
  obtain rfl : z1 = 0 := by omega
  refine n_if0_ne c_45_4 (by omega) ?_ ?_
  · intro h3
    exfalso; omega
  · intro h4
    exact n_rV c_45_7 rfl ⟨hS, by omega, hK, by rw [hms]; exact fun _ _ _ => rfl, by exact fun c h0 h1 => by have u := hK.l28 h0 (show c < 27 by omega); unfold linw; omega⟩

set_option maxHeartbeats 4000000 in
theorem fillMX29T_1_2 {xs : List Int32} {e : Nat} {ac : Int} {M0 M : nM} {p i j g : Int} {Ms : nM} (hS : Sf 2 ac M0 M) (hp : ActAt p) (hpl : p < 55 + 3 * ac) (hi : 0 ≤ i ∧ i ≤ 7) (hj : 0 ≤ j ∧ j ≤ 7) (hK : MK 4 8 3 0 0 1 2 0 0 0 0 0 0 0 M) (hg : M 15 10 = g) (hms : M = Ms) : nW xs e 45 0 [some (2, 29), some (2, 4), some (2, (p + 1)), some (0, i), some (0, j), none, none, none, none, none, none, none, none, none, none] [] M (nPV fun M1 => Sf 2 ac M0 M1 ∧ (M1 15 10 = g) ∧ MK 4 8 3 0 0 1 2 0 0 0 0 0 0 0 M1 ∧ (FCm 30 Ms M1) ∧ (∀ c : Int, 0 ≤ c → c < 2 * 2 * 2 → M1 30 c = linw 2 (fun i => Ms (p + 1) i) 0 0 0 i j c)) := by
  have hd : (2 : Int) = 2 ∨ (2 : Int) = 3 := by decide
  have hac := hS.2.2.2.2
  refine n_aload_n c_45_0 rfl ?_
  refine n_getV (bi := 1) c_45_1 sc_29.n rfl rfl rfl hK.w29.1 ?_
  intro z1 ez1 f2
  obtain rfl : z1 = 0 := by omega
  refine n_if0_ne c_45_4 (by omega) ?_ ?_
  · intro h3
    exfalso; omega
  · intro h4
    exact n_rV c_45_7 rfl ⟨hS, by omega, hK, by rw [hms]; exact fun _ _ _ => rfl, by exact fun c h0 h1 => by have u := hK.l30 h0 (show c < 27 by omega); unfold linw; omega⟩

set_option maxHeartbeats 4000000 in
theorem fillMX25U_1_2_c {xs : List Int32} {e : Nat} {ac : Int} {M0 M : nM} {p i j g : Int} {Ms : nM} (hS : Sf 2 ac M0 M) (hp : ActAt p) (hpl : p < 55 + 3 * ac) (hi : 0 ≤ i ∧ i ≤ 7) (hj : 0 ≤ j ∧ j ≤ 7) (hK : MK 4 8 3 0 0 1 2 0 0 0 0 0 0 0 M) (hg : M 15 10 = g) (hms : M = Ms) : ∀ nn : Nat, (∀ (x5 x6 x7 x8 x9 x10 : Int) (M : nM), Sf 2 ac M0 M → (2 ≤ x5 ∧ x5 ≤ 2) → (0 ≤ x6 ∧ x6 ≤ 6) → (0 ≤ x7 ∧ x7 ≤ 6) → (0 ≤ x8 ∧ x8 ≤ 6) → (0 ≤ x9 ∧ x9 ≤ 8) → (0 ≤ x10 ∧ x10 ≤ 2) → (MK 4 8 3 0 0 1 2 0 0 0 0 0 0 0 M) → (M 15 10 = g) → (x9 = 4 * x10) → (x6 = (i / (2 * 2) * 2 + j / (2 * 2)) * 2) → (x7 = (i / 2 % 2 * 2 + j / 2 % 2) * 2) → (x8 = (i % 2 * 2 + j % 2) * 2) → (FCm 26 Ms M) → (∀ c : Int, 0 ≤ c → c < x9 → M 26 c = linw 2 (fun i => Ms (p + 2) i) 1 2 0 i j c) → (2 - x10) * 21 + 21 < (nn : Int) → nW xs e 45 86 [some (2, 25), none, some (2, (p + 2)), none, none, some (0, x5), some (0, x6), some (0, x7), some (0, x8), some (0, x9), some (0, x10), none, none, none, none] [] M (nPV fun M1 => Sf 2 ac M0 M1 ∧ (M1 15 10 = g) ∧ MK 4 8 3 0 0 1 2 0 0 0 0 0 0 0 M1 ∧ (FCm 26 Ms M1) ∧ (∀ c : Int, 0 ≤ c → c < 2 * 2 * 2 → M1 26 c = linw 2 (fun i => Ms (p + 2) i) 1 2 0 i j c))) ∧ (∀ (x5 x6 x7 x8 x9 x10 x11 x12 : Int) (M : nM), Sf 2 ac M0 M → (2 ≤ x5 ∧ x5 ≤ 2) → (0 ≤ x6 ∧ x6 ≤ 6) → (0 ≤ x7 ∧ x7 ≤ 6) → (0 ≤ x8 ∧ x8 ≤ 6) → (0 ≤ x9 ∧ x9 ≤ 8) → (0 ≤ x10 ∧ x10 ≤ 1) → (0 ≤ x11 ∧ x11 ≤ 1) → (0 ≤ x12 ∧ x12 ≤ 2) → (MK 4 8 3 0 0 1 2 0 0 0 0 0 0 0 M) → (M 15 10 = g) → (x9 = 4 * x10 + 2 * x12) → (x6 = (i / (2 * 2) * 2 + j / (2 * 2)) * 2) → (x7 = (i / 2 % 2 * 2 + j / 2 % 2) * 2) → (x8 = (i % 2 * 2 + j % 2) * 2) → (FCm 26 Ms M) → (∀ c : Int, 0 ≤ c → c < x9 → M 26 c = linw 2 (fun i => Ms (p + 2) i) 1 2 0 i j c) → (x11 = Ms (p + 2) (x6 + x10) * 1) → (2 - x10) * 21 + (2 - x12) * 5 + 5 < (nn : Int) → nW xs e 45 110 [some (2, 25), none, some (2, (p + 2)), none, none, some (0, x5), some (0, x6), some (0, x7), some (0, x8), some (0, x9), some (0, x10), some (0, x11), some (0, x12), none, none] [] M (nPV fun M1 => Sf 2 ac M0 M1 ∧ (M1 15 10 = g) ∧ MK 4 8 3 0 0 1 2 0 0 0 0 0 0 0 M1 ∧ (FCm 26 Ms M1) ∧ (∀ c : Int, 0 ≤ c → c < 2 * 2 * 2 → M1 26 c = linw 2 (fun i => Ms (p + 2) i) 1 2 0 i j c))) ∧ (∀ (x5 x6 x7 x8 x9 x10 x11 x12 x13 x14 : Int) (M : nM), Sf 2 ac M0 M → (2 ≤ x5 ∧ x5 ≤ 2) → (0 ≤ x6 ∧ x6 ≤ 6) → (0 ≤ x7 ∧ x7 ≤ 6) → (0 ≤ x8 ∧ x8 ≤ 6) → (0 ≤ x9 ∧ x9 ≤ 8) → (0 ≤ x10 ∧ x10 ≤ 1) → (0 ≤ x11 ∧ x11 ≤ 1) → (0 ≤ x12 ∧ x12 ≤ 1) → (0 ≤ x13 ∧ x13 ≤ 3) → (0 ≤ x14 ∧ x14 ≤ 2) → (MK 4 8 3 0 0 1 2 0 0 0 0 0 0 0 M) → (M 15 10 = g) → (x9 = 4 * x10 + 2 * x12 + x14) → (x6 = (i / (2 * 2) * 2 + j / (2 * 2)) * 2) → (x7 = (i / 2 % 2 * 2 + j / 2 % 2) * 2) → (x8 = (i % 2 * 2 + j % 2) * 2) → (FCm 26 Ms M) → (∀ c : Int, 0 ≤ c → c < x9 → M 26 c = linw 2 (fun i => Ms (p + 2) i) 1 2 0 i j c) → (x11 = Ms (p + 2) (x6 + x10) * 1) → (x13 = Ms (p + 2) (x6 + x10) * 1 + Ms (p + 2) (x7 + x12) * 2) → (2 - x10) * 21 + (2 - x12) * 5 + (2 - x14) * 1 + 1 < (nn : Int) → nW xs e 45 137 [some (2, 25), none, some (2, (p + 2)), none, none, some (0, x5), some (0, x6), some (0, x7), some (0, x8), some (0, x9), some (0, x10), some (0, x11), some (0, x12), some (0, x13), some (0, x14)] [] M (nPV fun M1 => Sf 2 ac M0 M1 ∧ (M1 15 10 = g) ∧ MK 4 8 3 0 0 1 2 0 0 0 0 0 0 0 M1 ∧ (FCm 26 Ms M1) ∧ (∀ c : Int, 0 ≤ c → c < 2 * 2 * 2 → M1 26 c = linw 2 (fun i => Ms (p + 2) i) 1 2 0 i j c))) := by
  have hd : (2 : Int) = 2 ∨ (2 : Int) = 3 := by decide
  have hac := hS.2.2.2.2
  have hpb := hp.1
  intro nn
  induction nn with
  | zero => refine ⟨?_, ?_, ?_⟩ <;> (intros; omega)
  | succ nn ih =>
    refine ⟨?_, ?_, ?_⟩
    · intro x5 x6 x7 x8 x9 x10 M hS k5 k6 k7 k8 k9 k10 hK hgg v0 v1 v2 v3 v4 v5 hnn
      refine n_iload c_45_86 rfl ?_
      refine n_iload c_45_88 rfl ?_
      refine n_if2_ge c_45_90 (by omega) (by omega) ?_ ?_
      · intro h1
        exact n_rV c_45_187 rfl ⟨hS, by omega, hK, by exact v4, by exact fun c h0 h1 => v5 c h0 (by omega)⟩
      · intro h2
        refine n_aload_n c_45_93 rfl ?_
        refine n_iload c_45_94 rfl ?_
        refine n_iload c_45_96 rfl ?_
        refine n_iadd c_45_98 rfl ?_
        refine n_ialoadV c_45_99 hp.c0.2.2.n rfl rfl rfl (by omega) (t_actrl hS hp hpl (Or.inr rfl) (by omega) (by omega)) ?_
        intro z3 ez3 f4
        refine n_aload_n c_45_100 rfl ?_
        refine n_getV (bi := 1) c_45_101 sc_25.n rfl rfl rfl hK.w25.1 ?_
        intro z5 ez5 f6
        obtain rfl : z5 = 1 := by omega
        refine n_imul c_45_104 rfl ?_
        refine n_istore (L2 := [some (2, 25), none, some (2, (p + 2)), none, none, some (0, x5), some (0, x6), some (0, x7), some (0, x8), some (0, x9), some (0, x10), some (0, (z3 * 1)), none, none, none]) c_45_105 rfl rfl ?_
        refine n_iconst c_45_107 ?_
        refine n_istore (L2 := [some (2, 25), none, some (2, (p + 2)), none, none, some (0, x5), some (0, x6), some (0, x7), some (0, x8), some (0, x9), some (0, x10), some (0, (z3 * 1)), some (0, 0), none, none]) c_45_108 rfl rfl ?_
        refine n_fg (le_s (le_n (le_s (le_n (le_n (le_s (le_s (le_s (le_s (le_s (le_s (le_s (le_s (le_n (le_n le_0))))))))))))))) ?_
        exact ih.2.1 _ _ _ _ _ _ _ _ M hS (by omega) (by omega) (by omega) (by omega) (by omega) (by omega) (by omega) (by omega) hK (by omega) (by omega) (by exact v1) (by exact v2) (by exact v3) (by exact v4) (by exact v5) (by have u1 := v4 (p + 2) (x6 + x10) (by omega); omega) (by omega)
    · intro x5 x6 x7 x8 x9 x10 x11 x12 M hS k5 k6 k7 k8 k9 k10 k11 k12 hK hgg v0 v1 v2 v3 v4 v5 v6 hnn
      refine n_iload c_45_110 rfl ?_
      refine n_iload c_45_112 rfl ?_
      refine n_if2_ge c_45_114 (by omega) (by omega) ?_ ?_
      · intro h1
        refine n_iinc (L2 := [some (2, 25), none, some (2, (p + 2)), none, none, some (0, x5), some (0, x6), some (0, x7), some (0, x8), some (0, x9), some (0, (x10 + 1)), some (0, x11), some (0, x12), none, none]) c_45_181 rfl rfl rfl ?_
        refine n_goto c_45_184 ?_
        refine n_fg (le_s (le_n (le_s (le_n (le_n (le_s (le_s (le_s (le_s (le_s (le_s (le_n (le_n (le_n (le_n le_0))))))))))))))) ?_
        exact ih.1 _ _ _ _ _ _ M hS (by omega) (by omega) (by omega) (by omega) (by omega) (by omega) hK (by omega) (by omega) (by exact v1) (by exact v2) (by exact v3) (by exact v4) (by exact v5) (by omega)
      · intro h2
        refine n_iload c_45_117 rfl ?_
        refine n_aload_n c_45_119 rfl ?_
        refine n_iload c_45_120 rfl ?_
        refine n_iload c_45_122 rfl ?_
        refine n_iadd c_45_124 rfl ?_
        refine n_ialoadV c_45_125 hp.c0.2.2.n rfl rfl rfl (by omega) (t_actrl hS hp hpl (Or.inr rfl) (by omega) (by omega)) ?_
        intro z3 ez3 f4
        refine n_aload_n c_45_126 rfl ?_
        refine n_getV (bi := 2) c_45_127 sc_25.n rfl rfl rfl hK.w25.2.1 ?_
        intro z5 ez5 f6
        obtain rfl : z5 = 2 := by omega
        refine n_imul c_45_130 rfl ?_
        refine n_iadd c_45_131 rfl ?_
        refine n_istore (L2 := [some (2, 25), none, some (2, (p + 2)), none, none, some (0, x5), some (0, x6), some (0, x7), some (0, x8), some (0, x9), some (0, x10), some (0, x11), some (0, x12), some (0, (x11 + (z3 * 2))), none]) c_45_132 rfl rfl ?_
        refine n_iconst c_45_134 ?_
        refine n_istore (L2 := [some (2, 25), none, some (2, (p + 2)), none, none, some (0, x5), some (0, x6), some (0, x7), some (0, x8), some (0, x9), some (0, x10), some (0, x11), some (0, x12), some (0, (x11 + (z3 * 2))), some (0, 0)]) c_45_135 rfl rfl ?_
        refine n_fg (le_s (le_n (le_s (le_n (le_n (le_s (le_s (le_s (le_s (le_s (le_s (le_s (le_s (le_s (le_s le_0))))))))))))))) ?_
        exact ih.2.2 _ _ _ _ _ _ _ _ _ _ M hS (by omega) (by omega) (by omega) (by omega) (by omega) (by omega) (by omega) (by omega) (by omega) (by omega) hK (by omega) (by omega) (by exact v1) (by exact v2) (by exact v3) (by exact v4) (by exact v5) (by exact v6) (by have u1 := v4 (p + 2) (x7 + x12) (by omega); omega) (by omega)
    · intro x5 x6 x7 x8 x9 x10 x11 x12 x13 x14 M hS k5 k6 k7 k8 k9 k10 k11 k12 k13 k14 hK hgg v0 v1 v2 v3 v4 v5 v6 v7 hnn
      have vf := v4
      refine n_iload c_45_137 rfl ?_
      refine n_iload c_45_139 rfl ?_
      refine n_if2_ge c_45_141 (by omega) (by omega) ?_ ?_
      · intro h1
        refine n_iinc (L2 := [some (2, 25), none, some (2, (p + 2)), none, none, some (0, x5), some (0, x6), some (0, x7), some (0, x8), some (0, x9), some (0, x10), some (0, x11), some (0, (x12 + 1)), some (0, x13), some (0, x14)]) c_45_175 rfl rfl rfl ?_
        refine n_goto c_45_178 ?_
        refine n_fg (le_s (le_n (le_s (le_n (le_n (le_s (le_s (le_s (le_s (le_s (le_s (le_s (le_s (le_n (le_n le_0))))))))))))))) ?_
        exact ih.2.1 _ _ _ _ _ _ _ _ M hS (by omega) (by omega) (by omega) (by omega) (by omega) (by omega) (by omega) (by omega) hK (by omega) (by omega) (by exact v1) (by exact v2) (by exact v3) (by exact v4) (by exact v5) (by exact v6) (by omega)
      · intro h2
        refine n_aload_n c_45_144 rfl ?_
        refine n_getR c_45_145 sc_25.n rfl rfl rfl r_25_0 ?_
        refine n_iload c_45_148 rfl ?_
        refine n_iload c_45_150 rfl ?_
        refine n_aload_n c_45_152 rfl ?_
        refine n_iload c_45_153 rfl ?_
        refine n_iload c_45_155 rfl ?_
        refine n_iadd c_45_157 rfl ?_
        refine n_ialoadV c_45_158 hp.c0.2.2.n rfl rfl rfl (by omega) (t_actrl hS hp hpl (Or.inr rfl) (by omega) (by omega)) ?_
        intro z3 ez3 f4
        refine n_aload_n c_45_159 rfl ?_
        refine n_getV (bi := 3) c_45_160 sc_25.n rfl rfl rfl hK.w25.2.2 ?_
        intro z5 ez5 f6
        obtain rfl : z5 = 0 := by omega
        refine n_imul c_45_163 rfl ?_
        refine n_iadd c_45_164 rfl ?_
        refine n_iastoreV hS c_45_165 sc_26.n rfl (by omega) (w_26 (by omega) (by omega)) ?_
        intro M7 eM7 hS7
        have hK7 := hK.u (by unfold Kok; omega) eM7
        have g7_0 : M7 15 10 = M 15 10 := by rw [eM7]; exact nu_a (by omega)
        refine n_iinc (L2 := [some (2, 25), none, some (2, (p + 2)), none, none, some (0, x5), some (0, x6), some (0, x7), some (0, x8), some (0, (x9 + 1)), some (0, x10), some (0, x11), some (0, x12), some (0, x13), some (0, x14)]) c_45_166 rfl rfl rfl ?_
        refine n_iinc (L2 := [some (2, 25), none, some (2, (p + 2)), none, none, some (0, x5), some (0, x6), some (0, x7), some (0, x8), some (0, (x9 + 1)), some (0, x10), some (0, x11), some (0, x12), some (0, x13), some (0, (x14 + 1))]) c_45_169 rfl rfl rfl ?_
        refine n_goto c_45_172 ?_
        refine n_fg (le_s (le_n (le_s (le_n (le_n (le_s (le_s (le_s (le_s (le_s (le_s (le_s (le_s (le_s (le_s le_0))))))))))))))) ?_
        exact ih.2.2 _ _ _ _ _ _ _ _ _ _ M7 hS7 (by omega) (by omega) (by omega) (by omega) (by omega) (by omega) (by omega) (by omega) (by omega) (by omega) hK7 (by omega) (by omega) (by exact v1) (by exact v2) (by exact v3) (by exact FCm.u v4 eM7) (by exact fun c h0 h1 => by rw [eM7, nu_e]; by_cases e : c = x9; (rw [if_pos ⟨rfl, e⟩, e]; show _ = Ms (p + 2) ((i / (2 * 2) * 2 + j / (2 * 2)) * 2 + x9 / (2 * 2)) * 1 + Ms (p + 2) ((i / 2 % 2 * 2 + j / 2 % 2) * 2 + x9 / 2 % 2) * 2 + Ms (p + 2) ((i % 2 * 2 + j % 2) * 2 + x9 % 2) * 0; rw [show x9 / (2 * 2) = x10 by omega, show x9 / 2 % 2 = x12 by omega, show x9 % 2 = x14 by omega, ← v1, ← v2, ← v3]; have u3 := vf (p + 2) (x8 + x14) (by omega); omega); (rw [if_neg (fun u => e u.2)]; exact v5 c h0 (by omega))) (by exact v6) (by exact v7) (by omega)
set_option maxHeartbeats 4000000 in
theorem fillMX25U_1_2 {xs : List Int32} {e : Nat} {ac : Int} {M0 M : nM} {p i j g : Int} {Ms : nM} (hS : Sf 2 ac M0 M) (hp : ActAt p) (hpl : p < 55 + 3 * ac) (hi : 0 ≤ i ∧ i ≤ 7) (hj : 0 ≤ j ∧ j ≤ 7) (hK : MK 4 8 3 0 0 1 2 0 0 0 0 0 0 0 M) (hg : M 15 10 = g) (hms : M = Ms) : nW xs e 45 0 [some (2, 25), some (2, 4), some (2, (p + 2)), some (0, i), some (0, j), none, none, none, none, none, none, none, none, none, none] [] M (nPV fun M1 => Sf 2 ac M0 M1 ∧ (M1 15 10 = g) ∧ MK 4 8 3 0 0 1 2 0 0 0 0 0 0 0 M1 ∧ (FCm 26 Ms M1) ∧ (∀ c : Int, 0 ≤ c → c < 2 * 2 * 2 → M1 26 c = linw 2 (fun i => Ms (p + 2) i) 1 2 0 i j c)) := by
  have hd : (2 : Int) = 2 ∨ (2 : Int) = 3 := by decide
  have hac := hS.2.2.2.2
  have hpb := hp.1
  refine n_aload_n c_45_0 rfl ?_
  refine n_getV (bi := 1) c_45_1 sc_25.n rfl rfl rfl hK.w25.1 ?_
  intro z1 ez1 f2
  obtain rfl : z1 = 1 := by omega
  refine n_if0_ne c_45_4 (by omega) ?_ ?_
  · intro h3
    refine n_aload_n c_45_8 rfl ?_
    refine n_getV (bi := 0) c_45_9 sc_4.n rfl rfl rfl (t_4_0 hS) ?_
    intro z4 ez4 f5
    obtain rfl : z4 = 2 := by omega
    refine n_istore (L2 := [some (2, 25), some (2, 4), some (2, (p + 2)), some (0, i), some (0, j), some (0, 2), none, none, none, none, none, none, none, none, none]) c_45_12 rfl rfl ?_
    refine n_aload_n c_45_14 rfl ?_
    refine n_getR c_45_15 sc_4.n rfl rfl rfl r_4_2 ?_
    refine n_iload_n c_45_18 rfl ?_
    refine n_ialoadV c_45_19 sc_5.n rfl rfl rfl (by omega) (t_5d hS hd (by omega) (by omega)) ?_
    intro z6 ez6 f7
    have q19 := t_5e hS (i := i) (by omega) (by omega)
    refine n_iload c_45_20 rfl ?_
    refine n_imul c_45_22 rfl ?_
    refine n_aload_n c_45_23 rfl ?_
    refine n_getR c_45_24 sc_4.n rfl rfl rfl r_4_2 ?_
    refine n_iload c_45_27 rfl ?_
    refine n_ialoadV c_45_29 sc_5.n rfl rfl rfl (by omega) (t_5d hS hd (by omega) (by omega)) ?_
    intro z8 ez8 f9
    have q29 := t_5e hS (i := j) (by omega) (by omega)
    refine n_iadd c_45_30 rfl ?_
    refine n_iload c_45_31 rfl ?_
    refine n_imul c_45_33 rfl ?_
    refine n_istore (L2 := [some (2, 25), some (2, 4), some (2, (p + 2)), some (0, i), some (0, j), some (0, 2), some (0, (((z6 * 2) + z8) * 2)), none, none, none, none, none, none, none, none]) c_45_34 rfl rfl ?_
    refine n_aload_n c_45_36 rfl ?_
    refine n_getR c_45_37 sc_4.n rfl rfl rfl r_4_3 ?_
    refine n_iload_n c_45_40 rfl ?_
    refine n_ialoadV c_45_41 sc_6.n rfl rfl rfl (by omega) (t_6d hS hd (by omega) (by omega)) ?_
    intro z10 ez10 f11
    have q41 := t_6e hS (i := i) (by omega) (by omega)
    refine n_iload c_45_42 rfl ?_
    refine n_imul c_45_44 rfl ?_
    refine n_aload_n c_45_45 rfl ?_
    refine n_getR c_45_46 sc_4.n rfl rfl rfl r_4_3 ?_
    refine n_iload c_45_49 rfl ?_
    refine n_ialoadV c_45_51 sc_6.n rfl rfl rfl (by omega) (t_6d hS hd (by omega) (by omega)) ?_
    intro z12 ez12 f13
    have q51 := t_6e hS (i := j) (by omega) (by omega)
    refine n_iadd c_45_52 rfl ?_
    refine n_iload c_45_53 rfl ?_
    refine n_imul c_45_55 rfl ?_
    refine n_istore (L2 := [some (2, 25), some (2, 4), some (2, (p + 2)), some (0, i), some (0, j), some (0, 2), some (0, (((z6 * 2) + z8) * 2)), some (0, (((z10 * 2) + z12) * 2)), none, none, none, none, none, none, none]) c_45_56 rfl rfl ?_
    refine n_aload_n c_45_58 rfl ?_
    refine n_getR c_45_59 sc_4.n rfl rfl rfl r_4_4 ?_
    refine n_iload_n c_45_62 rfl ?_
    refine n_ialoadV c_45_63 sc_7.n rfl rfl rfl (by omega) (t_7d hS hd (by omega) (by omega)) ?_
    intro z14 ez14 f15
    have q63 := t_7e hS (i := i) (by omega) (by omega)
    refine n_iload c_45_64 rfl ?_
    refine n_imul c_45_66 rfl ?_
    refine n_aload_n c_45_67 rfl ?_
    refine n_getR c_45_68 sc_4.n rfl rfl rfl r_4_4 ?_
    refine n_iload c_45_71 rfl ?_
    refine n_ialoadV c_45_73 sc_7.n rfl rfl rfl (by omega) (t_7d hS hd (by omega) (by omega)) ?_
    intro z16 ez16 f17
    have q73 := t_7e hS (i := j) (by omega) (by omega)
    refine n_iadd c_45_74 rfl ?_
    refine n_iload c_45_75 rfl ?_
    refine n_imul c_45_77 rfl ?_
    refine n_istore (L2 := [some (2, 25), some (2, 4), some (2, (p + 2)), some (0, i), some (0, j), some (0, 2), some (0, (((z6 * 2) + z8) * 2)), some (0, (((z10 * 2) + z12) * 2)), some (0, (((z14 * 2) + z16) * 2)), none, none, none, none, none, none]) c_45_78 rfl rfl ?_
    refine n_iconst c_45_80 ?_
    refine n_istore (L2 := [some (2, 25), some (2, 4), some (2, (p + 2)), some (0, i), some (0, j), some (0, 2), some (0, (((z6 * 2) + z8) * 2)), some (0, (((z10 * 2) + z12) * 2)), some (0, (((z14 * 2) + z16) * 2)), some (0, 0), none, none, none, none, none]) c_45_81 rfl rfl ?_
    refine n_iconst c_45_83 ?_
    refine n_istore (L2 := [some (2, 25), some (2, 4), some (2, (p + 2)), some (0, i), some (0, j), some (0, 2), some (0, (((z6 * 2) + z8) * 2)), some (0, (((z10 * 2) + z12) * 2)), some (0, (((z14 * 2) + z16) * 2)), some (0, 0), some (0, 0), none, none, none, none]) c_45_84 rfl rfl ?_
    refine n_fg (le_s (le_n (le_s (le_n (le_n (le_s (le_s (le_s (le_s (le_s (le_s (le_n (le_n (le_n (le_n le_0))))))))))))))) ?_
    exact (fillMX25U_1_2_c hS hp hpl hi hj hK hg hms 178).1 _ _ _ _ _ _ M hS (by omega) (by omega) (by omega) (by omega) (by omega) (by omega) hK (by omega) (by omega) (by omega) (by omega) (by omega) (by subst hms; exact fun _ _ _ => rfl) (by exact fun c h0 h1 => by omega) (by omega)
  · intro h18
    exfalso; omega
