/-! The methods, by program. -/
set_option maxHeartbeats 4000000 in
theorem pairing_3 {xs : List Int32} {e : Nat} {ac : Int} {M0 M : nM} {i : Int} (hS : Sf 3 ac M0 M) (hi : -2147483648 ≤ i ∧ i ≤ 2147483647) : nW xs (e + 3) 112 0 [some (2, 3), some (0, i), none, none, none] [] M (nPI fun z M1 => M = M1 ∧ (-2147483648 ≤ z ∧ z ≤ 2147483647)) := by
  have hd : (3 : Int) = 2 ∨ (3 : Int) = 3 := by decide
  have hac := hS.2.2.2.2
  refine n_aload_n c_112_0 rfl ?_
  refine n_v0A c_112_1 rfl sc_3.n rfl rfl rfl rfl (partings_3  hS ) ?_
  intro z1 M2 hP3
  obtain ⟨eM, f3⟩ := hP3
  subst eM
  obtain rfl : z1 = 1 := f3
  refine n_astore_n (L2 := [some (2, 3), some (0, i), some (2, 1), none, none]) c_112_4 rfl rfl ?_
  refine n_iconst c_112_5 ?_
  refine n_istore_n (L2 := [some (2, 3), some (0, i), some (2, 1), some (0, 0), none]) c_112_6 rfl rfl ?_
  refine n_iconst c_112_7 ?_
  refine n_istore (L2 := [some (2, 3), some (0, i), some (2, 1), some (0, 0), some (0, 0)]) c_112_8 rfl rfl ?_
  refine n_iload c_112_10 rfl ?_
  refine n_aload_n c_112_12 rfl ?_
  refine n_alen c_112_13 sc_1.n rfl ?_
  refine n_if2_ge c_112_14 (by omega) (by omega) ?_ ?_
  · intro h4
    exfalso; omega
  · intro h5
    refine n_aload_n c_112_17 rfl ?_
    refine n_aload_n c_112_18 rfl ?_
    refine n_iload c_112_19 rfl ?_
    refine n_ialoadV c_112_21 sc_1.n rfl rfl rfl (by omega) (t_1_0 hS) ?_
    intro z6 ez6 f7
    have hcst : (z6 : Int) = 0 := by omega
    rw [hcst]
    refine n_v1I c_112_22 rfl sc_3.n rfl rfl rfl rfl (aakp0_3  hS ) ?_
    intro z8 M9 hP10
    obtain ⟨eM, f10⟩ := hP10
    subst eM
    refine n_if0_eq c_112_25 (by omega) ?_ ?_
    · intro h11
      refine n_iinc (L2 := [some (2, 3), some (0, i), some (2, 1), some (0, 0), some (0, (0 + 1))]) c_112_41 rfl rfl rfl ?_
      refine n_goto c_112_44 ?_
      refine n_iload c_112_10 rfl ?_
      refine n_aload_n c_112_12 rfl ?_
      refine n_alen c_112_13 sc_1.n rfl ?_
      refine n_if2_ge c_112_14 (by omega) (by omega) ?_ ?_
      · intro h12
        exfalso; omega
      · intro h13
        refine n_aload_n c_112_17 rfl ?_
        refine n_aload_n c_112_18 rfl ?_
        refine n_iload c_112_19 rfl ?_
        refine n_ialoadV c_112_21 sc_1.n rfl rfl rfl (by omega) (t_1_1 hS) ?_
        intro z14 ez14 f15
        have hcst : (z14 : Int) = 4 := by omega
        rw [hcst]
        refine n_v1I c_112_22 rfl sc_3.n rfl rfl rfl rfl (aakp4_3  hS ) ?_
        intro z16 M17 hP18
        obtain ⟨eM, f18⟩ := hP18
        subst eM
        refine n_if0_eq c_112_25 (by omega) ?_ ?_
        · intro h19
          refine n_iinc (L2 := [some (2, 3), some (0, i), some (2, 1), some (0, 0), some (0, ((0 + 1) + 1))]) c_112_41 rfl rfl rfl ?_
          refine n_goto c_112_44 ?_
          refine n_iload c_112_10 rfl ?_
          refine n_aload_n c_112_12 rfl ?_
          refine n_alen c_112_13 sc_1.n rfl ?_
          refine n_if2_ge c_112_14 (by omega) (by omega) ?_ ?_
          · intro h20
            exfalso; omega
          · intro h21
            refine n_aload_n c_112_17 rfl ?_
            refine n_aload_n c_112_18 rfl ?_
            refine n_iload c_112_19 rfl ?_
            refine n_ialoadV c_112_21 sc_1.n rfl rfl rfl (by omega) (t_1_2 hS) ?_
            intro z22 ez22 f23
            have hcst : (z22 : Int) = 20 := by omega
            rw [hcst]
            refine n_v1I c_112_22 rfl sc_3.n rfl rfl rfl rfl (aakp20_3  hS ) ?_
            intro z24 M25 hP26
            obtain ⟨eM, f26⟩ := hP26
            subst eM
            refine n_if0_eq c_112_25 (by omega) ?_ ?_
            · intro h27
              refine n_iinc (L2 := [some (2, 3), some (0, i), some (2, 1), some (0, 0), some (0, (((0 + 1) + 1) + 1))]) c_112_41 rfl rfl rfl ?_
              refine n_goto c_112_44 ?_
              refine n_iload c_112_10 rfl ?_
              refine n_aload_n c_112_12 rfl ?_
              refine n_alen c_112_13 sc_1.n rfl ?_
              refine n_if2_ge c_112_14 (by omega) (by omega) ?_ ?_
              · intro h28
                exfalso; omega
              · intro h29
                refine n_aload_n c_112_17 rfl ?_
                refine n_aload_n c_112_18 rfl ?_
                refine n_iload c_112_19 rfl ?_
                refine n_ialoadV c_112_21 sc_1.n rfl rfl rfl (by omega) (t_1_3 hS) ?_
                intro z30 ez30 f31
                have hcst : (z30 : Int) = 32 := by omega
                rw [hcst]
                refine n_v1I c_112_22 rfl sc_3.n rfl rfl rfl rfl (aakp32_3  hS ) ?_
                intro z32 M33 hP34
                obtain ⟨eM, f34⟩ := hP34
                subst eM
                refine n_if0_eq c_112_25 (by omega) ?_ ?_
                · intro h35
                  refine n_iinc (L2 := [some (2, 3), some (0, i), some (2, 1), some (0, 0), some (0, ((((0 + 1) + 1) + 1) + 1))]) c_112_41 rfl rfl rfl ?_
                  refine n_goto c_112_44 ?_
                  refine n_iload c_112_10 rfl ?_
                  refine n_aload_n c_112_12 rfl ?_
                  refine n_alen c_112_13 sc_1.n rfl ?_
                  refine n_if2_ge c_112_14 (by omega) (by omega) ?_ ?_
                  · intro h36
                    exfalso; omega
                  · intro h37
                    refine n_aload_n c_112_17 rfl ?_
                    refine n_aload_n c_112_18 rfl ?_
                    refine n_iload c_112_19 rfl ?_
                    refine n_ialoadV c_112_21 sc_1.n rfl rfl rfl (by omega) (t_1_4 hS) ?_
                    intro z38 ez38 f39
                    have hcst : (z38 : Int) = 36 := by omega
                    rw [hcst]
                    refine n_v1I c_112_22 rfl sc_3.n rfl rfl rfl rfl (aakp36_3  hS ) ?_
                    intro z40 M41 hP42
                    obtain ⟨eM, f42⟩ := hP42
                    subst eM
                    refine n_if0_eq c_112_25 (by omega) ?_ ?_
                    · intro h43
                      refine n_iinc (L2 := [some (2, 3), some (0, i), some (2, 1), some (0, 0), some (0, (((((0 + 1) + 1) + 1) + 1) + 1))]) c_112_41 rfl rfl rfl ?_
                      refine n_goto c_112_44 ?_
                      refine n_iload c_112_10 rfl ?_
                      refine n_aload_n c_112_12 rfl ?_
                      refine n_alen c_112_13 sc_1.n rfl ?_
                      refine n_if2_ge c_112_14 (by omega) (by omega) ?_ ?_
                      · intro h44
                        refine n_iconst c_112_47 ?_
                        exact n_rI c_112_48 rfl ⟨rfl, by omega⟩
                      · intro h45
                        exfalso; omega
                    · intro h46
                      refine n_iload_n c_112_28 rfl ?_
                      refine n_iload_n c_112_29 rfl ?_
                      refine n_if2_ne c_112_30 (by omega) (by omega) ?_ ?_
                      · intro h47
                        refine n_iinc (L2 := [some (2, 3), some (0, i), some (2, 1), some (0, (0 + 1)), some (0, ((((0 + 1) + 1) + 1) + 1))]) c_112_38 rfl rfl rfl ?_
                        refine n_iinc (L2 := [some (2, 3), some (0, i), some (2, 1), some (0, (0 + 1)), some (0, (((((0 + 1) + 1) + 1) + 1) + 1))]) c_112_41 rfl rfl rfl ?_
                        refine n_goto c_112_44 ?_
                        refine n_iload c_112_10 rfl ?_
                        refine n_aload_n c_112_12 rfl ?_
                        refine n_alen c_112_13 sc_1.n rfl ?_
                        refine n_if2_ge c_112_14 (by omega) (by omega) ?_ ?_
                        · intro h48
                          refine n_iconst c_112_47 ?_
                          exact n_rI c_112_48 rfl ⟨rfl, by omega⟩
                        · intro h49
                          exfalso; omega
                      · intro h50
                        refine n_aload_n c_112_33 rfl ?_
                        refine n_iload c_112_34 rfl ?_
                        refine n_ialoadV c_112_36 sc_1.n rfl rfl rfl (by omega) (t_1_4 hS) ?_
                        intro z51 ez51 f52
                        exact n_rI c_112_37 rfl ⟨rfl, by omega⟩
                · intro h53
                  refine n_iload_n c_112_28 rfl ?_
                  refine n_iload_n c_112_29 rfl ?_
                  refine n_if2_ne c_112_30 (by omega) (by omega) ?_ ?_
                  · intro h54
                    refine n_iinc (L2 := [some (2, 3), some (0, i), some (2, 1), some (0, (0 + 1)), some (0, (((0 + 1) + 1) + 1))]) c_112_38 rfl rfl rfl ?_
                    refine n_iinc (L2 := [some (2, 3), some (0, i), some (2, 1), some (0, (0 + 1)), some (0, ((((0 + 1) + 1) + 1) + 1))]) c_112_41 rfl rfl rfl ?_
                    refine n_goto c_112_44 ?_
                    refine n_iload c_112_10 rfl ?_
                    refine n_aload_n c_112_12 rfl ?_
                    refine n_alen c_112_13 sc_1.n rfl ?_
                    refine n_if2_ge c_112_14 (by omega) (by omega) ?_ ?_
                    · intro h55
                      exfalso; omega
                    · intro h56
                      refine n_aload_n c_112_17 rfl ?_
                      refine n_aload_n c_112_18 rfl ?_
                      refine n_iload c_112_19 rfl ?_
                      refine n_ialoadV c_112_21 sc_1.n rfl rfl rfl (by omega) (t_1_4 hS) ?_
                      intro z57 ez57 f58
                      have hcst : (z57 : Int) = 36 := by omega
                      rw [hcst]
                      refine n_v1I c_112_22 rfl sc_3.n rfl rfl rfl rfl (aakp36_3  hS ) ?_
                      intro z59 M60 hP61
                      obtain ⟨eM, f61⟩ := hP61
                      subst eM
                      refine n_if0_eq c_112_25 (by omega) ?_ ?_
                      · intro h62
                        refine n_iinc (L2 := [some (2, 3), some (0, i), some (2, 1), some (0, (0 + 1)), some (0, (((((0 + 1) + 1) + 1) + 1) + 1))]) c_112_41 rfl rfl rfl ?_
                        refine n_goto c_112_44 ?_
                        refine n_iload c_112_10 rfl ?_
                        refine n_aload_n c_112_12 rfl ?_
                        refine n_alen c_112_13 sc_1.n rfl ?_
                        refine n_if2_ge c_112_14 (by omega) (by omega) ?_ ?_
                        · intro h63
                          refine n_iconst c_112_47 ?_
                          exact n_rI c_112_48 rfl ⟨rfl, by omega⟩
                        · intro h64
                          exfalso; omega
                      · intro h65
                        refine n_iload_n c_112_28 rfl ?_
                        refine n_iload_n c_112_29 rfl ?_
                        refine n_if2_ne c_112_30 (by omega) (by omega) ?_ ?_
                        · intro h66
                          refine n_iinc (L2 := [some (2, 3), some (0, i), some (2, 1), some (0, ((0 + 1) + 1)), some (0, ((((0 + 1) + 1) + 1) + 1))]) c_112_38 rfl rfl rfl ?_
                          refine n_iinc (L2 := [some (2, 3), some (0, i), some (2, 1), some (0, ((0 + 1) + 1)), some (0, (((((0 + 1) + 1) + 1) + 1) + 1))]) c_112_41 rfl rfl rfl ?_
                          refine n_goto c_112_44 ?_
                          refine n_iload c_112_10 rfl ?_
                          refine n_aload_n c_112_12 rfl ?_
                          refine n_alen c_112_13 sc_1.n rfl ?_
                          refine n_if2_ge c_112_14 (by omega) (by omega) ?_ ?_
                          · intro h67
                            refine n_iconst c_112_47 ?_
                            exact n_rI c_112_48 rfl ⟨rfl, by omega⟩
                          · intro h68
                            exfalso; omega
                        · intro h69
                          refine n_aload_n c_112_33 rfl ?_
                          refine n_iload c_112_34 rfl ?_
                          refine n_ialoadV c_112_36 sc_1.n rfl rfl rfl (by omega) (t_1_4 hS) ?_
                          intro z70 ez70 f71
                          exact n_rI c_112_37 rfl ⟨rfl, by omega⟩
                  · intro h72
                    refine n_aload_n c_112_33 rfl ?_
                    refine n_iload c_112_34 rfl ?_
                    refine n_ialoadV c_112_36 sc_1.n rfl rfl rfl (by omega) (t_1_3 hS) ?_
                    intro z73 ez73 f74
                    exact n_rI c_112_37 rfl ⟨rfl, by omega⟩
            · intro h75
              refine n_iload_n c_112_28 rfl ?_
              refine n_iload_n c_112_29 rfl ?_
              refine n_if2_ne c_112_30 (by omega) (by omega) ?_ ?_
              · intro h76
                refine n_iinc (L2 := [some (2, 3), some (0, i), some (2, 1), some (0, (0 + 1)), some (0, ((0 + 1) + 1))]) c_112_38 rfl rfl rfl ?_
                refine n_iinc (L2 := [some (2, 3), some (0, i), some (2, 1), some (0, (0 + 1)), some (0, (((0 + 1) + 1) + 1))]) c_112_41 rfl rfl rfl ?_
                refine n_goto c_112_44 ?_
                refine n_iload c_112_10 rfl ?_
                refine n_aload_n c_112_12 rfl ?_
                refine n_alen c_112_13 sc_1.n rfl ?_
                refine n_if2_ge c_112_14 (by omega) (by omega) ?_ ?_
                · intro h77
                  exfalso; omega
                · intro h78
                  refine n_aload_n c_112_17 rfl ?_
                  refine n_aload_n c_112_18 rfl ?_
                  refine n_iload c_112_19 rfl ?_
                  refine n_ialoadV c_112_21 sc_1.n rfl rfl rfl (by omega) (t_1_3 hS) ?_
                  intro z79 ez79 f80
                  have hcst : (z79 : Int) = 32 := by omega
                  rw [hcst]
                  refine n_v1I c_112_22 rfl sc_3.n rfl rfl rfl rfl (aakp32_3  hS ) ?_
                  intro z81 M82 hP83
                  obtain ⟨eM, f83⟩ := hP83
                  subst eM
                  refine n_if0_eq c_112_25 (by omega) ?_ ?_
                  · intro h84
                    refine n_iinc (L2 := [some (2, 3), some (0, i), some (2, 1), some (0, (0 + 1)), some (0, ((((0 + 1) + 1) + 1) + 1))]) c_112_41 rfl rfl rfl ?_
                    refine n_goto c_112_44 ?_
                    refine n_iload c_112_10 rfl ?_
                    refine n_aload_n c_112_12 rfl ?_
                    refine n_alen c_112_13 sc_1.n rfl ?_
                    refine n_if2_ge c_112_14 (by omega) (by omega) ?_ ?_
                    · intro h85
                      exfalso; omega
                    · intro h86
                      refine n_aload_n c_112_17 rfl ?_
                      refine n_aload_n c_112_18 rfl ?_
                      refine n_iload c_112_19 rfl ?_
                      refine n_ialoadV c_112_21 sc_1.n rfl rfl rfl (by omega) (t_1_4 hS) ?_
                      intro z87 ez87 f88
                      have hcst : (z87 : Int) = 36 := by omega
                      rw [hcst]
                      refine n_v1I c_112_22 rfl sc_3.n rfl rfl rfl rfl (aakp36_3  hS ) ?_
                      intro z89 M90 hP91
                      obtain ⟨eM, f91⟩ := hP91
                      subst eM
                      refine n_if0_eq c_112_25 (by omega) ?_ ?_
                      · intro h92
                        refine n_iinc (L2 := [some (2, 3), some (0, i), some (2, 1), some (0, (0 + 1)), some (0, (((((0 + 1) + 1) + 1) + 1) + 1))]) c_112_41 rfl rfl rfl ?_
                        refine n_goto c_112_44 ?_
                        refine n_iload c_112_10 rfl ?_
                        refine n_aload_n c_112_12 rfl ?_
                        refine n_alen c_112_13 sc_1.n rfl ?_
                        refine n_if2_ge c_112_14 (by omega) (by omega) ?_ ?_
                        · intro h93
                          refine n_iconst c_112_47 ?_
                          exact n_rI c_112_48 rfl ⟨rfl, by omega⟩
                        · intro h94
                          exfalso; omega
                      · intro h95
                        refine n_iload_n c_112_28 rfl ?_
                        refine n_iload_n c_112_29 rfl ?_
                        refine n_if2_ne c_112_30 (by omega) (by omega) ?_ ?_
                        · intro h96
                          refine n_iinc (L2 := [some (2, 3), some (0, i), some (2, 1), some (0, ((0 + 1) + 1)), some (0, ((((0 + 1) + 1) + 1) + 1))]) c_112_38 rfl rfl rfl ?_
                          refine n_iinc (L2 := [some (2, 3), some (0, i), some (2, 1), some (0, ((0 + 1) + 1)), some (0, (((((0 + 1) + 1) + 1) + 1) + 1))]) c_112_41 rfl rfl rfl ?_
                          refine n_goto c_112_44 ?_
                          refine n_iload c_112_10 rfl ?_
                          refine n_aload_n c_112_12 rfl ?_
                          refine n_alen c_112_13 sc_1.n rfl ?_
                          refine n_if2_ge c_112_14 (by omega) (by omega) ?_ ?_
                          · intro h97
                            refine n_iconst c_112_47 ?_
                            exact n_rI c_112_48 rfl ⟨rfl, by omega⟩
                          · intro h98
                            exfalso; omega
                        · intro h99
                          refine n_aload_n c_112_33 rfl ?_
                          refine n_iload c_112_34 rfl ?_
                          refine n_ialoadV c_112_36 sc_1.n rfl rfl rfl (by omega) (t_1_4 hS) ?_
                          intro z100 ez100 f101
                          exact n_rI c_112_37 rfl ⟨rfl, by omega⟩
                  · intro h102
                    refine n_iload_n c_112_28 rfl ?_
                    refine n_iload_n c_112_29 rfl ?_
                    refine n_if2_ne c_112_30 (by omega) (by omega) ?_ ?_
                    · intro h103
                      refine n_iinc (L2 := [some (2, 3), some (0, i), some (2, 1), some (0, ((0 + 1) + 1)), some (0, (((0 + 1) + 1) + 1))]) c_112_38 rfl rfl rfl ?_
                      refine n_iinc (L2 := [some (2, 3), some (0, i), some (2, 1), some (0, ((0 + 1) + 1)), some (0, ((((0 + 1) + 1) + 1) + 1))]) c_112_41 rfl rfl rfl ?_
                      refine n_goto c_112_44 ?_
                      refine n_iload c_112_10 rfl ?_
                      refine n_aload_n c_112_12 rfl ?_
                      refine n_alen c_112_13 sc_1.n rfl ?_
                      refine n_if2_ge c_112_14 (by omega) (by omega) ?_ ?_
                      · intro h104
                        exfalso; omega
                      · intro h105
                        refine n_aload_n c_112_17 rfl ?_
                        refine n_aload_n c_112_18 rfl ?_
                        refine n_iload c_112_19 rfl ?_
                        refine n_ialoadV c_112_21 sc_1.n rfl rfl rfl (by omega) (t_1_4 hS) ?_
                        intro z106 ez106 f107
                        have hcst : (z106 : Int) = 36 := by omega
                        rw [hcst]
                        refine n_v1I c_112_22 rfl sc_3.n rfl rfl rfl rfl (aakp36_3  hS ) ?_
                        intro z108 M109 hP110
                        obtain ⟨eM, f110⟩ := hP110
                        subst eM
                        refine n_if0_eq c_112_25 (by omega) ?_ ?_
                        · intro h111
                          refine n_iinc (L2 := [some (2, 3), some (0, i), some (2, 1), some (0, ((0 + 1) + 1)), some (0, (((((0 + 1) + 1) + 1) + 1) + 1))]) c_112_41 rfl rfl rfl ?_
                          refine n_goto c_112_44 ?_
                          refine n_iload c_112_10 rfl ?_
                          refine n_aload_n c_112_12 rfl ?_
                          refine n_alen c_112_13 sc_1.n rfl ?_
                          refine n_if2_ge c_112_14 (by omega) (by omega) ?_ ?_
                          · intro h112
                            refine n_iconst c_112_47 ?_
                            exact n_rI c_112_48 rfl ⟨rfl, by omega⟩
                          · intro h113
                            exfalso; omega
                        · intro h114
                          refine n_iload_n c_112_28 rfl ?_
                          refine n_iload_n c_112_29 rfl ?_
                          refine n_if2_ne c_112_30 (by omega) (by omega) ?_ ?_
                          · intro h115
                            refine n_iinc (L2 := [some (2, 3), some (0, i), some (2, 1), some (0, (((0 + 1) + 1) + 1)), some (0, ((((0 + 1) + 1) + 1) + 1))]) c_112_38 rfl rfl rfl ?_
                            refine n_iinc (L2 := [some (2, 3), some (0, i), some (2, 1), some (0, (((0 + 1) + 1) + 1)), some (0, (((((0 + 1) + 1) + 1) + 1) + 1))]) c_112_41 rfl rfl rfl ?_
                            refine n_goto c_112_44 ?_
                            refine n_iload c_112_10 rfl ?_
                            refine n_aload_n c_112_12 rfl ?_
                            refine n_alen c_112_13 sc_1.n rfl ?_
                            refine n_if2_ge c_112_14 (by omega) (by omega) ?_ ?_
                            · intro h116
                              refine n_iconst c_112_47 ?_
                              exact n_rI c_112_48 rfl ⟨rfl, by omega⟩
                            · intro h117
                              exfalso; omega
                          · intro h118
                            refine n_aload_n c_112_33 rfl ?_
                            refine n_iload c_112_34 rfl ?_
                            refine n_ialoadV c_112_36 sc_1.n rfl rfl rfl (by omega) (t_1_4 hS) ?_
                            intro z119 ez119 f120
                            exact n_rI c_112_37 rfl ⟨rfl, by omega⟩
                    · intro h121
                      refine n_aload_n c_112_33 rfl ?_
                      refine n_iload c_112_34 rfl ?_
                      refine n_ialoadV c_112_36 sc_1.n rfl rfl rfl (by omega) (t_1_3 hS) ?_
                      intro z122 ez122 f123
                      exact n_rI c_112_37 rfl ⟨rfl, by omega⟩
              · intro h124
                refine n_aload_n c_112_33 rfl ?_
                refine n_iload c_112_34 rfl ?_
                refine n_ialoadV c_112_36 sc_1.n rfl rfl rfl (by omega) (t_1_2 hS) ?_
                intro z125 ez125 f126
                exact n_rI c_112_37 rfl ⟨rfl, by omega⟩
        · intro h127
          refine n_iload_n c_112_28 rfl ?_
          refine n_iload_n c_112_29 rfl ?_
          refine n_if2_ne c_112_30 (by omega) (by omega) ?_ ?_
          · intro h128
            refine n_iinc (L2 := [some (2, 3), some (0, i), some (2, 1), some (0, (0 + 1)), some (0, (0 + 1))]) c_112_38 rfl rfl rfl ?_
            refine n_iinc (L2 := [some (2, 3), some (0, i), some (2, 1), some (0, (0 + 1)), some (0, ((0 + 1) + 1))]) c_112_41 rfl rfl rfl ?_
            refine n_goto c_112_44 ?_
            refine n_iload c_112_10 rfl ?_
            refine n_aload_n c_112_12 rfl ?_
            refine n_alen c_112_13 sc_1.n rfl ?_
            refine n_if2_ge c_112_14 (by omega) (by omega) ?_ ?_
            · intro h129
              exfalso; omega
            · intro h130
              refine n_aload_n c_112_17 rfl ?_
              refine n_aload_n c_112_18 rfl ?_
              refine n_iload c_112_19 rfl ?_
              refine n_ialoadV c_112_21 sc_1.n rfl rfl rfl (by omega) (t_1_2 hS) ?_
              intro z131 ez131 f132
              have hcst : (z131 : Int) = 20 := by omega
              rw [hcst]
              refine n_v1I c_112_22 rfl sc_3.n rfl rfl rfl rfl (aakp20_3  hS ) ?_
              intro z133 M134 hP135
              obtain ⟨eM, f135⟩ := hP135
              subst eM
              refine n_if0_eq c_112_25 (by omega) ?_ ?_
              · intro h136
                refine n_iinc (L2 := [some (2, 3), some (0, i), some (2, 1), some (0, (0 + 1)), some (0, (((0 + 1) + 1) + 1))]) c_112_41 rfl rfl rfl ?_
                refine n_goto c_112_44 ?_
                refine n_iload c_112_10 rfl ?_
                refine n_aload_n c_112_12 rfl ?_
                refine n_alen c_112_13 sc_1.n rfl ?_
                refine n_if2_ge c_112_14 (by omega) (by omega) ?_ ?_
                · intro h137
                  exfalso; omega
                · intro h138
                  refine n_aload_n c_112_17 rfl ?_
                  refine n_aload_n c_112_18 rfl ?_
                  refine n_iload c_112_19 rfl ?_
                  refine n_ialoadV c_112_21 sc_1.n rfl rfl rfl (by omega) (t_1_3 hS) ?_
                  intro z139 ez139 f140
                  have hcst : (z139 : Int) = 32 := by omega
                  rw [hcst]
                  refine n_v1I c_112_22 rfl sc_3.n rfl rfl rfl rfl (aakp32_3  hS ) ?_
                  intro z141 M142 hP143
                  obtain ⟨eM, f143⟩ := hP143
                  subst eM
                  refine n_if0_eq c_112_25 (by omega) ?_ ?_
                  · intro h144
                    refine n_iinc (L2 := [some (2, 3), some (0, i), some (2, 1), some (0, (0 + 1)), some (0, ((((0 + 1) + 1) + 1) + 1))]) c_112_41 rfl rfl rfl ?_
                    refine n_goto c_112_44 ?_
                    refine n_iload c_112_10 rfl ?_
                    refine n_aload_n c_112_12 rfl ?_
                    refine n_alen c_112_13 sc_1.n rfl ?_
                    refine n_if2_ge c_112_14 (by omega) (by omega) ?_ ?_
                    · intro h145
                      exfalso; omega
                    · intro h146
                      refine n_aload_n c_112_17 rfl ?_
                      refine n_aload_n c_112_18 rfl ?_
                      refine n_iload c_112_19 rfl ?_
                      refine n_ialoadV c_112_21 sc_1.n rfl rfl rfl (by omega) (t_1_4 hS) ?_
                      intro z147 ez147 f148
                      have hcst : (z147 : Int) = 36 := by omega
                      rw [hcst]
                      refine n_v1I c_112_22 rfl sc_3.n rfl rfl rfl rfl (aakp36_3  hS ) ?_
                      intro z149 M150 hP151
                      obtain ⟨eM, f151⟩ := hP151
                      subst eM
                      refine n_if0_eq c_112_25 (by omega) ?_ ?_
                      · intro h152
                        refine n_iinc (L2 := [some (2, 3), some (0, i), some (2, 1), some (0, (0 + 1)), some (0, (((((0 + 1) + 1) + 1) + 1) + 1))]) c_112_41 rfl rfl rfl ?_
                        refine n_goto c_112_44 ?_
                        refine n_iload c_112_10 rfl ?_
                        refine n_aload_n c_112_12 rfl ?_
                        refine n_alen c_112_13 sc_1.n rfl ?_
                        refine n_if2_ge c_112_14 (by omega) (by omega) ?_ ?_
                        · intro h153
                          refine n_iconst c_112_47 ?_
                          exact n_rI c_112_48 rfl ⟨rfl, by omega⟩
                        · intro h154
                          exfalso; omega
                      · intro h155
                        refine n_iload_n c_112_28 rfl ?_
                        refine n_iload_n c_112_29 rfl ?_
                        refine n_if2_ne c_112_30 (by omega) (by omega) ?_ ?_
                        · intro h156
                          refine n_iinc (L2 := [some (2, 3), some (0, i), some (2, 1), some (0, ((0 + 1) + 1)), some (0, ((((0 + 1) + 1) + 1) + 1))]) c_112_38 rfl rfl rfl ?_
                          refine n_iinc (L2 := [some (2, 3), some (0, i), some (2, 1), some (0, ((0 + 1) + 1)), some (0, (((((0 + 1) + 1) + 1) + 1) + 1))]) c_112_41 rfl rfl rfl ?_
                          refine n_goto c_112_44 ?_
                          refine n_iload c_112_10 rfl ?_
                          refine n_aload_n c_112_12 rfl ?_
                          refine n_alen c_112_13 sc_1.n rfl ?_
                          refine n_if2_ge c_112_14 (by omega) (by omega) ?_ ?_
                          · intro h157
                            refine n_iconst c_112_47 ?_
                            exact n_rI c_112_48 rfl ⟨rfl, by omega⟩
                          · intro h158
                            exfalso; omega
                        · intro h159
                          refine n_aload_n c_112_33 rfl ?_
                          refine n_iload c_112_34 rfl ?_
                          refine n_ialoadV c_112_36 sc_1.n rfl rfl rfl (by omega) (t_1_4 hS) ?_
                          intro z160 ez160 f161
                          exact n_rI c_112_37 rfl ⟨rfl, by omega⟩
                  · intro h162
                    refine n_iload_n c_112_28 rfl ?_
                    refine n_iload_n c_112_29 rfl ?_
                    refine n_if2_ne c_112_30 (by omega) (by omega) ?_ ?_
                    · intro h163
                      refine n_iinc (L2 := [some (2, 3), some (0, i), some (2, 1), some (0, ((0 + 1) + 1)), some (0, (((0 + 1) + 1) + 1))]) c_112_38 rfl rfl rfl ?_
                      refine n_iinc (L2 := [some (2, 3), some (0, i), some (2, 1), some (0, ((0 + 1) + 1)), some (0, ((((0 + 1) + 1) + 1) + 1))]) c_112_41 rfl rfl rfl ?_
                      refine n_goto c_112_44 ?_
                      refine n_iload c_112_10 rfl ?_
                      refine n_aload_n c_112_12 rfl ?_
                      refine n_alen c_112_13 sc_1.n rfl ?_
                      refine n_if2_ge c_112_14 (by omega) (by omega) ?_ ?_
                      · intro h164
                        exfalso; omega
                      · intro h165
                        refine n_aload_n c_112_17 rfl ?_
                        refine n_aload_n c_112_18 rfl ?_
                        refine n_iload c_112_19 rfl ?_
                        refine n_ialoadV c_112_21 sc_1.n rfl rfl rfl (by omega) (t_1_4 hS) ?_
                        intro z166 ez166 f167
                        have hcst : (z166 : Int) = 36 := by omega
                        rw [hcst]
                        refine n_v1I c_112_22 rfl sc_3.n rfl rfl rfl rfl (aakp36_3  hS ) ?_
                        intro z168 M169 hP170
                        obtain ⟨eM, f170⟩ := hP170
                        subst eM
                        refine n_if0_eq c_112_25 (by omega) ?_ ?_
                        · intro h171
                          refine n_iinc (L2 := [some (2, 3), some (0, i), some (2, 1), some (0, ((0 + 1) + 1)), some (0, (((((0 + 1) + 1) + 1) + 1) + 1))]) c_112_41 rfl rfl rfl ?_
                          refine n_goto c_112_44 ?_
                          refine n_iload c_112_10 rfl ?_
                          refine n_aload_n c_112_12 rfl ?_
                          refine n_alen c_112_13 sc_1.n rfl ?_
                          refine n_if2_ge c_112_14 (by omega) (by omega) ?_ ?_
                          · intro h172
                            refine n_iconst c_112_47 ?_
                            exact n_rI c_112_48 rfl ⟨rfl, by omega⟩
                          · intro h173
                            exfalso; omega
                        · intro h174
                          refine n_iload_n c_112_28 rfl ?_
                          refine n_iload_n c_112_29 rfl ?_
                          refine n_if2_ne c_112_30 (by omega) (by omega) ?_ ?_
                          · intro h175
                            refine n_iinc (L2 := [some (2, 3), some (0, i), some (2, 1), some (0, (((0 + 1) + 1) + 1)), some (0, ((((0 + 1) + 1) + 1) + 1))]) c_112_38 rfl rfl rfl ?_
                            refine n_iinc (L2 := [some (2, 3), some (0, i), some (2, 1), some (0, (((0 + 1) + 1) + 1)), some (0, (((((0 + 1) + 1) + 1) + 1) + 1))]) c_112_41 rfl rfl rfl ?_
                            refine n_goto c_112_44 ?_
                            refine n_iload c_112_10 rfl ?_
                            refine n_aload_n c_112_12 rfl ?_
                            refine n_alen c_112_13 sc_1.n rfl ?_
                            refine n_if2_ge c_112_14 (by omega) (by omega) ?_ ?_
                            · intro h176
                              refine n_iconst c_112_47 ?_
                              exact n_rI c_112_48 rfl ⟨rfl, by omega⟩
                            · intro h177
                              exfalso; omega
                          · intro h178
                            refine n_aload_n c_112_33 rfl ?_
                            refine n_iload c_112_34 rfl ?_
                            refine n_ialoadV c_112_36 sc_1.n rfl rfl rfl (by omega) (t_1_4 hS) ?_
                            intro z179 ez179 f180
                            exact n_rI c_112_37 rfl ⟨rfl, by omega⟩
                    · intro h181
                      refine n_aload_n c_112_33 rfl ?_
                      refine n_iload c_112_34 rfl ?_
                      refine n_ialoadV c_112_36 sc_1.n rfl rfl rfl (by omega) (t_1_3 hS) ?_
                      intro z182 ez182 f183
                      exact n_rI c_112_37 rfl ⟨rfl, by omega⟩
              · intro h184
                refine n_iload_n c_112_28 rfl ?_
                refine n_iload_n c_112_29 rfl ?_
                refine n_if2_ne c_112_30 (by omega) (by omega) ?_ ?_
                · intro h185
                  refine n_iinc (L2 := [some (2, 3), some (0, i), some (2, 1), some (0, ((0 + 1) + 1)), some (0, ((0 + 1) + 1))]) c_112_38 rfl rfl rfl ?_
                  refine n_iinc (L2 := [some (2, 3), some (0, i), some (2, 1), some (0, ((0 + 1) + 1)), some (0, (((0 + 1) + 1) + 1))]) c_112_41 rfl rfl rfl ?_
                  refine n_goto c_112_44 ?_
                  refine n_iload c_112_10 rfl ?_
                  refine n_aload_n c_112_12 rfl ?_
                  refine n_alen c_112_13 sc_1.n rfl ?_
                  refine n_if2_ge c_112_14 (by omega) (by omega) ?_ ?_
                  · intro h186
                    exfalso; omega
                  · intro h187
                    refine n_aload_n c_112_17 rfl ?_
                    refine n_aload_n c_112_18 rfl ?_
                    refine n_iload c_112_19 rfl ?_
                    refine n_ialoadV c_112_21 sc_1.n rfl rfl rfl (by omega) (t_1_3 hS) ?_
                    intro z188 ez188 f189
                    have hcst : (z188 : Int) = 32 := by omega
                    rw [hcst]
                    refine n_v1I c_112_22 rfl sc_3.n rfl rfl rfl rfl (aakp32_3  hS ) ?_
                    intro z190 M191 hP192
                    obtain ⟨eM, f192⟩ := hP192
                    subst eM
                    refine n_if0_eq c_112_25 (by omega) ?_ ?_
                    · intro h193
                      refine n_iinc (L2 := [some (2, 3), some (0, i), some (2, 1), some (0, ((0 + 1) + 1)), some (0, ((((0 + 1) + 1) + 1) + 1))]) c_112_41 rfl rfl rfl ?_
                      refine n_goto c_112_44 ?_
                      refine n_iload c_112_10 rfl ?_
                      refine n_aload_n c_112_12 rfl ?_
                      refine n_alen c_112_13 sc_1.n rfl ?_
                      refine n_if2_ge c_112_14 (by omega) (by omega) ?_ ?_
                      · intro h194
                        exfalso; omega
                      · intro h195
                        refine n_aload_n c_112_17 rfl ?_
                        refine n_aload_n c_112_18 rfl ?_
                        refine n_iload c_112_19 rfl ?_
                        refine n_ialoadV c_112_21 sc_1.n rfl rfl rfl (by omega) (t_1_4 hS) ?_
                        intro z196 ez196 f197
                        have hcst : (z196 : Int) = 36 := by omega
                        rw [hcst]
                        refine n_v1I c_112_22 rfl sc_3.n rfl rfl rfl rfl (aakp36_3  hS ) ?_
                        intro z198 M199 hP200
                        obtain ⟨eM, f200⟩ := hP200
                        subst eM
                        refine n_if0_eq c_112_25 (by omega) ?_ ?_
                        · intro h201
                          refine n_iinc (L2 := [some (2, 3), some (0, i), some (2, 1), some (0, ((0 + 1) + 1)), some (0, (((((0 + 1) + 1) + 1) + 1) + 1))]) c_112_41 rfl rfl rfl ?_
                          refine n_goto c_112_44 ?_
                          refine n_iload c_112_10 rfl ?_
                          refine n_aload_n c_112_12 rfl ?_
                          refine n_alen c_112_13 sc_1.n rfl ?_
                          refine n_if2_ge c_112_14 (by omega) (by omega) ?_ ?_
                          · intro h202
                            refine n_iconst c_112_47 ?_
                            exact n_rI c_112_48 rfl ⟨rfl, by omega⟩
                          · intro h203
                            exfalso; omega
                        · intro h204
                          refine n_iload_n c_112_28 rfl ?_
                          refine n_iload_n c_112_29 rfl ?_
                          refine n_if2_ne c_112_30 (by omega) (by omega) ?_ ?_
                          · intro h205
                            refine n_iinc (L2 := [some (2, 3), some (0, i), some (2, 1), some (0, (((0 + 1) + 1) + 1)), some (0, ((((0 + 1) + 1) + 1) + 1))]) c_112_38 rfl rfl rfl ?_
                            refine n_iinc (L2 := [some (2, 3), some (0, i), some (2, 1), some (0, (((0 + 1) + 1) + 1)), some (0, (((((0 + 1) + 1) + 1) + 1) + 1))]) c_112_41 rfl rfl rfl ?_
                            refine n_goto c_112_44 ?_
                            refine n_iload c_112_10 rfl ?_
                            refine n_aload_n c_112_12 rfl ?_
                            refine n_alen c_112_13 sc_1.n rfl ?_
                            refine n_if2_ge c_112_14 (by omega) (by omega) ?_ ?_
                            · intro h206
                              refine n_iconst c_112_47 ?_
                              exact n_rI c_112_48 rfl ⟨rfl, by omega⟩
                            · intro h207
                              exfalso; omega
                          · intro h208
                            refine n_aload_n c_112_33 rfl ?_
                            refine n_iload c_112_34 rfl ?_
                            refine n_ialoadV c_112_36 sc_1.n rfl rfl rfl (by omega) (t_1_4 hS) ?_
                            intro z209 ez209 f210
                            exact n_rI c_112_37 rfl ⟨rfl, by omega⟩
                    · intro h211
                      refine n_iload_n c_112_28 rfl ?_
                      refine n_iload_n c_112_29 rfl ?_
                      refine n_if2_ne c_112_30 (by omega) (by omega) ?_ ?_
                      · intro h212
                        refine n_iinc (L2 := [some (2, 3), some (0, i), some (2, 1), some (0, (((0 + 1) + 1) + 1)), some (0, (((0 + 1) + 1) + 1))]) c_112_38 rfl rfl rfl ?_
                        refine n_iinc (L2 := [some (2, 3), some (0, i), some (2, 1), some (0, (((0 + 1) + 1) + 1)), some (0, ((((0 + 1) + 1) + 1) + 1))]) c_112_41 rfl rfl rfl ?_
                        refine n_goto c_112_44 ?_
                        refine n_iload c_112_10 rfl ?_
                        refine n_aload_n c_112_12 rfl ?_
                        refine n_alen c_112_13 sc_1.n rfl ?_
                        refine n_if2_ge c_112_14 (by omega) (by omega) ?_ ?_
                        · intro h213
                          exfalso; omega
                        · intro h214
                          refine n_aload_n c_112_17 rfl ?_
                          refine n_aload_n c_112_18 rfl ?_
                          refine n_iload c_112_19 rfl ?_
                          refine n_ialoadV c_112_21 sc_1.n rfl rfl rfl (by omega) (t_1_4 hS) ?_
                          intro z215 ez215 f216
                          have hcst : (z215 : Int) = 36 := by omega
                          rw [hcst]
                          refine n_v1I c_112_22 rfl sc_3.n rfl rfl rfl rfl (aakp36_3  hS ) ?_
                          intro z217 M218 hP219
                          obtain ⟨eM, f219⟩ := hP219
                          subst eM
                          refine n_if0_eq c_112_25 (by omega) ?_ ?_
                          · intro h220
                            refine n_iinc (L2 := [some (2, 3), some (0, i), some (2, 1), some (0, (((0 + 1) + 1) + 1)), some (0, (((((0 + 1) + 1) + 1) + 1) + 1))]) c_112_41 rfl rfl rfl ?_
                            refine n_goto c_112_44 ?_
                            refine n_iload c_112_10 rfl ?_
                            refine n_aload_n c_112_12 rfl ?_
                            refine n_alen c_112_13 sc_1.n rfl ?_
                            refine n_if2_ge c_112_14 (by omega) (by omega) ?_ ?_
                            · intro h221
                              refine n_iconst c_112_47 ?_
                              exact n_rI c_112_48 rfl ⟨rfl, by omega⟩
                            · intro h222
                              exfalso; omega
                          · intro h223
                            refine n_iload_n c_112_28 rfl ?_
                            refine n_iload_n c_112_29 rfl ?_
                            refine n_if2_ne c_112_30 (by omega) (by omega) ?_ ?_
                            · intro h224
                              refine n_iinc (L2 := [some (2, 3), some (0, i), some (2, 1), some (0, ((((0 + 1) + 1) + 1) + 1)), some (0, ((((0 + 1) + 1) + 1) + 1))]) c_112_38 rfl rfl rfl ?_
                              refine n_iinc (L2 := [some (2, 3), some (0, i), some (2, 1), some (0, ((((0 + 1) + 1) + 1) + 1)), some (0, (((((0 + 1) + 1) + 1) + 1) + 1))]) c_112_41 rfl rfl rfl ?_
                              refine n_goto c_112_44 ?_
                              refine n_iload c_112_10 rfl ?_
                              refine n_aload_n c_112_12 rfl ?_
                              refine n_alen c_112_13 sc_1.n rfl ?_
                              refine n_if2_ge c_112_14 (by omega) (by omega) ?_ ?_
                              · intro h225
                                refine n_iconst c_112_47 ?_
                                exact n_rI c_112_48 rfl ⟨rfl, by omega⟩
                              · intro h226
                                exfalso; omega
                            · intro h227
                              refine n_aload_n c_112_33 rfl ?_
                              refine n_iload c_112_34 rfl ?_
                              refine n_ialoadV c_112_36 sc_1.n rfl rfl rfl (by omega) (t_1_4 hS) ?_
                              intro z228 ez228 f229
                              exact n_rI c_112_37 rfl ⟨rfl, by omega⟩
                      · intro h230
                        refine n_aload_n c_112_33 rfl ?_
                        refine n_iload c_112_34 rfl ?_
                        refine n_ialoadV c_112_36 sc_1.n rfl rfl rfl (by omega) (t_1_3 hS) ?_
                        intro z231 ez231 f232
                        exact n_rI c_112_37 rfl ⟨rfl, by omega⟩
                · intro h233
                  refine n_aload_n c_112_33 rfl ?_
                  refine n_iload c_112_34 rfl ?_
                  refine n_ialoadV c_112_36 sc_1.n rfl rfl rfl (by omega) (t_1_2 hS) ?_
                  intro z234 ez234 f235
                  exact n_rI c_112_37 rfl ⟨rfl, by omega⟩
          · intro h236
            refine n_aload_n c_112_33 rfl ?_
            refine n_iload c_112_34 rfl ?_
            refine n_ialoadV c_112_36 sc_1.n rfl rfl rfl (by omega) (t_1_1 hS) ?_
            intro z237 ez237 f238
            exact n_rI c_112_37 rfl ⟨rfl, by omega⟩
    · intro h239
      refine n_iload_n c_112_28 rfl ?_
      refine n_iload_n c_112_29 rfl ?_
      refine n_if2_ne c_112_30 (by omega) (by omega) ?_ ?_
      · intro h240
        refine n_iinc (L2 := [some (2, 3), some (0, i), some (2, 1), some (0, (0 + 1)), some (0, 0)]) c_112_38 rfl rfl rfl ?_
        refine n_iinc (L2 := [some (2, 3), some (0, i), some (2, 1), some (0, (0 + 1)), some (0, (0 + 1))]) c_112_41 rfl rfl rfl ?_
        refine n_goto c_112_44 ?_
        refine n_iload c_112_10 rfl ?_
        refine n_aload_n c_112_12 rfl ?_
        refine n_alen c_112_13 sc_1.n rfl ?_
        refine n_if2_ge c_112_14 (by omega) (by omega) ?_ ?_
        · intro h241
          exfalso; omega
        · intro h242
          refine n_aload_n c_112_17 rfl ?_
          refine n_aload_n c_112_18 rfl ?_
          refine n_iload c_112_19 rfl ?_
          refine n_ialoadV c_112_21 sc_1.n rfl rfl rfl (by omega) (t_1_1 hS) ?_
          intro z243 ez243 f244
          have hcst : (z243 : Int) = 4 := by omega
          rw [hcst]
          refine n_v1I c_112_22 rfl sc_3.n rfl rfl rfl rfl (aakp4_3  hS ) ?_
          intro z245 M246 hP247
          obtain ⟨eM, f247⟩ := hP247
          subst eM
          refine n_if0_eq c_112_25 (by omega) ?_ ?_
          · intro h248
            refine n_iinc (L2 := [some (2, 3), some (0, i), some (2, 1), some (0, (0 + 1)), some (0, ((0 + 1) + 1))]) c_112_41 rfl rfl rfl ?_
            refine n_goto c_112_44 ?_
            refine n_iload c_112_10 rfl ?_
            refine n_aload_n c_112_12 rfl ?_
            refine n_alen c_112_13 sc_1.n rfl ?_
            refine n_if2_ge c_112_14 (by omega) (by omega) ?_ ?_
            · intro h249
              exfalso; omega
            · intro h250
              refine n_aload_n c_112_17 rfl ?_
              refine n_aload_n c_112_18 rfl ?_
              refine n_iload c_112_19 rfl ?_
              refine n_ialoadV c_112_21 sc_1.n rfl rfl rfl (by omega) (t_1_2 hS) ?_
              intro z251 ez251 f252
              have hcst : (z251 : Int) = 20 := by omega
              rw [hcst]
              refine n_v1I c_112_22 rfl sc_3.n rfl rfl rfl rfl (aakp20_3  hS ) ?_
              intro z253 M254 hP255
              obtain ⟨eM, f255⟩ := hP255
              subst eM
              refine n_if0_eq c_112_25 (by omega) ?_ ?_
              · intro h256
                refine n_iinc (L2 := [some (2, 3), some (0, i), some (2, 1), some (0, (0 + 1)), some (0, (((0 + 1) + 1) + 1))]) c_112_41 rfl rfl rfl ?_
                refine n_goto c_112_44 ?_
                refine n_iload c_112_10 rfl ?_
                refine n_aload_n c_112_12 rfl ?_
                refine n_alen c_112_13 sc_1.n rfl ?_
                refine n_if2_ge c_112_14 (by omega) (by omega) ?_ ?_
                · intro h257
                  exfalso; omega
                · intro h258
                  refine n_aload_n c_112_17 rfl ?_
                  refine n_aload_n c_112_18 rfl ?_
                  refine n_iload c_112_19 rfl ?_
                  refine n_ialoadV c_112_21 sc_1.n rfl rfl rfl (by omega) (t_1_3 hS) ?_
                  intro z259 ez259 f260
                  have hcst : (z259 : Int) = 32 := by omega
                  rw [hcst]
                  refine n_v1I c_112_22 rfl sc_3.n rfl rfl rfl rfl (aakp32_3  hS ) ?_
                  intro z261 M262 hP263
                  obtain ⟨eM, f263⟩ := hP263
                  subst eM
                  refine n_if0_eq c_112_25 (by omega) ?_ ?_
                  · intro h264
                    refine n_iinc (L2 := [some (2, 3), some (0, i), some (2, 1), some (0, (0 + 1)), some (0, ((((0 + 1) + 1) + 1) + 1))]) c_112_41 rfl rfl rfl ?_
                    refine n_goto c_112_44 ?_
                    refine n_iload c_112_10 rfl ?_
                    refine n_aload_n c_112_12 rfl ?_
                    refine n_alen c_112_13 sc_1.n rfl ?_
                    refine n_if2_ge c_112_14 (by omega) (by omega) ?_ ?_
                    · intro h265
                      exfalso; omega
                    · intro h266
                      refine n_aload_n c_112_17 rfl ?_
                      refine n_aload_n c_112_18 rfl ?_
                      refine n_iload c_112_19 rfl ?_
                      refine n_ialoadV c_112_21 sc_1.n rfl rfl rfl (by omega) (t_1_4 hS) ?_
                      intro z267 ez267 f268
                      have hcst : (z267 : Int) = 36 := by omega
                      rw [hcst]
                      refine n_v1I c_112_22 rfl sc_3.n rfl rfl rfl rfl (aakp36_3  hS ) ?_
                      intro z269 M270 hP271
                      obtain ⟨eM, f271⟩ := hP271
                      subst eM
                      refine n_if0_eq c_112_25 (by omega) ?_ ?_
                      · intro h272
                        refine n_iinc (L2 := [some (2, 3), some (0, i), some (2, 1), some (0, (0 + 1)), some (0, (((((0 + 1) + 1) + 1) + 1) + 1))]) c_112_41 rfl rfl rfl ?_
                        refine n_goto c_112_44 ?_
                        refine n_iload c_112_10 rfl ?_
                        refine n_aload_n c_112_12 rfl ?_
                        refine n_alen c_112_13 sc_1.n rfl ?_
                        refine n_if2_ge c_112_14 (by omega) (by omega) ?_ ?_
                        · intro h273
                          refine n_iconst c_112_47 ?_
                          exact n_rI c_112_48 rfl ⟨rfl, by omega⟩
                        · intro h274
                          exfalso; omega
                      · intro h275
                        refine n_iload_n c_112_28 rfl ?_
                        refine n_iload_n c_112_29 rfl ?_
                        refine n_if2_ne c_112_30 (by omega) (by omega) ?_ ?_
                        · intro h276
                          refine n_iinc (L2 := [some (2, 3), some (0, i), some (2, 1), some (0, ((0 + 1) + 1)), some (0, ((((0 + 1) + 1) + 1) + 1))]) c_112_38 rfl rfl rfl ?_
                          refine n_iinc (L2 := [some (2, 3), some (0, i), some (2, 1), some (0, ((0 + 1) + 1)), some (0, (((((0 + 1) + 1) + 1) + 1) + 1))]) c_112_41 rfl rfl rfl ?_
                          refine n_goto c_112_44 ?_
                          refine n_iload c_112_10 rfl ?_
                          refine n_aload_n c_112_12 rfl ?_
                          refine n_alen c_112_13 sc_1.n rfl ?_
                          refine n_if2_ge c_112_14 (by omega) (by omega) ?_ ?_
                          · intro h277
                            refine n_iconst c_112_47 ?_
                            exact n_rI c_112_48 rfl ⟨rfl, by omega⟩
                          · intro h278
                            exfalso; omega
                        · intro h279
                          refine n_aload_n c_112_33 rfl ?_
                          refine n_iload c_112_34 rfl ?_
                          refine n_ialoadV c_112_36 sc_1.n rfl rfl rfl (by omega) (t_1_4 hS) ?_
                          intro z280 ez280 f281
                          exact n_rI c_112_37 rfl ⟨rfl, by omega⟩
                  · intro h282
                    refine n_iload_n c_112_28 rfl ?_
                    refine n_iload_n c_112_29 rfl ?_
                    refine n_if2_ne c_112_30 (by omega) (by omega) ?_ ?_
                    · intro h283
                      refine n_iinc (L2 := [some (2, 3), some (0, i), some (2, 1), some (0, ((0 + 1) + 1)), some (0, (((0 + 1) + 1) + 1))]) c_112_38 rfl rfl rfl ?_
                      refine n_iinc (L2 := [some (2, 3), some (0, i), some (2, 1), some (0, ((0 + 1) + 1)), some (0, ((((0 + 1) + 1) + 1) + 1))]) c_112_41 rfl rfl rfl ?_
                      refine n_goto c_112_44 ?_
                      refine n_iload c_112_10 rfl ?_
                      refine n_aload_n c_112_12 rfl ?_
                      refine n_alen c_112_13 sc_1.n rfl ?_
                      refine n_if2_ge c_112_14 (by omega) (by omega) ?_ ?_
                      · intro h284
                        exfalso; omega
                      · intro h285
                        refine n_aload_n c_112_17 rfl ?_
                        refine n_aload_n c_112_18 rfl ?_
                        refine n_iload c_112_19 rfl ?_
                        refine n_ialoadV c_112_21 sc_1.n rfl rfl rfl (by omega) (t_1_4 hS) ?_
                        intro z286 ez286 f287
                        have hcst : (z286 : Int) = 36 := by omega
                        rw [hcst]
                        refine n_v1I c_112_22 rfl sc_3.n rfl rfl rfl rfl (aakp36_3  hS ) ?_
                        intro z288 M289 hP290
                        obtain ⟨eM, f290⟩ := hP290
                        subst eM
                        refine n_if0_eq c_112_25 (by omega) ?_ ?_
                        · intro h291
                          refine n_iinc (L2 := [some (2, 3), some (0, i), some (2, 1), some (0, ((0 + 1) + 1)), some (0, (((((0 + 1) + 1) + 1) + 1) + 1))]) c_112_41 rfl rfl rfl ?_
                          refine n_goto c_112_44 ?_
                          refine n_iload c_112_10 rfl ?_
                          refine n_aload_n c_112_12 rfl ?_
                          refine n_alen c_112_13 sc_1.n rfl ?_
                          refine n_if2_ge c_112_14 (by omega) (by omega) ?_ ?_
                          · intro h292
                            refine n_iconst c_112_47 ?_
                            exact n_rI c_112_48 rfl ⟨rfl, by omega⟩
                          · intro h293
                            exfalso; omega
                        · intro h294
                          refine n_iload_n c_112_28 rfl ?_
                          refine n_iload_n c_112_29 rfl ?_
                          refine n_if2_ne c_112_30 (by omega) (by omega) ?_ ?_
                          · intro h295
                            refine n_iinc (L2 := [some (2, 3), some (0, i), some (2, 1), some (0, (((0 + 1) + 1) + 1)), some (0, ((((0 + 1) + 1) + 1) + 1))]) c_112_38 rfl rfl rfl ?_
                            refine n_iinc (L2 := [some (2, 3), some (0, i), some (2, 1), some (0, (((0 + 1) + 1) + 1)), some (0, (((((0 + 1) + 1) + 1) + 1) + 1))]) c_112_41 rfl rfl rfl ?_
                            refine n_goto c_112_44 ?_
                            refine n_iload c_112_10 rfl ?_
                            refine n_aload_n c_112_12 rfl ?_
                            refine n_alen c_112_13 sc_1.n rfl ?_
                            refine n_if2_ge c_112_14 (by omega) (by omega) ?_ ?_
                            · intro h296
                              refine n_iconst c_112_47 ?_
                              exact n_rI c_112_48 rfl ⟨rfl, by omega⟩
                            · intro h297
                              exfalso; omega
                          · intro h298
                            refine n_aload_n c_112_33 rfl ?_
                            refine n_iload c_112_34 rfl ?_
                            refine n_ialoadV c_112_36 sc_1.n rfl rfl rfl (by omega) (t_1_4 hS) ?_
                            intro z299 ez299 f300
                            exact n_rI c_112_37 rfl ⟨rfl, by omega⟩
                    · intro h301
                      refine n_aload_n c_112_33 rfl ?_
                      refine n_iload c_112_34 rfl ?_
                      refine n_ialoadV c_112_36 sc_1.n rfl rfl rfl (by omega) (t_1_3 hS) ?_
                      intro z302 ez302 f303
                      exact n_rI c_112_37 rfl ⟨rfl, by omega⟩
              · intro h304
                refine n_iload_n c_112_28 rfl ?_
                refine n_iload_n c_112_29 rfl ?_
                refine n_if2_ne c_112_30 (by omega) (by omega) ?_ ?_
                · intro h305
                  refine n_iinc (L2 := [some (2, 3), some (0, i), some (2, 1), some (0, ((0 + 1) + 1)), some (0, ((0 + 1) + 1))]) c_112_38 rfl rfl rfl ?_
                  refine n_iinc (L2 := [some (2, 3), some (0, i), some (2, 1), some (0, ((0 + 1) + 1)), some (0, (((0 + 1) + 1) + 1))]) c_112_41 rfl rfl rfl ?_
                  refine n_goto c_112_44 ?_
                  refine n_iload c_112_10 rfl ?_
                  refine n_aload_n c_112_12 rfl ?_
                  refine n_alen c_112_13 sc_1.n rfl ?_
                  refine n_if2_ge c_112_14 (by omega) (by omega) ?_ ?_
                  · intro h306
                    exfalso; omega
                  · intro h307
                    refine n_aload_n c_112_17 rfl ?_
                    refine n_aload_n c_112_18 rfl ?_
                    refine n_iload c_112_19 rfl ?_
                    refine n_ialoadV c_112_21 sc_1.n rfl rfl rfl (by omega) (t_1_3 hS) ?_
                    intro z308 ez308 f309
                    have hcst : (z308 : Int) = 32 := by omega
                    rw [hcst]
                    refine n_v1I c_112_22 rfl sc_3.n rfl rfl rfl rfl (aakp32_3  hS ) ?_
                    intro z310 M311 hP312
                    obtain ⟨eM, f312⟩ := hP312
                    subst eM
                    refine n_if0_eq c_112_25 (by omega) ?_ ?_
                    · intro h313
                      refine n_iinc (L2 := [some (2, 3), some (0, i), some (2, 1), some (0, ((0 + 1) + 1)), some (0, ((((0 + 1) + 1) + 1) + 1))]) c_112_41 rfl rfl rfl ?_
                      refine n_goto c_112_44 ?_
                      refine n_iload c_112_10 rfl ?_
                      refine n_aload_n c_112_12 rfl ?_
                      refine n_alen c_112_13 sc_1.n rfl ?_
                      refine n_if2_ge c_112_14 (by omega) (by omega) ?_ ?_
                      · intro h314
                        exfalso; omega
                      · intro h315
                        refine n_aload_n c_112_17 rfl ?_
                        refine n_aload_n c_112_18 rfl ?_
                        refine n_iload c_112_19 rfl ?_
                        refine n_ialoadV c_112_21 sc_1.n rfl rfl rfl (by omega) (t_1_4 hS) ?_
                        intro z316 ez316 f317
                        have hcst : (z316 : Int) = 36 := by omega
                        rw [hcst]
                        refine n_v1I c_112_22 rfl sc_3.n rfl rfl rfl rfl (aakp36_3  hS ) ?_
                        intro z318 M319 hP320
                        obtain ⟨eM, f320⟩ := hP320
                        subst eM
                        refine n_if0_eq c_112_25 (by omega) ?_ ?_
                        · intro h321
                          refine n_iinc (L2 := [some (2, 3), some (0, i), some (2, 1), some (0, ((0 + 1) + 1)), some (0, (((((0 + 1) + 1) + 1) + 1) + 1))]) c_112_41 rfl rfl rfl ?_
                          refine n_goto c_112_44 ?_
                          refine n_iload c_112_10 rfl ?_
                          refine n_aload_n c_112_12 rfl ?_
                          refine n_alen c_112_13 sc_1.n rfl ?_
                          refine n_if2_ge c_112_14 (by omega) (by omega) ?_ ?_
                          · intro h322
                            refine n_iconst c_112_47 ?_
                            exact n_rI c_112_48 rfl ⟨rfl, by omega⟩
                          · intro h323
                            exfalso; omega
                        · intro h324
                          refine n_iload_n c_112_28 rfl ?_
                          refine n_iload_n c_112_29 rfl ?_
                          refine n_if2_ne c_112_30 (by omega) (by omega) ?_ ?_
                          · intro h325
                            refine n_iinc (L2 := [some (2, 3), some (0, i), some (2, 1), some (0, (((0 + 1) + 1) + 1)), some (0, ((((0 + 1) + 1) + 1) + 1))]) c_112_38 rfl rfl rfl ?_
                            refine n_iinc (L2 := [some (2, 3), some (0, i), some (2, 1), some (0, (((0 + 1) + 1) + 1)), some (0, (((((0 + 1) + 1) + 1) + 1) + 1))]) c_112_41 rfl rfl rfl ?_
                            refine n_goto c_112_44 ?_
                            refine n_iload c_112_10 rfl ?_
                            refine n_aload_n c_112_12 rfl ?_
                            refine n_alen c_112_13 sc_1.n rfl ?_
                            refine n_if2_ge c_112_14 (by omega) (by omega) ?_ ?_
                            · intro h326
                              refine n_iconst c_112_47 ?_
                              exact n_rI c_112_48 rfl ⟨rfl, by omega⟩
                            · intro h327
                              exfalso; omega
                          · intro h328
                            refine n_aload_n c_112_33 rfl ?_
                            refine n_iload c_112_34 rfl ?_
                            refine n_ialoadV c_112_36 sc_1.n rfl rfl rfl (by omega) (t_1_4 hS) ?_
                            intro z329 ez329 f330
                            exact n_rI c_112_37 rfl ⟨rfl, by omega⟩
                    · intro h331
                      refine n_iload_n c_112_28 rfl ?_
                      refine n_iload_n c_112_29 rfl ?_
                      refine n_if2_ne c_112_30 (by omega) (by omega) ?_ ?_
                      · intro h332
                        refine n_iinc (L2 := [some (2, 3), some (0, i), some (2, 1), some (0, (((0 + 1) + 1) + 1)), some (0, (((0 + 1) + 1) + 1))]) c_112_38 rfl rfl rfl ?_
                        refine n_iinc (L2 := [some (2, 3), some (0, i), some (2, 1), some (0, (((0 + 1) + 1) + 1)), some (0, ((((0 + 1) + 1) + 1) + 1))]) c_112_41 rfl rfl rfl ?_
                        refine n_goto c_112_44 ?_
                        refine n_iload c_112_10 rfl ?_
                        refine n_aload_n c_112_12 rfl ?_
                        refine n_alen c_112_13 sc_1.n rfl ?_
                        refine n_if2_ge c_112_14 (by omega) (by omega) ?_ ?_
                        · intro h333
                          exfalso; omega
                        · intro h334
                          refine n_aload_n c_112_17 rfl ?_
                          refine n_aload_n c_112_18 rfl ?_
                          refine n_iload c_112_19 rfl ?_
                          refine n_ialoadV c_112_21 sc_1.n rfl rfl rfl (by omega) (t_1_4 hS) ?_
                          intro z335 ez335 f336
                          have hcst : (z335 : Int) = 36 := by omega
                          rw [hcst]
                          refine n_v1I c_112_22 rfl sc_3.n rfl rfl rfl rfl (aakp36_3  hS ) ?_
                          intro z337 M338 hP339
                          obtain ⟨eM, f339⟩ := hP339
                          subst eM
                          refine n_if0_eq c_112_25 (by omega) ?_ ?_
                          · intro h340
                            refine n_iinc (L2 := [some (2, 3), some (0, i), some (2, 1), some (0, (((0 + 1) + 1) + 1)), some (0, (((((0 + 1) + 1) + 1) + 1) + 1))]) c_112_41 rfl rfl rfl ?_
                            refine n_goto c_112_44 ?_
                            refine n_iload c_112_10 rfl ?_
                            refine n_aload_n c_112_12 rfl ?_
                            refine n_alen c_112_13 sc_1.n rfl ?_
                            refine n_if2_ge c_112_14 (by omega) (by omega) ?_ ?_
                            · intro h341
                              refine n_iconst c_112_47 ?_
                              exact n_rI c_112_48 rfl ⟨rfl, by omega⟩
                            · intro h342
                              exfalso; omega
                          · intro h343
                            refine n_iload_n c_112_28 rfl ?_
                            refine n_iload_n c_112_29 rfl ?_
                            refine n_if2_ne c_112_30 (by omega) (by omega) ?_ ?_
                            · intro h344
                              refine n_iinc (L2 := [some (2, 3), some (0, i), some (2, 1), some (0, ((((0 + 1) + 1) + 1) + 1)), some (0, ((((0 + 1) + 1) + 1) + 1))]) c_112_38 rfl rfl rfl ?_
                              refine n_iinc (L2 := [some (2, 3), some (0, i), some (2, 1), some (0, ((((0 + 1) + 1) + 1) + 1)), some (0, (((((0 + 1) + 1) + 1) + 1) + 1))]) c_112_41 rfl rfl rfl ?_
                              refine n_goto c_112_44 ?_
                              refine n_iload c_112_10 rfl ?_
                              refine n_aload_n c_112_12 rfl ?_
                              refine n_alen c_112_13 sc_1.n rfl ?_
                              refine n_if2_ge c_112_14 (by omega) (by omega) ?_ ?_
                              · intro h345
                                refine n_iconst c_112_47 ?_
                                exact n_rI c_112_48 rfl ⟨rfl, by omega⟩
                              · intro h346
                                exfalso; omega
                            · intro h347
                              refine n_aload_n c_112_33 rfl ?_
                              refine n_iload c_112_34 rfl ?_
                              refine n_ialoadV c_112_36 sc_1.n rfl rfl rfl (by omega) (t_1_4 hS) ?_
                              intro z348 ez348 f349
                              exact n_rI c_112_37 rfl ⟨rfl, by omega⟩
                      · intro h350
                        refine n_aload_n c_112_33 rfl ?_
                        refine n_iload c_112_34 rfl ?_
                        refine n_ialoadV c_112_36 sc_1.n rfl rfl rfl (by omega) (t_1_3 hS) ?_
                        intro z351 ez351 f352
                        exact n_rI c_112_37 rfl ⟨rfl, by omega⟩
                · intro h353
                  refine n_aload_n c_112_33 rfl ?_
                  refine n_iload c_112_34 rfl ?_
                  refine n_ialoadV c_112_36 sc_1.n rfl rfl rfl (by omega) (t_1_2 hS) ?_
                  intro z354 ez354 f355
                  exact n_rI c_112_37 rfl ⟨rfl, by omega⟩
          · intro h356
            refine n_iload_n c_112_28 rfl ?_
            refine n_iload_n c_112_29 rfl ?_
            refine n_if2_ne c_112_30 (by omega) (by omega) ?_ ?_
            · intro h357
              refine n_iinc (L2 := [some (2, 3), some (0, i), some (2, 1), some (0, ((0 + 1) + 1)), some (0, (0 + 1))]) c_112_38 rfl rfl rfl ?_
              refine n_iinc (L2 := [some (2, 3), some (0, i), some (2, 1), some (0, ((0 + 1) + 1)), some (0, ((0 + 1) + 1))]) c_112_41 rfl rfl rfl ?_
              refine n_goto c_112_44 ?_
              refine n_iload c_112_10 rfl ?_
              refine n_aload_n c_112_12 rfl ?_
              refine n_alen c_112_13 sc_1.n rfl ?_
              refine n_if2_ge c_112_14 (by omega) (by omega) ?_ ?_
              · intro h358
                exfalso; omega
              · intro h359
                refine n_aload_n c_112_17 rfl ?_
                refine n_aload_n c_112_18 rfl ?_
                refine n_iload c_112_19 rfl ?_
                refine n_ialoadV c_112_21 sc_1.n rfl rfl rfl (by omega) (t_1_2 hS) ?_
                intro z360 ez360 f361
                have hcst : (z360 : Int) = 20 := by omega
                rw [hcst]
                refine n_v1I c_112_22 rfl sc_3.n rfl rfl rfl rfl (aakp20_3  hS ) ?_
                intro z362 M363 hP364
                obtain ⟨eM, f364⟩ := hP364
                subst eM
                refine n_if0_eq c_112_25 (by omega) ?_ ?_
                · intro h365
                  refine n_iinc (L2 := [some (2, 3), some (0, i), some (2, 1), some (0, ((0 + 1) + 1)), some (0, (((0 + 1) + 1) + 1))]) c_112_41 rfl rfl rfl ?_
                  refine n_goto c_112_44 ?_
                  refine n_iload c_112_10 rfl ?_
                  refine n_aload_n c_112_12 rfl ?_
                  refine n_alen c_112_13 sc_1.n rfl ?_
                  refine n_if2_ge c_112_14 (by omega) (by omega) ?_ ?_
                  · intro h366
                    exfalso; omega
                  · intro h367
                    refine n_aload_n c_112_17 rfl ?_
                    refine n_aload_n c_112_18 rfl ?_
                    refine n_iload c_112_19 rfl ?_
                    refine n_ialoadV c_112_21 sc_1.n rfl rfl rfl (by omega) (t_1_3 hS) ?_
                    intro z368 ez368 f369
                    have hcst : (z368 : Int) = 32 := by omega
                    rw [hcst]
                    refine n_v1I c_112_22 rfl sc_3.n rfl rfl rfl rfl (aakp32_3  hS ) ?_
                    intro z370 M371 hP372
                    obtain ⟨eM, f372⟩ := hP372
                    subst eM
                    refine n_if0_eq c_112_25 (by omega) ?_ ?_
                    · intro h373
                      refine n_iinc (L2 := [some (2, 3), some (0, i), some (2, 1), some (0, ((0 + 1) + 1)), some (0, ((((0 + 1) + 1) + 1) + 1))]) c_112_41 rfl rfl rfl ?_
                      refine n_goto c_112_44 ?_
                      refine n_iload c_112_10 rfl ?_
                      refine n_aload_n c_112_12 rfl ?_
                      refine n_alen c_112_13 sc_1.n rfl ?_
                      refine n_if2_ge c_112_14 (by omega) (by omega) ?_ ?_
                      · intro h374
                        exfalso; omega
                      · intro h375
                        refine n_aload_n c_112_17 rfl ?_
                        refine n_aload_n c_112_18 rfl ?_
                        refine n_iload c_112_19 rfl ?_
                        refine n_ialoadV c_112_21 sc_1.n rfl rfl rfl (by omega) (t_1_4 hS) ?_
                        intro z376 ez376 f377
                        have hcst : (z376 : Int) = 36 := by omega
                        rw [hcst]
                        refine n_v1I c_112_22 rfl sc_3.n rfl rfl rfl rfl (aakp36_3  hS ) ?_
                        intro z378 M379 hP380
                        obtain ⟨eM, f380⟩ := hP380
                        subst eM
                        refine n_if0_eq c_112_25 (by omega) ?_ ?_
                        · intro h381
                          refine n_iinc (L2 := [some (2, 3), some (0, i), some (2, 1), some (0, ((0 + 1) + 1)), some (0, (((((0 + 1) + 1) + 1) + 1) + 1))]) c_112_41 rfl rfl rfl ?_
                          refine n_goto c_112_44 ?_
                          refine n_iload c_112_10 rfl ?_
                          refine n_aload_n c_112_12 rfl ?_
                          refine n_alen c_112_13 sc_1.n rfl ?_
                          refine n_if2_ge c_112_14 (by omega) (by omega) ?_ ?_
                          · intro h382
                            refine n_iconst c_112_47 ?_
                            exact n_rI c_112_48 rfl ⟨rfl, by omega⟩
                          · intro h383
                            exfalso; omega
                        · intro h384
                          refine n_iload_n c_112_28 rfl ?_
                          refine n_iload_n c_112_29 rfl ?_
                          refine n_if2_ne c_112_30 (by omega) (by omega) ?_ ?_
                          · intro h385
                            refine n_iinc (L2 := [some (2, 3), some (0, i), some (2, 1), some (0, (((0 + 1) + 1) + 1)), some (0, ((((0 + 1) + 1) + 1) + 1))]) c_112_38 rfl rfl rfl ?_
                            refine n_iinc (L2 := [some (2, 3), some (0, i), some (2, 1), some (0, (((0 + 1) + 1) + 1)), some (0, (((((0 + 1) + 1) + 1) + 1) + 1))]) c_112_41 rfl rfl rfl ?_
                            refine n_goto c_112_44 ?_
                            refine n_iload c_112_10 rfl ?_
                            refine n_aload_n c_112_12 rfl ?_
                            refine n_alen c_112_13 sc_1.n rfl ?_
                            refine n_if2_ge c_112_14 (by omega) (by omega) ?_ ?_
                            · intro h386
                              refine n_iconst c_112_47 ?_
                              exact n_rI c_112_48 rfl ⟨rfl, by omega⟩
                            · intro h387
                              exfalso; omega
                          · intro h388
                            refine n_aload_n c_112_33 rfl ?_
                            refine n_iload c_112_34 rfl ?_
                            refine n_ialoadV c_112_36 sc_1.n rfl rfl rfl (by omega) (t_1_4 hS) ?_
                            intro z389 ez389 f390
                            exact n_rI c_112_37 rfl ⟨rfl, by omega⟩
                    · intro h391
                      refine n_iload_n c_112_28 rfl ?_
                      refine n_iload_n c_112_29 rfl ?_
                      refine n_if2_ne c_112_30 (by omega) (by omega) ?_ ?_
                      · intro h392
                        refine n_iinc (L2 := [some (2, 3), some (0, i), some (2, 1), some (0, (((0 + 1) + 1) + 1)), some (0, (((0 + 1) + 1) + 1))]) c_112_38 rfl rfl rfl ?_
                        refine n_iinc (L2 := [some (2, 3), some (0, i), some (2, 1), some (0, (((0 + 1) + 1) + 1)), some (0, ((((0 + 1) + 1) + 1) + 1))]) c_112_41 rfl rfl rfl ?_
                        refine n_goto c_112_44 ?_
                        refine n_iload c_112_10 rfl ?_
                        refine n_aload_n c_112_12 rfl ?_
                        refine n_alen c_112_13 sc_1.n rfl ?_
                        refine n_if2_ge c_112_14 (by omega) (by omega) ?_ ?_
                        · intro h393
                          exfalso; omega
                        · intro h394
                          refine n_aload_n c_112_17 rfl ?_
                          refine n_aload_n c_112_18 rfl ?_
                          refine n_iload c_112_19 rfl ?_
                          refine n_ialoadV c_112_21 sc_1.n rfl rfl rfl (by omega) (t_1_4 hS) ?_
                          intro z395 ez395 f396
                          have hcst : (z395 : Int) = 36 := by omega
                          rw [hcst]
                          refine n_v1I c_112_22 rfl sc_3.n rfl rfl rfl rfl (aakp36_3  hS ) ?_
                          intro z397 M398 hP399
                          obtain ⟨eM, f399⟩ := hP399
                          subst eM
                          refine n_if0_eq c_112_25 (by omega) ?_ ?_
                          · intro h400
                            refine n_iinc (L2 := [some (2, 3), some (0, i), some (2, 1), some (0, (((0 + 1) + 1) + 1)), some (0, (((((0 + 1) + 1) + 1) + 1) + 1))]) c_112_41 rfl rfl rfl ?_
                            refine n_goto c_112_44 ?_
                            refine n_iload c_112_10 rfl ?_
                            refine n_aload_n c_112_12 rfl ?_
                            refine n_alen c_112_13 sc_1.n rfl ?_
                            refine n_if2_ge c_112_14 (by omega) (by omega) ?_ ?_
                            · intro h401
                              refine n_iconst c_112_47 ?_
                              exact n_rI c_112_48 rfl ⟨rfl, by omega⟩
                            · intro h402
                              exfalso; omega
                          · intro h403
                            refine n_iload_n c_112_28 rfl ?_
                            refine n_iload_n c_112_29 rfl ?_
                            refine n_if2_ne c_112_30 (by omega) (by omega) ?_ ?_
                            · intro h404
                              refine n_iinc (L2 := [some (2, 3), some (0, i), some (2, 1), some (0, ((((0 + 1) + 1) + 1) + 1)), some (0, ((((0 + 1) + 1) + 1) + 1))]) c_112_38 rfl rfl rfl ?_
                              refine n_iinc (L2 := [some (2, 3), some (0, i), some (2, 1), some (0, ((((0 + 1) + 1) + 1) + 1)), some (0, (((((0 + 1) + 1) + 1) + 1) + 1))]) c_112_41 rfl rfl rfl ?_
                              refine n_goto c_112_44 ?_
                              refine n_iload c_112_10 rfl ?_
                              refine n_aload_n c_112_12 rfl ?_
                              refine n_alen c_112_13 sc_1.n rfl ?_
                              refine n_if2_ge c_112_14 (by omega) (by omega) ?_ ?_
                              · intro h405
                                refine n_iconst c_112_47 ?_
                                exact n_rI c_112_48 rfl ⟨rfl, by omega⟩
                              · intro h406
                                exfalso; omega
                            · intro h407
                              refine n_aload_n c_112_33 rfl ?_
                              refine n_iload c_112_34 rfl ?_
                              refine n_ialoadV c_112_36 sc_1.n rfl rfl rfl (by omega) (t_1_4 hS) ?_
                              intro z408 ez408 f409
                              exact n_rI c_112_37 rfl ⟨rfl, by omega⟩
                      · intro h410
                        refine n_aload_n c_112_33 rfl ?_
                        refine n_iload c_112_34 rfl ?_
                        refine n_ialoadV c_112_36 sc_1.n rfl rfl rfl (by omega) (t_1_3 hS) ?_
                        intro z411 ez411 f412
                        exact n_rI c_112_37 rfl ⟨rfl, by omega⟩
                · intro h413
                  refine n_iload_n c_112_28 rfl ?_
                  refine n_iload_n c_112_29 rfl ?_
                  refine n_if2_ne c_112_30 (by omega) (by omega) ?_ ?_
                  · intro h414
                    refine n_iinc (L2 := [some (2, 3), some (0, i), some (2, 1), some (0, (((0 + 1) + 1) + 1)), some (0, ((0 + 1) + 1))]) c_112_38 rfl rfl rfl ?_
                    refine n_iinc (L2 := [some (2, 3), some (0, i), some (2, 1), some (0, (((0 + 1) + 1) + 1)), some (0, (((0 + 1) + 1) + 1))]) c_112_41 rfl rfl rfl ?_
                    refine n_goto c_112_44 ?_
                    refine n_iload c_112_10 rfl ?_
                    refine n_aload_n c_112_12 rfl ?_
                    refine n_alen c_112_13 sc_1.n rfl ?_
                    refine n_if2_ge c_112_14 (by omega) (by omega) ?_ ?_
                    · intro h415
                      exfalso; omega
                    · intro h416
                      refine n_aload_n c_112_17 rfl ?_
                      refine n_aload_n c_112_18 rfl ?_
                      refine n_iload c_112_19 rfl ?_
                      refine n_ialoadV c_112_21 sc_1.n rfl rfl rfl (by omega) (t_1_3 hS) ?_
                      intro z417 ez417 f418
                      have hcst : (z417 : Int) = 32 := by omega
                      rw [hcst]
                      refine n_v1I c_112_22 rfl sc_3.n rfl rfl rfl rfl (aakp32_3  hS ) ?_
                      intro z419 M420 hP421
                      obtain ⟨eM, f421⟩ := hP421
                      subst eM
                      refine n_if0_eq c_112_25 (by omega) ?_ ?_
                      · intro h422
                        refine n_iinc (L2 := [some (2, 3), some (0, i), some (2, 1), some (0, (((0 + 1) + 1) + 1)), some (0, ((((0 + 1) + 1) + 1) + 1))]) c_112_41 rfl rfl rfl ?_
                        refine n_goto c_112_44 ?_
                        refine n_iload c_112_10 rfl ?_
                        refine n_aload_n c_112_12 rfl ?_
                        refine n_alen c_112_13 sc_1.n rfl ?_
                        refine n_if2_ge c_112_14 (by omega) (by omega) ?_ ?_
                        · intro h423
                          exfalso; omega
                        · intro h424
                          refine n_aload_n c_112_17 rfl ?_
                          refine n_aload_n c_112_18 rfl ?_
                          refine n_iload c_112_19 rfl ?_
                          refine n_ialoadV c_112_21 sc_1.n rfl rfl rfl (by omega) (t_1_4 hS) ?_
                          intro z425 ez425 f426
                          have hcst : (z425 : Int) = 36 := by omega
                          rw [hcst]
                          refine n_v1I c_112_22 rfl sc_3.n rfl rfl rfl rfl (aakp36_3  hS ) ?_
                          intro z427 M428 hP429
                          obtain ⟨eM, f429⟩ := hP429
                          subst eM
                          refine n_if0_eq c_112_25 (by omega) ?_ ?_
                          · intro h430
                            refine n_iinc (L2 := [some (2, 3), some (0, i), some (2, 1), some (0, (((0 + 1) + 1) + 1)), some (0, (((((0 + 1) + 1) + 1) + 1) + 1))]) c_112_41 rfl rfl rfl ?_
                            refine n_goto c_112_44 ?_
                            refine n_iload c_112_10 rfl ?_
                            refine n_aload_n c_112_12 rfl ?_
                            refine n_alen c_112_13 sc_1.n rfl ?_
                            refine n_if2_ge c_112_14 (by omega) (by omega) ?_ ?_
                            · intro h431
                              refine n_iconst c_112_47 ?_
                              exact n_rI c_112_48 rfl ⟨rfl, by omega⟩
                            · intro h432
                              exfalso; omega
                          · intro h433
                            refine n_iload_n c_112_28 rfl ?_
                            refine n_iload_n c_112_29 rfl ?_
                            refine n_if2_ne c_112_30 (by omega) (by omega) ?_ ?_
                            · intro h434
                              refine n_iinc (L2 := [some (2, 3), some (0, i), some (2, 1), some (0, ((((0 + 1) + 1) + 1) + 1)), some (0, ((((0 + 1) + 1) + 1) + 1))]) c_112_38 rfl rfl rfl ?_
                              refine n_iinc (L2 := [some (2, 3), some (0, i), some (2, 1), some (0, ((((0 + 1) + 1) + 1) + 1)), some (0, (((((0 + 1) + 1) + 1) + 1) + 1))]) c_112_41 rfl rfl rfl ?_
                              refine n_goto c_112_44 ?_
                              refine n_iload c_112_10 rfl ?_
                              refine n_aload_n c_112_12 rfl ?_
                              refine n_alen c_112_13 sc_1.n rfl ?_
                              refine n_if2_ge c_112_14 (by omega) (by omega) ?_ ?_
                              · intro h435
                                refine n_iconst c_112_47 ?_
                                exact n_rI c_112_48 rfl ⟨rfl, by omega⟩
                              · intro h436
                                exfalso; omega
                            · intro h437
                              refine n_aload_n c_112_33 rfl ?_
                              refine n_iload c_112_34 rfl ?_
                              refine n_ialoadV c_112_36 sc_1.n rfl rfl rfl (by omega) (t_1_4 hS) ?_
                              intro z438 ez438 f439
                              exact n_rI c_112_37 rfl ⟨rfl, by omega⟩
                      · intro h440
                        refine n_iload_n c_112_28 rfl ?_
                        refine n_iload_n c_112_29 rfl ?_
                        refine n_if2_ne c_112_30 (by omega) (by omega) ?_ ?_
                        · intro h441
                          refine n_iinc (L2 := [some (2, 3), some (0, i), some (2, 1), some (0, ((((0 + 1) + 1) + 1) + 1)), some (0, (((0 + 1) + 1) + 1))]) c_112_38 rfl rfl rfl ?_
                          refine n_iinc (L2 := [some (2, 3), some (0, i), some (2, 1), some (0, ((((0 + 1) + 1) + 1) + 1)), some (0, ((((0 + 1) + 1) + 1) + 1))]) c_112_41 rfl rfl rfl ?_
                          refine n_goto c_112_44 ?_
                          refine n_iload c_112_10 rfl ?_
                          refine n_aload_n c_112_12 rfl ?_
                          refine n_alen c_112_13 sc_1.n rfl ?_
                          refine n_if2_ge c_112_14 (by omega) (by omega) ?_ ?_
                          · intro h442
                            exfalso; omega
                          · intro h443
                            refine n_aload_n c_112_17 rfl ?_
                            refine n_aload_n c_112_18 rfl ?_
                            refine n_iload c_112_19 rfl ?_
                            refine n_ialoadV c_112_21 sc_1.n rfl rfl rfl (by omega) (t_1_4 hS) ?_
                            intro z444 ez444 f445
                            have hcst : (z444 : Int) = 36 := by omega
                            rw [hcst]
                            refine n_v1I c_112_22 rfl sc_3.n rfl rfl rfl rfl (aakp36_3  hS ) ?_
                            intro z446 M447 hP448
                            obtain ⟨eM, f448⟩ := hP448
                            subst eM
                            refine n_if0_eq c_112_25 (by omega) ?_ ?_
                            · intro h449
                              refine n_iinc (L2 := [some (2, 3), some (0, i), some (2, 1), some (0, ((((0 + 1) + 1) + 1) + 1)), some (0, (((((0 + 1) + 1) + 1) + 1) + 1))]) c_112_41 rfl rfl rfl ?_
                              refine n_goto c_112_44 ?_
                              refine n_iload c_112_10 rfl ?_
                              refine n_aload_n c_112_12 rfl ?_
                              refine n_alen c_112_13 sc_1.n rfl ?_
                              refine n_if2_ge c_112_14 (by omega) (by omega) ?_ ?_
                              · intro h450
                                refine n_iconst c_112_47 ?_
                                exact n_rI c_112_48 rfl ⟨rfl, by omega⟩
                              · intro h451
                                exfalso; omega
                            · intro h452
                              refine n_iload_n c_112_28 rfl ?_
                              refine n_iload_n c_112_29 rfl ?_
                              refine n_if2_ne c_112_30 (by omega) (by omega) ?_ ?_
                              · intro h453
                                refine n_iinc (L2 := [some (2, 3), some (0, i), some (2, 1), some (0, (((((0 + 1) + 1) + 1) + 1) + 1)), some (0, ((((0 + 1) + 1) + 1) + 1))]) c_112_38 rfl rfl rfl ?_
                                refine n_iinc (L2 := [some (2, 3), some (0, i), some (2, 1), some (0, (((((0 + 1) + 1) + 1) + 1) + 1)), some (0, (((((0 + 1) + 1) + 1) + 1) + 1))]) c_112_41 rfl rfl rfl ?_
                                refine n_goto c_112_44 ?_
                                refine n_iload c_112_10 rfl ?_
                                refine n_aload_n c_112_12 rfl ?_
                                refine n_alen c_112_13 sc_1.n rfl ?_
                                refine n_if2_ge c_112_14 (by omega) (by omega) ?_ ?_
                                · intro h454
                                  refine n_iconst c_112_47 ?_
                                  exact n_rI c_112_48 rfl ⟨rfl, by omega⟩
                                · intro h455
                                  exfalso; omega
                              · intro h456
                                refine n_aload_n c_112_33 rfl ?_
                                refine n_iload c_112_34 rfl ?_
                                refine n_ialoadV c_112_36 sc_1.n rfl rfl rfl (by omega) (t_1_4 hS) ?_
                                intro z457 ez457 f458
                                exact n_rI c_112_37 rfl ⟨rfl, by omega⟩
                        · intro h459
                          refine n_aload_n c_112_33 rfl ?_
                          refine n_iload c_112_34 rfl ?_
                          refine n_ialoadV c_112_36 sc_1.n rfl rfl rfl (by omega) (t_1_3 hS) ?_
                          intro z460 ez460 f461
                          exact n_rI c_112_37 rfl ⟨rfl, by omega⟩
                  · intro h462
                    refine n_aload_n c_112_33 rfl ?_
                    refine n_iload c_112_34 rfl ?_
                    refine n_ialoadV c_112_36 sc_1.n rfl rfl rfl (by omega) (t_1_2 hS) ?_
                    intro z463 ez463 f464
                    exact n_rI c_112_37 rfl ⟨rfl, by omega⟩
            · intro h465
              refine n_aload_n c_112_33 rfl ?_
              refine n_iload c_112_34 rfl ?_
              refine n_ialoadV c_112_36 sc_1.n rfl rfl rfl (by omega) (t_1_1 hS) ?_
              intro z466 ez466 f467
              exact n_rI c_112_37 rfl ⟨rfl, by omega⟩
      · intro h468
        refine n_aload_n c_112_33 rfl ?_
        refine n_iload c_112_34 rfl ?_
        refine n_ialoadV c_112_36 sc_1.n rfl rfl rfl (by omega) (t_1_0 hS) ?_
        intro z469 ez469 f470
        exact n_rI c_112_37 rfl ⟨rfl, by omega⟩

set_option maxHeartbeats 4000000 in
theorem signs_3_c {xs : List Int32} {e : Nat} {ac : Int} {M0 M : nM} {a : Int} (hS : Sf 3 ac M0 M) (ha : -2147483648 ≤ a ∧ a ≤ 2147483647) : ∀ nn : Nat, (1 < (nn : Int) → nW xs (e + 2) 113 19 [none, none] [] M (nPI fun z M1 => M = M1 ∧ (-2147483648 ≤ z ∧ z ≤ 2147483647))) := by
  have hd : (3 : Int) = 2 ∨ (3 : Int) = 3 := by decide
  have hac := hS.2.2.2.2
  intro nn
  induction nn with
  | zero => intros; omega
  | succ nn ih =>
    intro hnn
    refine n_iconst c_113_19 ?_
    exact n_rI c_113_20 rfl ⟨rfl, by omega⟩
set_option maxHeartbeats 4000000 in
theorem signs_3 {xs : List Int32} {e : Nat} {ac : Int} {M0 M : nM} {a : Int} (hS : Sf 3 ac M0 M) (ha : -2147483648 ≤ a ∧ a ≤ 2147483647) : nW xs (e + 2) 113 0 [some (2, 3), some (0, a)] [] M (nPI fun z M1 => M = M1 ∧ (-2147483648 ≤ z ∧ z ≤ 2147483647)) := by
  have hd : (3 : Int) = 2 ∨ (3 : Int) = 3 := by decide
  have hac := hS.2.2.2.2
  refine n_aload_n c_113_0 rfl ?_
  refine n_iload_n c_113_1 rfl ?_
  refine n_v1I c_113_2 rfl sc_3.n rfl rfl rfl rfl (isAct_3 (a := a) hS (by omega)) ?_
  intro z1 M2 hP3
  obtain ⟨eM, f3, f3p0⟩ := hP3
  subst eM
  refine n_if0_eq c_113_5 (by omega) ?_ ?_
  · intro h4
    refine n_fg (le_n (le_n le_0)) ?_
    exact (signs_3_c hS ha 12)   (by omega)
  · intro h5
    refine n_aload_n c_113_8 rfl ?_
    refine n_getR c_113_9 sc_3.n rfl rfl rfl r_3_0 ?_
    refine n_getV (bi := 0) c_113_12 sc_4.n rfl rfl rfl (t_4_0 hS) ?_
    intro z6 ez6 f7
    obtain rfl : z6 = 3 := by omega
    refine n_iconst c_113_15 ?_
    refine n_if2_ne c_113_16 (by omega) (by omega) ?_ ?_
    · intro h8
      exfalso; omega
    · intro h9
      refine n_fg (le_n (le_n le_0)) ?_
      exact (signs_3_c hS ha 12)   (by omega)

set_option maxHeartbeats 4000000 in
theorem whole_3 {xs : List Int32} {e : Nat} {ac : Int} {M0 M : nM} (hS : Sf 3 ac M0 M)  : nW xs (e + 2) 114 0 [some (2, 3), none, none] [] M (nPI fun z M1 => M = M1 ∧ (-2147483648 ≤ z ∧ z ≤ 2147483647)) := by
  have hd : (3 : Int) = 2 ∨ (3 : Int) = 3 := by decide
  have hac := hS.2.2.2.2
  refine n_aload_n c_114_0 rfl ?_
  refine n_getR c_114_1 sc_3.n rfl rfl rfl r_3_0 ?_
  refine n_getV (bi := 0) c_114_4 sc_4.n rfl rfl rfl (t_4_0 hS) ?_
  intro z1 ez1 f2
  obtain rfl : z1 = 3 := by omega
  refine n_iconst c_114_7 ?_
  refine n_if2_ne c_114_8 (by omega) (by omega) ?_ ?_
  · intro h3
    exfalso; omega
  · intro h4
    refine n_iconst c_114_11 ?_
    exact n_rI c_114_12 rfl ⟨rfl, by omega⟩

set_option maxHeartbeats 4000000 in
theorem restrainForm_3_c {xs : List Int32} {e : Nat} {ac : Int} {M0 M : nM} {m : Int} (hS : Sf 3 ac M0 M) (hm : -2147483648 ≤ m ∧ m ≤ 2147483647) : ∀ nn : Nat, (∀ (x2 : Int) (M : nM), Sf 3 ac M0 M → (0 ≤ x2 ∧ x2 ≤ 12) → (12 - x2) * 2 + 2 < (nn : Int) → nW xs (e + 3) 133 2 [some (2, 3), some (0, m), some (0, x2)] [] M (nPV fun M1 => Sf 3 ac M0 M1)) ∧ (∀ (x2 : Int) (M : nM), Sf 3 ac M0 M → (0 ≤ x2 ∧ x2 ≤ 11) → (12 - x2) * 2 + 1 < (nn : Int) → nW xs (e + 3) 133 39 [some (2, 3), some (0, m), some (0, x2)] [] M (nPV fun M1 => Sf 3 ac M0 M1)) := by
  have hd : (3 : Int) = 2 ∨ (3 : Int) = 3 := by decide
  have hac := hS.2.2.2.2
  intro nn
  induction nn with
  | zero => refine ⟨?_, ?_⟩ <;> (intros; omega)
  | succ nn ih =>
    refine ⟨?_, ?_⟩
    · intro x2 M hS k2 hnn
      refine n_iload_n c_133_2 rfl ?_
      refine n_aload_n c_133_3 rfl ?_
      refine n_getV (bi := 15) c_133_4 sc_3.n rfl rfl rfl (t_3_15 hS) ?_
      intro z1 ez1 f2
      refine n_if2_ge c_133_7 (by omega) (by omega) ?_ ?_
      · intro h3
        exact n_rV c_133_45 rfl hS
      · intro h4
        refine n_iload_n c_133_10 rfl ?_
        refine n_iload_n c_133_11 rfl ?_
        refine n_i_ishr c_133_12 rfl ?_
        have f5 := n_shr_r m x2
        generalize (n_shr m x2) = z6 at f5 ⊢
        refine n_iconst c_133_13 ?_
        refine n_i_iand c_133_14 rfl ?_
        have f7 := n_and_y (x := z6) (y := 1) (by omega)
        generalize (n_and z6 1) = z8 at f7 ⊢
        refine n_if0_eq c_133_15 (by omega) ?_ ?_
        · intro h9
          refine n_fg (le_s (le_s (le_s le_0))) ?_
          exact ih.2 _ M hS (by omega) (by omega)
        · intro h10
          refine n_aload_n c_133_18 rfl ?_
          refine n_getR c_133_19 sc_3.n rfl rfl rfl r_3_7 ?_
          refine n_aload_n c_133_22 rfl ?_
          refine n_getR c_133_23 sc_3.n rfl rfl rfl r_3_8 ?_
          refine n_aload_n c_133_26 rfl ?_
          refine n_getR c_133_27 sc_3.n rfl rfl rfl r_3_3 ?_
          refine n_iload_n c_133_30 rfl ?_
          refine n_aaload c_133_31 sc_13.n rfl rfl rfl (by omega) (r_laws _) ?_
          have q11 : LawAt (79 + 2 * x2) := by unfold LawAt; omega
          refine n_aload_n c_133_32 rfl ?_
          refine n_getR c_133_33 sc_3.n rfl rfl rfl r_3_0 ?_
          refine n_v3V c_133_36 rfl sc_38.n rfl rfl rfl rfl (restrain_3 (w := (79 + 2 * x2)) hS q11) ?_
          intro  M12 hP13
          have hS12 := hP13
          refine n_fg (le_s (le_s (le_s le_0))) ?_
          exact ih.2 _ M12 hS12 (by omega) (by omega)
    · intro x2 M hS k2 hnn
      refine n_iinc (L2 := [some (2, 3), some (0, m), some (0, (x2 + 1))]) c_133_39 rfl rfl rfl ?_
      refine n_goto c_133_42 ?_
      refine n_fg (le_s (le_s (le_s le_0))) ?_
      exact ih.1 _ M hS (by omega) (by omega)
set_option maxHeartbeats 4000000 in
theorem restrainForm_3 {xs : List Int32} {e : Nat} {ac : Int} {M0 M : nM} {m : Int} (hS : Sf 3 ac M0 M) (hm : -2147483648 ≤ m ∧ m ≤ 2147483647) : nW xs (e + 3) 133 0 [some (2, 3), some (0, m), none] [] M (nPV fun M1 => Sf 3 ac M0 M1) := by
  have hd : (3 : Int) = 2 ∨ (3 : Int) = 3 := by decide
  have hac := hS.2.2.2.2
  refine n_iconst c_133_0 ?_
  refine n_istore_n (L2 := [some (2, 3), some (0, m), some (0, 0)]) c_133_1 rfl rfl ?_
  refine n_fg (le_s (le_s (le_s le_0))) ?_
  exact (restrainForm_3_c hS hm 66).1 _ M hS (by omega) (by omega)

set_option maxHeartbeats 4000000 in
theorem findKeepers_3_c {xs : List Int32} {e : Nat} {ac : Int} {M0 M : nM} {m n : Int} (hS : Sf 3 ac M0 M) (hm : -2147483648 ≤ m ∧ m ≤ 2147483647) (hn : 1 ≤ n ∧ n ≤ 2) : ∀ nn : Nat, (∀ (x3 : Int) (M : nM), Sf 3 ac M0 M → (0 ≤ x3 ∧ x3 ≤ 4095) → 1 < (nn : Int) → nW xs (e + 30) 132 28 [some (2, 3), none, some (0, n), some (0, x3)] [] M (nPV fun M1 => Sf 3 ac M0 M1)) := by
  have hd : (3 : Int) = 2 ∨ (3 : Int) = 3 := by decide
  have hac := hS.2.2.2.2
  intro nn
  induction nn with
  | zero => intros; omega
  | succ nn ih =>
    intro x3 M hS k3 hnn
    refine n_aload_n c_132_28 rfl ?_
    refine n_getR c_132_29 sc_3.n rfl rfl rfl r_3_8 ?_
    refine n_iload_n c_132_32 rfl ?_
    refine n_aload_n c_132_33 rfl ?_
    refine n_getR c_132_34 sc_3.n rfl rfl rfl r_3_0 ?_
    refine n_v2V c_132_37 rfl sc_44.n rfl rfl rfl rfl (beFree_3 (n := n) hS (by omega)) ?_
    intro  M1 hP2
    have hS1 := hP2
    refine n_aload_n c_132_40 rfl ?_
    refine n_getR c_132_41 sc_3.n rfl rfl rfl r_3_7 ?_
    refine n_aload_n c_132_44 rfl ?_
    refine n_getR c_132_45 sc_3.n rfl rfl rfl r_3_0 ?_
    refine n_getV (bi := 0) c_132_48 sc_4.n rfl rfl rfl (t_4_0 hS1) ?_
    intro z3 ez3 f4
    obtain rfl : z3 = 3 := by omega
    refine n_aload_n c_132_51 rfl ?_
    refine n_getR c_132_52 sc_3.n rfl rfl rfl r_3_8 ?_
    refine n_getV (bi := 2) c_132_55 sc_44.n rfl rfl rfl (t_44_2 hS1) ?_
    intro z5 ez5 f6
    refine n_v2V c_132_58 rfl sc_38.n rfl rfl rfl rfl (nstart_3 (c := z5) hS1 (by omega)) ?_
    intro  M7 hP8
    have hS7 := hP8
    refine n_aload_n c_132_61 rfl ?_
    refine n_iload_n c_132_62 rfl ?_
    refine n_v1V c_132_63 rfl sc_3.n rfl rfl rfl rfl (restrainForm_3 (m := x3) hS7 (by omega)) ?_
    intro  M9 hP10
    have hS9 := hP10
    refine n_aload_n c_132_66 rfl ?_
    refine n_getR c_132_67 sc_3.n rfl rfl rfl r_3_7 ?_
    refine n_v0V c_132_70 rfl sc_38.n rfl rfl rfl rfl (order_3  hS9 ) ?_
    intro  M11 hP12
    have hS11 := hP12
    refine n_aload_n c_132_73 rfl ?_
    refine n_getR c_132_74 sc_3.n rfl rfl rfl r_3_7 ?_
    refine n_aload_n c_132_77 rfl ?_
    refine n_getR c_132_78 sc_3.n rfl rfl rfl r_3_9 ?_
    refine n_v1V c_132_81 rfl sc_38.n rfl rfl rfl rfl (findAll46_3  hS11 ) ?_
    intro  M13 hP14
    have hS13 := hP14
    refine n_aload_n c_132_84 rfl ?_
    refine n_iload_n c_132_85 rfl ?_
    refine n_putV (bi := 17) hS13 c_132_86 sc_3.n rfl rfl rfl rfl (w_3_17 (by omega)) ?_
    intro M15 eM15 hS15
    have g15_0 : M15 3 17 = n := by rw [eM15]; exact nu_s _ _ _ _
    refine n_aload_n c_132_89 rfl ?_
    refine n_iload_n c_132_90 rfl ?_
    refine n_putV (bi := 16) hS15 c_132_91 sc_3.n rfl rfl rfl rfl (w_3_16 (by omega)) ?_
    intro M16 eM16 hS16
    have g16_0 : M16 3 17 = M15 3 17 := by rw [eM16]; exact nu_i (by omega)
    have g16_1 : M16 3 16 = x3 := by rw [eM16]; exact nu_s _ _ _ _
    exact n_rV c_132_94 rfl hS16
set_option maxHeartbeats 4000000 in
theorem findKeepers_3 {xs : List Int32} {e : Nat} {ac : Int} {M0 M : nM} {m n : Int} (hS : Sf 3 ac M0 M) (hm : -2147483648 ≤ m ∧ m ≤ 2147483647) (hn : 1 ≤ n ∧ n ≤ 2) : nW xs (e + 30) 132 0 [some (2, 3), some (0, m), some (0, n), none] [] M (nPV fun M1 => Sf 3 ac M0 M1) := by
  have hd : (3 : Int) = 2 ∨ (3 : Int) = 3 := by decide
  have hac := hS.2.2.2.2
  refine n_iload_n c_132_0 rfl ?_
  refine n_iconst c_132_1 ?_
  refine n_aload_n c_132_2 rfl ?_
  refine n_getV (bi := 15) c_132_3 sc_3.n rfl rfl rfl (t_3_15 hS) ?_
  intro z1 ez1 f2
  refine n_i_ishl c_132_6 rfl ?_
  have f3 := n_shl_1 (y := z1) (a := 0) (b := 12) (by decide) (by omega)
  generalize (n_shl 1 z1) = z4 at f3 ⊢
  refine n_iconst c_132_7 ?_
  refine n_isub c_132_8 rfl ?_
  refine n_i_iand c_132_9 rfl ?_
  have f5 := n_and_y (x := m) (y := (z4 - 1)) (by omega)
  generalize (n_and m (z4 - 1)) = z6 at f5 ⊢
  refine n_istore_n (L2 := [some (2, 3), some (0, m), some (0, n), some (0, z6)]) c_132_10 rfl rfl ?_
  refine n_aload_n c_132_11 rfl ?_
  refine n_getV (bi := 17) c_132_12 sc_3.n rfl rfl rfl (t_3_17 hS) ?_
  intro z7 ez7 f8
  refine n_iload_n c_132_15 rfl ?_
  refine n_if2_ne c_132_16 (by omega) (by omega) ?_ ?_
  · intro h9
    refine n_fg (le_s (le_n (le_s (le_s le_0)))) ?_
    exact (findKeepers_3_c hS hm hn 12) _ M hS (by omega) (by omega)
  · intro h10
    refine n_aload_n c_132_19 rfl ?_
    refine n_getV (bi := 16) c_132_20 sc_3.n rfl rfl rfl (t_3_16 hS) ?_
    intro z11 ez11 f12
    refine n_iload_n c_132_23 rfl ?_
    refine n_if2_ne c_132_24 (by omega) (by omega) ?_ ?_
    · intro h13
      refine n_fg (le_s (le_n (le_s (le_s le_0)))) ?_
      exact (findKeepers_3_c hS hm hn 12) _ M hS (by omega) (by omega)
    · intro h14
      exact n_rV c_132_27 rfl hS

set_option maxHeartbeats 4000000 in
theorem actsOf_3 {xs : List Int32} {e : Nat} {ac : Int} {M0 M : nM} {m n : Int} (hS : Sf 3 ac M0 M) (hm : -2147483648 ≤ m ∧ m ≤ 2147483647) (hn : -2147483648 ≤ n ∧ n ≤ 2147483647) : nW xs (e + 31) 107 0 [some (2, 3), some (0, m), some (0, n)] [] M (nPI fun z M1 => Sf 3 ac M0 M1 ∧ (-2147483648 ≤ z ∧ z ≤ 2147483647)) := by
  have hd : (3 : Int) = 2 ∨ (3 : Int) = 3 := by decide
  have hac := hS.2.2.2.2
  refine n_aload_n c_107_0 rfl ?_
  refine n_getR c_107_1 sc_3.n rfl rfl rfl r_3_0 ?_
  refine n_iload_n c_107_4 rfl ?_
  refine n_v1I c_107_5 rfl sc_4.n rfl rfl rfl rfl (isMadeOf_3 (n := n) hS (by omega)) ?_
  intro z1 M2 hP3
  obtain ⟨eM, f3, f3p0⟩ := hP3
  subst eM
  refine n_if0_ne c_107_8 (by omega) ?_ ?_
  · intro h4
    refine n_aload_n c_107_13 rfl ?_
    refine n_iload_n c_107_14 rfl ?_
    refine n_iload_n c_107_15 rfl ?_
    refine n_v2V c_107_16 rfl sc_3.n rfl rfl rfl rfl (findKeepers_3 (m := m) (n := n) hS (by omega) (by omega)) ?_
    intro  M5 hP6
    have hS5 := hP6
    refine n_aload_n c_107_19 rfl ?_
    refine n_getR c_107_20 sc_3.n rfl rfl rfl r_3_9 ?_
    refine n_getV (bi := 1) c_107_23 sc_46.n rfl rfl rfl (t_46_1 hS5) ?_
    intro z7 ez7 f8
    exact n_rI c_107_26 rfl ⟨hS5, by omega⟩
  · intro h9
    refine n_iconst c_107_11 ?_
    exact n_rI c_107_12 rfl ⟨hS, by omega⟩

set_option maxHeartbeats 4000000 in
theorem actOf_3 {xs : List Int32} {e : Nat} {ac : Int} {M0 M : nM} {m n i : Int} (hS : Sf 3 ac M0 M) (hm : -2147483648 ≤ m ∧ m ≤ 2147483647) (hn : -2147483648 ≤ n ∧ n ≤ 2147483647) (hi : -2147483648 ≤ i ∧ i ≤ 2147483647) : nW xs (e + 31) 108 0 [some (2, 3), some (0, m), some (0, n), some (0, i)] [] M (nPI fun z M1 => Sf 3 ac M0 M1 ∧ (-2147483648 ≤ z ∧ z ≤ 2147483647)) := by
  have hd : (3 : Int) = 2 ∨ (3 : Int) = 3 := by decide
  have hac := hS.2.2.2.2
  refine n_aload_n c_108_0 rfl ?_
  refine n_getR c_108_1 sc_3.n rfl rfl rfl r_3_0 ?_
  refine n_iload_n c_108_4 rfl ?_
  refine n_v1I c_108_5 rfl sc_4.n rfl rfl rfl rfl (isMadeOf_3 (n := n) hS (by omega)) ?_
  intro z1 M2 hP3
  obtain ⟨eM, f3, f3p0⟩ := hP3
  subst eM
  refine n_if0_ne c_108_8 (by omega) ?_ ?_
  · intro h4
    refine n_aload_n c_108_13 rfl ?_
    refine n_iload_n c_108_14 rfl ?_
    refine n_iload_n c_108_15 rfl ?_
    refine n_v2V c_108_16 rfl sc_3.n rfl rfl rfl rfl (findKeepers_3 (m := m) (n := n) hS (by omega) (by omega)) ?_
    intro  M5 hP6
    have hS5 := hP6
    refine n_aload_n c_108_19 rfl ?_
    refine n_getR c_108_20 sc_3.n rfl rfl rfl r_3_9 ?_
    refine n_iload_n c_108_23 rfl ?_
    refine n_v1I c_108_24 rfl sc_46.n rfl rfl rfl rfl (nth46_3 (i := i) hS5 (by omega)) ?_
    intro z7 M8 hP9
    obtain ⟨eM, f9⟩ := hP9
    subst eM
    exact n_rI c_108_27 rfl ⟨hS5, by omega⟩
  · intro h10
    refine n_iconst c_108_11 ?_
    exact n_rI c_108_12 rfl ⟨hS, by omega⟩

set_option maxHeartbeats 4000000 in
theorem solve_3_c {xs : List Int32} {e : Nat} {ac : Int} {M0 M : nM} (hS : Sf 3 ac M0 M)  : ∀ nn : Nat, (∀ (x1 : Int) (M : nM), Sf 3 ac M0 M → (0 ≤ x1 ∧ x1 ≤ 30) → (30 - x1) * 1 + 1 < (nn : Int) → nW xs (e + 30) 134 31 [some (2, 3), some (0, x1)] [] M (nPV fun M1 => Sf 3 ac M0 M1)) := by
  have hd : (3 : Int) = 2 ∨ (3 : Int) = 3 := by decide
  have hac := hS.2.2.2.2
  intro nn
  induction nn with
  | zero => intros; omega
  | succ nn ih =>
    intro x1 M hS k1 hnn
    refine n_iload_n c_134_31 rfl ?_
    refine n_aload_n c_134_32 rfl ?_
    refine n_getR c_134_33 sc_3.n rfl rfl rfl r_3_6 ?_
    refine n_getV (bi := 1) c_134_36 sc_32.n rfl rfl rfl (t_32_1 hS) ?_
    intro z1 ez1 f2
    refine n_if2_ge c_134_39 (by omega) (by omega) ?_ ?_
    · intro h3
      refine n_aload_n c_134_99 rfl ?_
      refine n_getR c_134_100 sc_3.n rfl rfl rfl r_3_7 ?_
      refine n_v0V c_134_103 rfl sc_38.n rfl rfl rfl rfl (order_3  hS ) ?_
      intro  M4 hP5
      have hS4 := hP5
      refine n_aload_n c_134_106 rfl ?_
      refine n_getR c_134_107 sc_3.n rfl rfl rfl r_3_7 ?_
      refine n_aload_n c_134_110 rfl ?_
      refine n_getR c_134_111 sc_3.n rfl rfl rfl r_3_10 ?_
      refine n_v1V c_134_114 rfl sc_38.n rfl rfl rfl rfl (findAll48_3  hS4 ) ?_
      intro  M6 hP7
      have hS6 := hP7
      refine n_aload_n c_134_117 rfl ?_
      refine n_iconst c_134_118 ?_
      refine n_putZV (bi := 18) hS6 c_134_119 sc_3.n rfl rfl rfl (by omega) rfl (w_3_18 (by omega)) ?_
      intro M8 eM8 hS8
      have g8_0 : M8 3 18 = 1 := by rw [eM8]; exact nu_s _ _ _ _
      exact n_rV c_134_122 rfl hS8
    · intro h9
      refine n_aload_n c_134_42 rfl ?_
      refine n_getR c_134_43 sc_3.n rfl rfl rfl r_3_7 ?_
      refine n_aload_n c_134_46 rfl ?_
      refine n_getR c_134_47 sc_3.n rfl rfl rfl r_3_6 ?_
      refine n_getR c_134_50 sc_32.n rfl rfl rfl r_32_3 ?_
      refine n_iload_n c_134_53 rfl ?_
      refine n_ialoadV c_134_54 sc_34.n rfl rfl rfl (by omega) (t_34 hS (by omega)) ?_
      intro z10 ez10 f11
      refine n_aload_n c_134_55 rfl ?_
      refine n_getR c_134_56 sc_3.n rfl rfl rfl r_3_6 ?_
      refine n_getR c_134_59 sc_32.n rfl rfl rfl r_32_4 ?_
      refine n_iload_n c_134_62 rfl ?_
      refine n_ialoadV c_134_63 sc_35.n rfl rfl rfl (by omega) (t_35 hS (by omega)) ?_
      intro z12 ez12 f13
      refine n_aload_n c_134_64 rfl ?_
      refine n_getR c_134_65 sc_3.n rfl rfl rfl r_3_6 ?_
      refine n_getR c_134_68 sc_32.n rfl rfl rfl r_32_5 ?_
      refine n_iload_n c_134_71 rfl ?_
      refine n_ialoadV c_134_72 sc_36.n rfl rfl rfl (by omega) (t_36 hS (by omega)) ?_
      intro z14 ez14 f15
      refine n_aload_n c_134_73 rfl ?_
      refine n_getR c_134_74 sc_3.n rfl rfl rfl r_3_3 ?_
      refine n_aload_n c_134_77 rfl ?_
      refine n_getR c_134_78 sc_3.n rfl rfl rfl r_3_6 ?_
      refine n_getR c_134_81 sc_32.n rfl rfl rfl r_32_2 ?_
      refine n_iload_n c_134_84 rfl ?_
      refine n_ialoadV c_134_85 sc_33.n rfl rfl rfl (by omega) (t_33 hS (by omega)) ?_
      intro z16 ez16 f17
      refine n_aaload c_134_86 sc_13.n rfl rfl rfl (by omega) (r_laws _) ?_
      have q18 : LawAt (79 + 2 * z16) := by unfold LawAt; omega
      refine n_getV (bi := 2) c_134_87 q18.c0.1.n rfl rfl rfl (t_law hS q18).2.2.1 ?_
      intro z19 ez19 f20
      refine n_v4V c_134_90 rfl sc_38.n rfl rfl rfl rfl (limit_3 (p := z10) (q := z12) (r := z14) (w := z19) hS (by omega) (by omega) (by omega) (by omega)) ?_
      intro  M21 hP22
      have hS21 := hP22
      refine n_iinc (L2 := [some (2, 3), some (0, (x1 + 1))]) c_134_93 rfl rfl rfl ?_
      refine n_goto c_134_96 ?_
      refine n_fg (le_s (le_s le_0)) ?_
      exact ih _ M21 hS21 (by omega) (by omega)
set_option maxHeartbeats 4000000 in
theorem solve_3 {xs : List Int32} {e : Nat} {ac : Int} {M0 M : nM} (hS : Sf 3 ac M0 M)  : nW xs (e + 30) 134 0 [some (2, 3), none] [] M (nPV fun M1 => Sf 3 ac M0 M1) := by
  have hd : (3 : Int) = 2 ∨ (3 : Int) = 3 := by decide
  have hac := hS.2.2.2.2
  refine n_aload_n c_134_0 rfl ?_
  refine n_getV (bi := 18) c_134_1 sc_3.n rfl rfl rfl (t_3_18 hS) ?_
  intro z1 ez1 f2
  refine n_if0_eq c_134_4 (by omega) ?_ ?_
  · intro h3
    refine n_aload_n c_134_8 rfl ?_
    refine n_getR c_134_9 sc_3.n rfl rfl rfl r_3_7 ?_
    refine n_aload_n c_134_12 rfl ?_
    refine n_getR c_134_13 sc_3.n rfl rfl rfl r_3_0 ?_
    refine n_getV (bi := 0) c_134_16 sc_4.n rfl rfl rfl (t_4_0 hS) ?_
    intro z4 ez4 f5
    obtain rfl : z4 = 3 := by omega
    refine n_aload_n c_134_19 rfl ?_
    refine n_getR c_134_20 sc_3.n rfl rfl rfl r_3_6 ?_
    refine n_getV (bi := 0) c_134_23 sc_32.n rfl rfl rfl (t_32_0 hS) ?_
    intro z6 ez6 f7
    refine n_v2V c_134_26 rfl sc_38.n rfl rfl rfl rfl (nstart_3 (c := z6) hS (by omega)) ?_
    intro  M8 hP9
    have hS8 := hP9
    refine n_iconst c_134_29 ?_
    refine n_istore_n (L2 := [some (2, 3), some (0, 0)]) c_134_30 rfl rfl ?_
    refine n_fg (le_s (le_s le_0)) ?_
    exact (solve_3_c hS  74) _ M8 hS8 (by omega) (by omega)
  · intro h10
    exact n_rV c_134_7 rfl hS

set_option maxHeartbeats 4000000 in
theorem answers_3 {xs : List Int32} {e : Nat} {ac : Int} {M0 M : nM} (hS : Sf 3 ac M0 M)  : nW xs (e + 31) 118 0 [some (2, 3)] [] M (nPI fun z M1 => Sf 3 ac M0 M1 ∧ (-2147483648 ≤ z ∧ z ≤ 2147483647)) := by
  have hd : (3 : Int) = 2 ∨ (3 : Int) = 3 := by decide
  have hac := hS.2.2.2.2
  refine n_aload_n c_118_0 rfl ?_
  refine n_v0V c_118_1 rfl sc_3.n rfl rfl rfl rfl (solve_3  hS ) ?_
  intro  M1 hP2
  have hS1 := hP2
  refine n_aload_n c_118_4 rfl ?_
  refine n_getR c_118_5 sc_3.n rfl rfl rfl r_3_10 ?_
  refine n_getV (bi := 1) c_118_8 sc_48.n rfl rfl rfl (t_48_1 hS1) ?_
  intro z3 ez3 f4
  exact n_rI c_118_11 rfl ⟨hS1, by omega⟩

set_option maxHeartbeats 4000000 in
theorem answer_3 {xs : List Int32} {e : Nat} {ac : Int} {M0 M : nM} {i : Int} (hS : Sf 3 ac M0 M) (hi : -2147483648 ≤ i ∧ i ≤ 2147483647) : nW xs (e + 31) 119 0 [some (2, 3), some (0, i)] [] M (nPI fun z M1 => Sf 3 ac M0 M1 ∧ (-2147483648 ≤ z ∧ z ≤ 2147483647)) := by
  have hd : (3 : Int) = 2 ∨ (3 : Int) = 3 := by decide
  have hac := hS.2.2.2.2
  refine n_aload_n c_119_0 rfl ?_
  refine n_v0V c_119_1 rfl sc_3.n rfl rfl rfl rfl (solve_3  hS ) ?_
  intro  M1 hP2
  have hS1 := hP2
  refine n_aload_n c_119_4 rfl ?_
  refine n_getR c_119_5 sc_3.n rfl rfl rfl r_3_10 ?_
  refine n_iload_n c_119_8 rfl ?_
  refine n_v1I c_119_9 rfl sc_48.n rfl rfl rfl rfl (nth48_3 (i := i) hS1 (by omega)) ?_
  intro z3 M4 hP5
  obtain ⟨eM, f5⟩ := hP5
  subst eM
  exact n_rI c_119_12 rfl ⟨hS1, by omega⟩

set_option maxHeartbeats 4000000 in
theorem narrowed_3 {xs : List Int32} {e : Nat} {ac : Int} {M0 M : nM} {u : Int} (hS : Sf 3 ac M0 M) (hu : -2147483648 ≤ u ∧ u ≤ 2147483647) : nW xs (e + 4) 117 0 [some (2, 3), some (0, u)] [] M (nPI fun z M1 => Sf 3 ac M0 M1 ∧ (-2147483648 ≤ z ∧ z ≤ 2147483647)) := by
  have hd : (3 : Int) = 2 ∨ (3 : Int) = 3 := by decide
  have hac := hS.2.2.2.2
  refine n_aload_n c_117_0 rfl ?_
  refine n_getR c_117_1 sc_3.n rfl rfl rfl r_3_6 ?_
  refine n_iload_n c_117_4 rfl ?_
  refine n_v1I c_117_5 rfl sc_32.n rfl rfl rfl rfl (isUnknown_3 (u := u) hS (by omega)) ?_
  intro z1 M2 hP3
  obtain ⟨eM, f3, f3p0⟩ := hP3
  subst eM
  refine n_if0_ne c_117_8 (by omega) ?_ ?_
  · intro h4
    refine n_aload_n c_117_13 rfl ?_
    refine n_getR c_117_14 sc_3.n rfl rfl rfl r_3_6 ?_
    refine n_aload_n c_117_17 rfl ?_
    refine n_getR c_117_18 sc_3.n rfl rfl rfl r_3_3 ?_
    refine n_aload_n c_117_21 rfl ?_
    refine n_getR c_117_22 sc_3.n rfl rfl rfl r_3_0 ?_
    refine n_v2V c_117_25 rfl sc_32.n rfl rfl rfl rfl (narrow_3  hS ) ?_
    intro  M5 hP6
    have hS5 := hP6
    refine n_aload_n c_117_28 rfl ?_
    refine n_getR c_117_29 sc_3.n rfl rfl rfl r_3_6 ?_
    refine n_getR c_117_32 sc_32.n rfl rfl rfl r_32_6 ?_
    refine n_iload_n c_117_35 rfl ?_
    refine n_ialoadV c_117_36 sc_37.n rfl rfl rfl (by omega) (t_37 hS5 (by omega)) ?_
    intro z7 ez7 f8
    exact n_rI c_117_37 rfl ⟨hS5, by omega⟩
  · intro h9
    refine n_iconst c_117_11 ?_
    exact n_rI c_117_12 rfl ⟨hS, by omega⟩

set_option maxHeartbeats 4000000 in
theorem quick_3_c {xs : List Int32} {e : Nat} {ac : Int} {M0 M : nM} {k : Int} (hS : Sf 3 ac M0 M) (hk : -2147483648 ≤ k ∧ k ≤ 2147483647) : ∀ nn : Nat, (∀ (M : nM), Sf 3 ac M0 M → 1 < (nn : Int) → nW xs (e + 31) 120 60 [some (2, 3), none] [] M (nPJ fun z M1 => Sf 3 ac M0 M1 ∧ (-9223372036854775808 ≤ z ∧ z ≤ 9223372036854775807))) := by
  have hd : (3 : Int) = 2 ∨ (3 : Int) = 3 := by decide
  have hac := hS.2.2.2.2
  intro nn
  induction nn with
  | zero => intros; omega
  | succ nn ih =>
    intro M hS hnn
    refine n_aload_n c_120_60 rfl ?_
    refine n_getR c_120_61 sc_3.n rfl rfl rfl r_3_7 ?_
    refine n_aload_n c_120_64 rfl ?_
    refine n_getR c_120_65 sc_3.n rfl rfl rfl r_3_0 ?_
    refine n_getV (bi := 0) c_120_68 sc_4.n rfl rfl rfl (t_4_0 hS) ?_
    intro z1 ez1 f2
    obtain rfl : z1 = 3 := by omega
    refine n_aload_n c_120_71 rfl ?_
    refine n_getR c_120_72 sc_3.n rfl rfl rfl r_3_8 ?_
    refine n_getV (bi := 2) c_120_75 sc_44.n rfl rfl rfl (t_44_2 hS) ?_
    intro z3 ez3 f4
    refine n_v2V c_120_78 rfl sc_38.n rfl rfl rfl rfl (nstart_3 (c := z3) hS (by omega)) ?_
    intro  M5 hP6
    have hS5 := hP6
    refine n_aload_n c_120_81 rfl ?_
    refine n_aload_n c_120_82 rfl ?_
    refine n_getR c_120_83 sc_3.n rfl rfl rfl r_3_6 ?_
    refine n_v0I c_120_86 rfl sc_32.n rfl rfl rfl rfl (lawMask_3  hS5 ) ?_
    intro z7 M8 hP9
    obtain ⟨eM, f9⟩ := hP9
    subst eM
    refine n_v1V c_120_89 rfl sc_3.n rfl rfl rfl rfl (restrainForm_3 (m := z7) hS5 (by omega)) ?_
    intro  M10 hP11
    have hS10 := hP11
    refine n_aload_n c_120_92 rfl ?_
    refine n_getR c_120_93 sc_3.n rfl rfl rfl r_3_7 ?_
    refine n_v0V c_120_96 rfl sc_38.n rfl rfl rfl rfl (order_3  hS10 ) ?_
    intro  M12 hP13
    have hS12 := hP13
    refine n_aload_n c_120_99 rfl ?_
    refine n_getR c_120_100 sc_3.n rfl rfl rfl r_3_7 ?_
    refine n_aload_n c_120_103 rfl ?_
    refine n_getR c_120_104 sc_3.n rfl rfl rfl r_3_8 ?_
    refine n_v1I c_120_107 rfl sc_38.n rfl rfl rfl rfl (findFirst_3  hS12 ) ?_
    intro z14 M15 hP16
    obtain ⟨hS15, f16⟩ := hP16
    refine n_if0_eq c_120_110 (by omega) ?_ ?_
    · intro h17
      refine n_ldc2 (n := (-7)) c_120_134 rfl ?_
      exact n_rJ c_120_137 rfl ⟨hS15, by omega⟩
    · intro h18
      refine n_aload_n c_120_113 rfl ?_
      refine n_getR c_120_114 sc_3.n rfl rfl rfl r_3_8 ?_
      refine n_aload_n c_120_117 rfl ?_
      refine n_getR c_120_118 sc_3.n rfl rfl rfl r_3_7 ?_
      refine n_getR c_120_121 sc_38.n rfl rfl rfl r_38_0 ?_
      refine n_aload_n c_120_124 rfl ?_
      refine n_getR c_120_125 sc_3.n rfl rfl rfl r_3_0 ?_
      refine n_v2J c_120_128 rfl sc_44.n rfl rfl rfl rfl (fcode_3  hS15 ) ?_
      intro z19 M20 hP21
      obtain ⟨eM, f21⟩ := hP21
      subst eM
      refine n_goto c_120_131 ?_
      exact n_rJ c_120_137 rfl ⟨hS15, by omega⟩
set_option maxHeartbeats 4000000 in
theorem quick_3 {xs : List Int32} {e : Nat} {ac : Int} {M0 M : nM} {k : Int} (hS : Sf 3 ac M0 M) (hk : -2147483648 ≤ k ∧ k ≤ 2147483647) : nW xs (e + 31) 120 0 [some (2, 3), some (0, k)] [] M (nPJ fun z M1 => Sf 3 ac M0 M1 ∧ (-9223372036854775808 ≤ z ∧ z ≤ 9223372036854775807)) := by
  have hd : (3 : Int) = 2 ∨ (3 : Int) = 3 := by decide
  have hac := hS.2.2.2.2
  refine n_iload_n c_120_0 rfl ?_
  refine n_if0_ne c_120_1 (by omega) ?_ ?_
  · intro h1
    refine n_iload_n c_120_18 rfl ?_
    refine n_iconst c_120_19 ?_
    refine n_if2_ne c_120_20 (by omega) (by omega) ?_ ?_
    · intro h2
      refine n_iload_n c_120_37 rfl ?_
      refine n_iconst c_120_38 ?_
      refine n_if2_ne c_120_39 (by omega) (by omega) ?_ ?_
      · intro h3
        refine n_ldc2 (n := (-1)) c_120_56 rfl ?_
        exact n_rJ c_120_59 rfl ⟨hS, by omega⟩
      · intro h4
        refine n_aload_n c_120_42 rfl ?_
        refine n_getR c_120_43 sc_3.n rfl rfl rfl r_3_8 ?_
        refine n_aload_n c_120_46 rfl ?_
        refine n_getR c_120_47 sc_3.n rfl rfl rfl r_3_0 ?_
        refine n_v1V c_120_50 rfl sc_44.n rfl rfl rfl rfl (beSum_3  hS ) ?_
        intro  M5 hP6
        have hS5 := hP6
        refine n_goto c_120_53 ?_
        refine n_fg (le_s (le_n le_0)) ?_
        exact (quick_3_c hS hk 12)  M5 hS5  (by omega)
    · intro h7
      refine n_aload_n c_120_23 rfl ?_
      refine n_getR c_120_24 sc_3.n rfl rfl rfl r_3_8 ?_
      refine n_aload_n c_120_27 rfl ?_
      refine n_getR c_120_28 sc_3.n rfl rfl rfl r_3_0 ?_
      refine n_v1V c_120_31 rfl sc_44.n rfl rfl rfl rfl (beMost_3  hS ) ?_
      intro  M8 hP9
      have hS8 := hP9
      refine n_goto c_120_34 ?_
      refine n_fg (le_s (le_n le_0)) ?_
      exact (quick_3_c hS hk 12)  M8 hS8  (by omega)
  · intro h10
    refine n_aload_n c_120_4 rfl ?_
    refine n_getR c_120_5 sc_3.n rfl rfl rfl r_3_8 ?_
    refine n_aload_n c_120_8 rfl ?_
    refine n_getR c_120_9 sc_3.n rfl rfl rfl r_3_0 ?_
    refine n_v1V c_120_12 rfl sc_44.n rfl rfl rfl rfl (beHalf_3  hS ) ?_
    intro  M11 hP12
    have hS11 := hP12
    refine n_goto c_120_15 ?_
    refine n_fg (le_s (le_n le_0)) ?_
    exact (quick_3_c hS hk 12)  M11 hS11  (by omega)

set_option maxHeartbeats 4000000 in
theorem count_3 {xs : List Int32} {e : Nat} {ac : Int} {M0 M : nM} {w : Int} (hS : Sf 3 ac M0 M) (hw : -2147483648 ≤ w ∧ w ≤ 2147483647) : nW xs (e + 1) 121 0 [some (2, 3), some (0, w)] [] M (nPI fun z M1 => M = M1 ∧ (-2147483648 ≤ z ∧ z ≤ 2147483647)) := by
  have hd : (3 : Int) = 2 ∨ (3 : Int) = 3 := by decide
  have hac := hS.2.2.2.2
  refine n_iload_n c_121_0 rfl ?_
  refine n_sw c_121_1 (by omega) (by decide) ?_ ?_
  · intro h1
    refine n_pc (k2 := 82) rfl ?_
    refine n_iconst c_121_82 ?_
    exact n_rI c_121_83 rfl ⟨rfl, by omega⟩
  · intro h2 h2b
    rcases (show w = 0 ∨ w = 1 ∨ w = 2 ∨ w = 3 ∨ w = 4 ∨ w = 5 by omega) with h2c | h2c | h2c | h2c | h2c | h2c
    · refine ⟨_, by rw [h2c]; rfl, by decide, ?_⟩
      refine n_pc (k2 := 40) rfl ?_
      refine n_aload_n c_121_40 rfl ?_
      refine n_getR c_121_41 sc_3.n rfl rfl rfl r_3_0 ?_
      refine n_getV (bi := 0) c_121_44 sc_4.n rfl rfl rfl (t_4_0 hS) ?_
      intro z3 ez3 f4
      obtain rfl : z3 = 3 := by omega
      exact n_rI c_121_47 rfl ⟨rfl, by omega⟩
    · refine ⟨_, by rw [h2c]; rfl, by decide, ?_⟩
      refine n_pc (k2 := 48) rfl ?_
      refine n_aload_n c_121_48 rfl ?_
      refine n_getV (bi := 14) c_121_49 sc_3.n rfl rfl rfl (t_3_14x hS) ?_
      intro z5 ez5 f6
      have f6a := t_ac hS
      exact n_rI c_121_52 rfl ⟨rfl, by omega⟩
    · refine ⟨_, by rw [h2c]; rfl, by decide, ?_⟩
      refine n_pc (k2 := 53) rfl ?_
      refine n_aload_n c_121_53 rfl ?_
      refine n_getV (bi := 15) c_121_54 sc_3.n rfl rfl rfl (t_3_15 hS) ?_
      intro z7 ez7 f8
      exact n_rI c_121_57 rfl ⟨rfl, by omega⟩
    · refine ⟨_, by rw [h2c]; rfl, by decide, ?_⟩
      refine n_pc (k2 := 58) rfl ?_
      refine n_aload_n c_121_58 rfl ?_
      refine n_getR c_121_59 sc_3.n rfl rfl rfl r_3_6 ?_
      refine n_getV (bi := 0) c_121_62 sc_32.n rfl rfl rfl (t_32_0 hS) ?_
      intro z9 ez9 f10
      exact n_rI c_121_65 rfl ⟨rfl, by omega⟩
    · refine ⟨_, by rw [h2c]; rfl, by decide, ?_⟩
      refine n_pc (k2 := 66) rfl ?_
      refine n_aload_n c_121_66 rfl ?_
      refine n_getR c_121_67 sc_3.n rfl rfl rfl r_3_6 ?_
      refine n_getV (bi := 1) c_121_70 sc_32.n rfl rfl rfl (t_32_1 hS) ?_
      intro z11 ez11 f12
      exact n_rI c_121_73 rfl ⟨rfl, by omega⟩
    · refine ⟨_, by rw [h2c]; rfl, by decide, ?_⟩
      refine n_pc (k2 := 74) rfl ?_
      refine n_aload_n c_121_74 rfl ?_
      refine n_getR c_121_75 sc_3.n rfl rfl rfl r_3_1 ?_
      refine n_v0I c_121_78 rfl sc_8.n rfl rfl rfl rfl (filled_3  hS ) ?_
      intro z13 M14 hP15
      obtain ⟨eM, f15⟩ := hP15
      subst eM
      exact n_rI c_121_81 rfl ⟨rfl, by omega⟩
