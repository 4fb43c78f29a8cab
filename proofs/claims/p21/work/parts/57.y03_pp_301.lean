/-! What the methods tell. -/
set_option maxHeartbeats 4000000 in
theorem pairingX_3 {xs : List Int32} {e : Nat} {ac : Int} {M0 M : nM} {i : Int} (hS : Sf 3 ac M0 M) (hi : -2147483648 ≤ i ∧ i ≤ 2147483647) : nW xs (e + 3) 112 0 [some (2, 3), some (0, i), none, none, none] [] M (nPI fun z M1 => M = M1 ∧ (-2147483648 ≤ z ∧ z ≤ 2147483647) ∧ (cPr3 i z M)) := by
  have hd : (3 : Int) = 2 ∨ (3 : Int) = 3 := by decide
  have hac := hS.2.2.2.2
  refine n_aload_n c_112_0 rfl (n_v0A c_112_1 rfl sc_3.n rfl rfl rfl rfl (partings_3  hS ) ?_)
  intro z1 M2 hP3
  obtain ⟨eM, f3⟩ := hP3
  subst eM
  obtain rfl : z1 = 1 := f3
  refine n_astore_n (L2 := [some (2, 3), some (0, i), some (2, 1), none, none]) c_112_4 rfl rfl (n_iconst c_112_5 (n_istore_n (L2 := [some (2, 3), some (0, i), some (2, 1), some (0, 0), none]) c_112_6 rfl rfl (n_iconst c_112_7 (n_istore (L2 := [some (2, 3), some (0, i), some (2, 1), some (0, 0), some (0, 0)]) c_112_8 rfl rfl (n_iload c_112_10 rfl (n_aload_n c_112_12 rfl (n_alen c_112_13 sc_1.n rfl ?_)))))))
  refine n_if2_ge c_112_14 (by omega) (by omega) ?_ ?_
  · intro h4
    exfalso; omega
  · intro h5
    refine n_aload_n c_112_17 rfl (n_aload_n c_112_18 rfl (n_iload c_112_19 rfl (n_ialoadV c_112_21 sc_1.n rfl rfl rfl (by omega) (t_1_0 hS) ?_)))
    intro z6 ez6 f7
    have hcst : (z6 : Int) = 0 := by omega
    rw [hcst]
    refine n_v1I c_112_22 rfl sc_3.n rfl rfl rfl rfl (aakpX0_3  hS ) ?_
    intro z8 M9 hP10
    obtain ⟨eM, f10, f10p0⟩ := hP10
    subst eM
    refine n_if0_eq c_112_25 (by omega) ?_ ?_
    · intro h11
      refine n_iinc (L2 := [some (2, 3), some (0, i), some (2, 1), some (0, 0), some (0, (0 + 1))]) c_112_41 rfl rfl rfl (n_goto c_112_44 (n_iload c_112_10 rfl (n_aload_n c_112_12 rfl (n_alen c_112_13 sc_1.n rfl ?_))))
      refine n_if2_ge c_112_14 (by omega) (by omega) ?_ ?_
      · intro h12
        exfalso; omega
      · intro h13
        refine n_aload_n c_112_17 rfl (n_aload_n c_112_18 rfl (n_iload c_112_19 rfl (n_ialoadV c_112_21 sc_1.n rfl rfl rfl (by omega) (t_1_1 hS) ?_)))
        intro z14 ez14 f15
        have hcst : (z14 : Int) = 4 := by omega
        rw [hcst]
        refine n_v1I c_112_22 rfl sc_3.n rfl rfl rfl rfl (aakpX4_3  hS ) ?_
        intro z16 M17 hP18
        obtain ⟨eM, f18, f18p0⟩ := hP18
        subst eM
        refine n_if0_eq c_112_25 (by omega) ?_ ?_
        · intro h19
          refine n_iinc (L2 := [some (2, 3), some (0, i), some (2, 1), some (0, 0), some (0, ((0 + 1) + 1))]) c_112_41 rfl rfl rfl (n_goto c_112_44 (n_iload c_112_10 rfl (n_aload_n c_112_12 rfl (n_alen c_112_13 sc_1.n rfl ?_))))
          refine n_if2_ge c_112_14 (by omega) (by omega) ?_ ?_
          · intro h20
            exfalso; omega
          · intro h21
            refine n_aload_n c_112_17 rfl (n_aload_n c_112_18 rfl (n_iload c_112_19 rfl (n_ialoadV c_112_21 sc_1.n rfl rfl rfl (by omega) (t_1_2 hS) ?_)))
            intro z22 ez22 f23
            have hcst : (z22 : Int) = 20 := by omega
            rw [hcst]
            refine n_v1I c_112_22 rfl sc_3.n rfl rfl rfl rfl (aakpX20_3  hS ) ?_
            intro z24 M25 hP26
            obtain ⟨eM, f26, f26p0⟩ := hP26
            subst eM
            refine n_if0_eq c_112_25 (by omega) ?_ ?_
            · intro h27
              refine n_iinc (L2 := [some (2, 3), some (0, i), some (2, 1), some (0, 0), some (0, (((0 + 1) + 1) + 1))]) c_112_41 rfl rfl rfl (n_goto c_112_44 (n_iload c_112_10 rfl (n_aload_n c_112_12 rfl (n_alen c_112_13 sc_1.n rfl ?_))))
              refine n_if2_ge c_112_14 (by omega) (by omega) ?_ ?_
              · intro h28
                exfalso; omega
              · intro h29
                refine n_aload_n c_112_17 rfl (n_aload_n c_112_18 rfl (n_iload c_112_19 rfl (n_ialoadV c_112_21 sc_1.n rfl rfl rfl (by omega) (t_1_3 hS) ?_)))
                intro z30 ez30 f31
                have hcst : (z30 : Int) = 32 := by omega
                rw [hcst]
                refine n_v1I c_112_22 rfl sc_3.n rfl rfl rfl rfl (aakpX32_3  hS ) ?_
                intro z32 M33 hP34
                obtain ⟨eM, f34, f34p0⟩ := hP34
                subst eM
                refine n_if0_eq c_112_25 (by omega) ?_ ?_
                · intro h35
                  refine n_iinc (L2 := [some (2, 3), some (0, i), some (2, 1), some (0, 0), some (0, ((((0 + 1) + 1) + 1) + 1))]) c_112_41 rfl rfl rfl (n_goto c_112_44 (n_iload c_112_10 rfl (n_aload_n c_112_12 rfl (n_alen c_112_13 sc_1.n rfl ?_))))
                  refine n_if2_ge c_112_14 (by omega) (by omega) ?_ ?_
                  · intro h36
                    exfalso; omega
                  · intro h37
                    refine n_aload_n c_112_17 rfl (n_aload_n c_112_18 rfl (n_iload c_112_19 rfl (n_ialoadV c_112_21 sc_1.n rfl rfl rfl (by omega) (t_1_4 hS) ?_)))
                    intro z38 ez38 f39
                    have hcst : (z38 : Int) = 36 := by omega
                    rw [hcst]
                    refine n_v1I c_112_22 rfl sc_3.n rfl rfl rfl rfl (aakpX36_3  hS ) ?_
                    intro z40 M41 hP42
                    obtain ⟨eM, f42, f42p0⟩ := hP42
                    subst eM
                    refine n_if0_eq c_112_25 (by omega) ?_ ?_
                    · intro h43
                      refine n_iinc (L2 := [some (2, 3), some (0, i), some (2, 1), some (0, 0), some (0, (((((0 + 1) + 1) + 1) + 1) + 1))]) c_112_41 rfl rfl rfl (n_goto c_112_44 (n_iload c_112_10 rfl (n_aload_n c_112_12 rfl (n_alen c_112_13 sc_1.n rfl ?_))))
                      refine n_if2_ge c_112_14 (by omega) (by omega) ?_ ?_
                      · intro h44
                        refine n_iconst c_112_47 ?_
                        exact n_rI c_112_48 rfl ⟨rfl, by omega, by first | exact cPr3_n rfl (by omega) | exact cPr3_0 (by assumption) (by omega) (by omega) | exact cPr3_4 (by assumption) (by omega) (by omega) | exact cPr3_20 (by assumption) (by omega) (by omega) | exact cPr3_32 (by assumption) (by omega) (by omega) | exact cPr3_36 (by assumption) (by omega) (by omega)⟩
                      · intro h45
                        exfalso; omega
                    · intro h46
                      refine n_iload_n c_112_28 rfl (n_iload_n c_112_29 rfl ?_)
                      refine n_if2_ne c_112_30 (by omega) (by omega) ?_ ?_
                      · intro h47
                        refine n_iinc (L2 := [some (2, 3), some (0, i), some (2, 1), some (0, (0 + 1)), some (0, ((((0 + 1) + 1) + 1) + 1))]) c_112_38 rfl rfl rfl (n_iinc (L2 := [some (2, 3), some (0, i), some (2, 1), some (0, (0 + 1)), some (0, (((((0 + 1) + 1) + 1) + 1) + 1))]) c_112_41 rfl rfl rfl (n_goto c_112_44 (n_iload c_112_10 rfl (n_aload_n c_112_12 rfl (n_alen c_112_13 sc_1.n rfl ?_)))))
                        refine n_if2_ge c_112_14 (by omega) (by omega) ?_ ?_
                        · intro h48
                          refine n_iconst c_112_47 ?_
                          exact n_rI c_112_48 rfl ⟨rfl, by omega, by first | exact cPr3_n rfl (by omega) | exact cPr3_0 (by assumption) (by omega) (by omega) | exact cPr3_4 (by assumption) (by omega) (by omega) | exact cPr3_20 (by assumption) (by omega) (by omega) | exact cPr3_32 (by assumption) (by omega) (by omega) | exact cPr3_36 (by assumption) (by omega) (by omega)⟩
                        · intro h49
                          exfalso; omega
                      · intro h50
                        refine n_aload_n c_112_33 rfl (n_iload c_112_34 rfl (n_ialoadV c_112_36 sc_1.n rfl rfl rfl (by omega) (t_1_4 hS) ?_))
                        intro z51 ez51 f52
                        exact n_rI c_112_37 rfl ⟨rfl, by omega, by first | exact cPr3_n rfl (by omega) | exact cPr3_0 (by assumption) (by omega) (by omega) | exact cPr3_4 (by assumption) (by omega) (by omega) | exact cPr3_20 (by assumption) (by omega) (by omega) | exact cPr3_32 (by assumption) (by omega) (by omega) | exact cPr3_36 (by assumption) (by omega) (by omega)⟩
                · intro h53
                  refine n_iload_n c_112_28 rfl (n_iload_n c_112_29 rfl ?_)
                  refine n_if2_ne c_112_30 (by omega) (by omega) ?_ ?_
                  · intro h54
                    refine n_iinc (L2 := [some (2, 3), some (0, i), some (2, 1), some (0, (0 + 1)), some (0, (((0 + 1) + 1) + 1))]) c_112_38 rfl rfl rfl (n_iinc (L2 := [some (2, 3), some (0, i), some (2, 1), some (0, (0 + 1)), some (0, ((((0 + 1) + 1) + 1) + 1))]) c_112_41 rfl rfl rfl (n_goto c_112_44 (n_iload c_112_10 rfl (n_aload_n c_112_12 rfl (n_alen c_112_13 sc_1.n rfl ?_)))))
                    refine n_if2_ge c_112_14 (by omega) (by omega) ?_ ?_
                    · intro h55
                      exfalso; omega
                    · intro h56
                      refine n_aload_n c_112_17 rfl (n_aload_n c_112_18 rfl (n_iload c_112_19 rfl (n_ialoadV c_112_21 sc_1.n rfl rfl rfl (by omega) (t_1_4 hS) ?_)))
                      intro z57 ez57 f58
                      have hcst : (z57 : Int) = 36 := by omega
                      rw [hcst]
                      refine n_v1I c_112_22 rfl sc_3.n rfl rfl rfl rfl (aakpX36_3  hS ) ?_
                      intro z59 M60 hP61
                      obtain ⟨eM, f61, f61p0⟩ := hP61
                      subst eM
                      refine n_if0_eq c_112_25 (by omega) ?_ ?_
                      · intro h62
                        refine n_iinc (L2 := [some (2, 3), some (0, i), some (2, 1), some (0, (0 + 1)), some (0, (((((0 + 1) + 1) + 1) + 1) + 1))]) c_112_41 rfl rfl rfl (n_goto c_112_44 (n_iload c_112_10 rfl (n_aload_n c_112_12 rfl (n_alen c_112_13 sc_1.n rfl ?_))))
                        refine n_if2_ge c_112_14 (by omega) (by omega) ?_ ?_
                        · intro h63
                          refine n_iconst c_112_47 ?_
                          exact n_rI c_112_48 rfl ⟨rfl, by omega, by first | exact cPr3_n rfl (by omega) | exact cPr3_0 (by assumption) (by omega) (by omega) | exact cPr3_4 (by assumption) (by omega) (by omega) | exact cPr3_20 (by assumption) (by omega) (by omega) | exact cPr3_32 (by assumption) (by omega) (by omega) | exact cPr3_36 (by assumption) (by omega) (by omega)⟩
                        · intro h64
                          exfalso; omega
                      · intro h65
                        refine n_iload_n c_112_28 rfl (n_iload_n c_112_29 rfl ?_)
                        refine n_if2_ne c_112_30 (by omega) (by omega) ?_ ?_
                        · intro h66
                          refine n_iinc (L2 := [some (2, 3), some (0, i), some (2, 1), some (0, ((0 + 1) + 1)), some (0, ((((0 + 1) + 1) + 1) + 1))]) c_112_38 rfl rfl rfl (n_iinc (L2 := [some (2, 3), some (0, i), some (2, 1), some (0, ((0 + 1) + 1)), some (0, (((((0 + 1) + 1) + 1) + 1) + 1))]) c_112_41 rfl rfl rfl (n_goto c_112_44 (n_iload c_112_10 rfl (n_aload_n c_112_12 rfl (n_alen c_112_13 sc_1.n rfl ?_)))))
                          refine n_if2_ge c_112_14 (by omega) (by omega) ?_ ?_
                          · intro h67
                            refine n_iconst c_112_47 ?_
                            exact n_rI c_112_48 rfl ⟨rfl, by omega, by first | exact cPr3_n rfl (by omega) | exact cPr3_0 (by assumption) (by omega) (by omega) | exact cPr3_4 (by assumption) (by omega) (by omega) | exact cPr3_20 (by assumption) (by omega) (by omega) | exact cPr3_32 (by assumption) (by omega) (by omega) | exact cPr3_36 (by assumption) (by omega) (by omega)⟩
                          · intro h68
                            exfalso; omega
                        · intro h69
                          refine n_aload_n c_112_33 rfl (n_iload c_112_34 rfl (n_ialoadV c_112_36 sc_1.n rfl rfl rfl (by omega) (t_1_4 hS) ?_))
                          intro z70 ez70 f71
                          exact n_rI c_112_37 rfl ⟨rfl, by omega, by first | exact cPr3_n rfl (by omega) | exact cPr3_0 (by assumption) (by omega) (by omega) | exact cPr3_4 (by assumption) (by omega) (by omega) | exact cPr3_20 (by assumption) (by omega) (by omega) | exact cPr3_32 (by assumption) (by omega) (by omega) | exact cPr3_36 (by assumption) (by omega) (by omega)⟩
                  · intro h72
                    refine n_aload_n c_112_33 rfl (n_iload c_112_34 rfl (n_ialoadV c_112_36 sc_1.n rfl rfl rfl (by omega) (t_1_3 hS) ?_))
                    intro z73 ez73 f74
                    exact n_rI c_112_37 rfl ⟨rfl, by omega, by first | exact cPr3_n rfl (by omega) | exact cPr3_0 (by assumption) (by omega) (by omega) | exact cPr3_4 (by assumption) (by omega) (by omega) | exact cPr3_20 (by assumption) (by omega) (by omega) | exact cPr3_32 (by assumption) (by omega) (by omega) | exact cPr3_36 (by assumption) (by omega) (by omega)⟩
            · intro h75
              refine n_iload_n c_112_28 rfl (n_iload_n c_112_29 rfl ?_)
              refine n_if2_ne c_112_30 (by omega) (by omega) ?_ ?_
              · intro h76
                refine n_iinc (L2 := [some (2, 3), some (0, i), some (2, 1), some (0, (0 + 1)), some (0, ((0 + 1) + 1))]) c_112_38 rfl rfl rfl (n_iinc (L2 := [some (2, 3), some (0, i), some (2, 1), some (0, (0 + 1)), some (0, (((0 + 1) + 1) + 1))]) c_112_41 rfl rfl rfl (n_goto c_112_44 (n_iload c_112_10 rfl (n_aload_n c_112_12 rfl (n_alen c_112_13 sc_1.n rfl ?_)))))
                refine n_if2_ge c_112_14 (by omega) (by omega) ?_ ?_
                · intro h77
                  exfalso; omega
                · intro h78
                  refine n_aload_n c_112_17 rfl (n_aload_n c_112_18 rfl (n_iload c_112_19 rfl (n_ialoadV c_112_21 sc_1.n rfl rfl rfl (by omega) (t_1_3 hS) ?_)))
                  intro z79 ez79 f80
                  have hcst : (z79 : Int) = 32 := by omega
                  rw [hcst]
                  refine n_v1I c_112_22 rfl sc_3.n rfl rfl rfl rfl (aakpX32_3  hS ) ?_
                  intro z81 M82 hP83
                  obtain ⟨eM, f83, f83p0⟩ := hP83
                  subst eM
                  refine n_if0_eq c_112_25 (by omega) ?_ ?_
                  · intro h84
                    refine n_iinc (L2 := [some (2, 3), some (0, i), some (2, 1), some (0, (0 + 1)), some (0, ((((0 + 1) + 1) + 1) + 1))]) c_112_41 rfl rfl rfl (n_goto c_112_44 (n_iload c_112_10 rfl (n_aload_n c_112_12 rfl (n_alen c_112_13 sc_1.n rfl ?_))))
                    refine n_if2_ge c_112_14 (by omega) (by omega) ?_ ?_
                    · intro h85
                      exfalso; omega
                    · intro h86
                      refine n_aload_n c_112_17 rfl (n_aload_n c_112_18 rfl (n_iload c_112_19 rfl (n_ialoadV c_112_21 sc_1.n rfl rfl rfl (by omega) (t_1_4 hS) ?_)))
                      intro z87 ez87 f88
                      have hcst : (z87 : Int) = 36 := by omega
                      rw [hcst]
                      refine n_v1I c_112_22 rfl sc_3.n rfl rfl rfl rfl (aakpX36_3  hS ) ?_
                      intro z89 M90 hP91
                      obtain ⟨eM, f91, f91p0⟩ := hP91
                      subst eM
                      refine n_if0_eq c_112_25 (by omega) ?_ ?_
                      · intro h92
                        refine n_iinc (L2 := [some (2, 3), some (0, i), some (2, 1), some (0, (0 + 1)), some (0, (((((0 + 1) + 1) + 1) + 1) + 1))]) c_112_41 rfl rfl rfl (n_goto c_112_44 (n_iload c_112_10 rfl (n_aload_n c_112_12 rfl (n_alen c_112_13 sc_1.n rfl ?_))))
                        refine n_if2_ge c_112_14 (by omega) (by omega) ?_ ?_
                        · intro h93
                          refine n_iconst c_112_47 ?_
                          exact n_rI c_112_48 rfl ⟨rfl, by omega, by first | exact cPr3_n rfl (by omega) | exact cPr3_0 (by assumption) (by omega) (by omega) | exact cPr3_4 (by assumption) (by omega) (by omega) | exact cPr3_20 (by assumption) (by omega) (by omega) | exact cPr3_32 (by assumption) (by omega) (by omega) | exact cPr3_36 (by assumption) (by omega) (by omega)⟩
                        · intro h94
                          exfalso; omega
                      · intro h95
                        refine n_iload_n c_112_28 rfl (n_iload_n c_112_29 rfl ?_)
                        refine n_if2_ne c_112_30 (by omega) (by omega) ?_ ?_
                        · intro h96
                          refine n_iinc (L2 := [some (2, 3), some (0, i), some (2, 1), some (0, ((0 + 1) + 1)), some (0, ((((0 + 1) + 1) + 1) + 1))]) c_112_38 rfl rfl rfl (n_iinc (L2 := [some (2, 3), some (0, i), some (2, 1), some (0, ((0 + 1) + 1)), some (0, (((((0 + 1) + 1) + 1) + 1) + 1))]) c_112_41 rfl rfl rfl (n_goto c_112_44 (n_iload c_112_10 rfl (n_aload_n c_112_12 rfl (n_alen c_112_13 sc_1.n rfl ?_)))))
                          refine n_if2_ge c_112_14 (by omega) (by omega) ?_ ?_
                          · intro h97
                            refine n_iconst c_112_47 ?_
                            exact n_rI c_112_48 rfl ⟨rfl, by omega, by first | exact cPr3_n rfl (by omega) | exact cPr3_0 (by assumption) (by omega) (by omega) | exact cPr3_4 (by assumption) (by omega) (by omega) | exact cPr3_20 (by assumption) (by omega) (by omega) | exact cPr3_32 (by assumption) (by omega) (by omega) | exact cPr3_36 (by assumption) (by omega) (by omega)⟩
                          · intro h98
                            exfalso; omega
                        · intro h99
                          refine n_aload_n c_112_33 rfl (n_iload c_112_34 rfl (n_ialoadV c_112_36 sc_1.n rfl rfl rfl (by omega) (t_1_4 hS) ?_))
                          intro z100 ez100 f101
                          exact n_rI c_112_37 rfl ⟨rfl, by omega, by first | exact cPr3_n rfl (by omega) | exact cPr3_0 (by assumption) (by omega) (by omega) | exact cPr3_4 (by assumption) (by omega) (by omega) | exact cPr3_20 (by assumption) (by omega) (by omega) | exact cPr3_32 (by assumption) (by omega) (by omega) | exact cPr3_36 (by assumption) (by omega) (by omega)⟩
                  · intro h102
                    refine n_iload_n c_112_28 rfl (n_iload_n c_112_29 rfl ?_)
                    refine n_if2_ne c_112_30 (by omega) (by omega) ?_ ?_
                    · intro h103
                      refine n_iinc (L2 := [some (2, 3), some (0, i), some (2, 1), some (0, ((0 + 1) + 1)), some (0, (((0 + 1) + 1) + 1))]) c_112_38 rfl rfl rfl (n_iinc (L2 := [some (2, 3), some (0, i), some (2, 1), some (0, ((0 + 1) + 1)), some (0, ((((0 + 1) + 1) + 1) + 1))]) c_112_41 rfl rfl rfl (n_goto c_112_44 (n_iload c_112_10 rfl (n_aload_n c_112_12 rfl (n_alen c_112_13 sc_1.n rfl ?_)))))
                      refine n_if2_ge c_112_14 (by omega) (by omega) ?_ ?_
                      · intro h104
                        exfalso; omega
                      · intro h105
                        refine n_aload_n c_112_17 rfl (n_aload_n c_112_18 rfl (n_iload c_112_19 rfl (n_ialoadV c_112_21 sc_1.n rfl rfl rfl (by omega) (t_1_4 hS) ?_)))
                        intro z106 ez106 f107
                        have hcst : (z106 : Int) = 36 := by omega
                        rw [hcst]
                        refine n_v1I c_112_22 rfl sc_3.n rfl rfl rfl rfl (aakpX36_3  hS ) ?_
                        intro z108 M109 hP110
                        obtain ⟨eM, f110, f110p0⟩ := hP110
                        subst eM
                        refine n_if0_eq c_112_25 (by omega) ?_ ?_
                        · intro h111
                          refine n_iinc (L2 := [some (2, 3), some (0, i), some (2, 1), some (0, ((0 + 1) + 1)), some (0, (((((0 + 1) + 1) + 1) + 1) + 1))]) c_112_41 rfl rfl rfl (n_goto c_112_44 (n_iload c_112_10 rfl (n_aload_n c_112_12 rfl (n_alen c_112_13 sc_1.n rfl ?_))))
                          refine n_if2_ge c_112_14 (by omega) (by omega) ?_ ?_
                          · intro h112
                            refine n_iconst c_112_47 ?_
                            exact n_rI c_112_48 rfl ⟨rfl, by omega, by first | exact cPr3_n rfl (by omega) | exact cPr3_0 (by assumption) (by omega) (by omega) | exact cPr3_4 (by assumption) (by omega) (by omega) | exact cPr3_20 (by assumption) (by omega) (by omega) | exact cPr3_32 (by assumption) (by omega) (by omega) | exact cPr3_36 (by assumption) (by omega) (by omega)⟩
                          · intro h113
                            exfalso; omega
                        · intro h114
                          refine n_iload_n c_112_28 rfl (n_iload_n c_112_29 rfl ?_)
                          refine n_if2_ne c_112_30 (by omega) (by omega) ?_ ?_
                          · intro h115
                            refine n_iinc (L2 := [some (2, 3), some (0, i), some (2, 1), some (0, (((0 + 1) + 1) + 1)), some (0, ((((0 + 1) + 1) + 1) + 1))]) c_112_38 rfl rfl rfl (n_iinc (L2 := [some (2, 3), some (0, i), some (2, 1), some (0, (((0 + 1) + 1) + 1)), some (0, (((((0 + 1) + 1) + 1) + 1) + 1))]) c_112_41 rfl rfl rfl (n_goto c_112_44 (n_iload c_112_10 rfl (n_aload_n c_112_12 rfl (n_alen c_112_13 sc_1.n rfl ?_)))))
                            refine n_if2_ge c_112_14 (by omega) (by omega) ?_ ?_
                            · intro h116
                              refine n_iconst c_112_47 ?_
                              exact n_rI c_112_48 rfl ⟨rfl, by omega, by first | exact cPr3_n rfl (by omega) | exact cPr3_0 (by assumption) (by omega) (by omega) | exact cPr3_4 (by assumption) (by omega) (by omega) | exact cPr3_20 (by assumption) (by omega) (by omega) | exact cPr3_32 (by assumption) (by omega) (by omega) | exact cPr3_36 (by assumption) (by omega) (by omega)⟩
                            · intro h117
                              exfalso; omega
                          · intro h118
                            refine n_aload_n c_112_33 rfl (n_iload c_112_34 rfl (n_ialoadV c_112_36 sc_1.n rfl rfl rfl (by omega) (t_1_4 hS) ?_))
                            intro z119 ez119 f120
                            exact n_rI c_112_37 rfl ⟨rfl, by omega, by first | exact cPr3_n rfl (by omega) | exact cPr3_0 (by assumption) (by omega) (by omega) | exact cPr3_4 (by assumption) (by omega) (by omega) | exact cPr3_20 (by assumption) (by omega) (by omega) | exact cPr3_32 (by assumption) (by omega) (by omega) | exact cPr3_36 (by assumption) (by omega) (by omega)⟩
                    · intro h121
                      refine n_aload_n c_112_33 rfl (n_iload c_112_34 rfl (n_ialoadV c_112_36 sc_1.n rfl rfl rfl (by omega) (t_1_3 hS) ?_))
                      intro z122 ez122 f123
                      exact n_rI c_112_37 rfl ⟨rfl, by omega, by first | exact cPr3_n rfl (by omega) | exact cPr3_0 (by assumption) (by omega) (by omega) | exact cPr3_4 (by assumption) (by omega) (by omega) | exact cPr3_20 (by assumption) (by omega) (by omega) | exact cPr3_32 (by assumption) (by omega) (by omega) | exact cPr3_36 (by assumption) (by omega) (by omega)⟩
              · intro h124
                refine n_aload_n c_112_33 rfl (n_iload c_112_34 rfl (n_ialoadV c_112_36 sc_1.n rfl rfl rfl (by omega) (t_1_2 hS) ?_))
                intro z125 ez125 f126
                exact n_rI c_112_37 rfl ⟨rfl, by omega, by first | exact cPr3_n rfl (by omega) | exact cPr3_0 (by assumption) (by omega) (by omega) | exact cPr3_4 (by assumption) (by omega) (by omega) | exact cPr3_20 (by assumption) (by omega) (by omega) | exact cPr3_32 (by assumption) (by omega) (by omega) | exact cPr3_36 (by assumption) (by omega) (by omega)⟩
        · intro h127
          refine n_iload_n c_112_28 rfl (n_iload_n c_112_29 rfl ?_)
          refine n_if2_ne c_112_30 (by omega) (by omega) ?_ ?_
          · intro h128
            refine n_iinc (L2 := [some (2, 3), some (0, i), some (2, 1), some (0, (0 + 1)), some (0, (0 + 1))]) c_112_38 rfl rfl rfl (n_iinc (L2 := [some (2, 3), some (0, i), some (2, 1), some (0, (0 + 1)), some (0, ((0 + 1) + 1))]) c_112_41 rfl rfl rfl (n_goto c_112_44 (n_iload c_112_10 rfl (n_aload_n c_112_12 rfl (n_alen c_112_13 sc_1.n rfl ?_)))))
            refine n_if2_ge c_112_14 (by omega) (by omega) ?_ ?_
            · intro h129
              exfalso; omega
            · intro h130
              refine n_aload_n c_112_17 rfl (n_aload_n c_112_18 rfl (n_iload c_112_19 rfl (n_ialoadV c_112_21 sc_1.n rfl rfl rfl (by omega) (t_1_2 hS) ?_)))
              intro z131 ez131 f132
              have hcst : (z131 : Int) = 20 := by omega
              rw [hcst]
              refine n_v1I c_112_22 rfl sc_3.n rfl rfl rfl rfl (aakpX20_3  hS ) ?_
              intro z133 M134 hP135
              obtain ⟨eM, f135, f135p0⟩ := hP135
              subst eM
              refine n_if0_eq c_112_25 (by omega) ?_ ?_
              · intro h136
                refine n_iinc (L2 := [some (2, 3), some (0, i), some (2, 1), some (0, (0 + 1)), some (0, (((0 + 1) + 1) + 1))]) c_112_41 rfl rfl rfl (n_goto c_112_44 (n_iload c_112_10 rfl (n_aload_n c_112_12 rfl (n_alen c_112_13 sc_1.n rfl ?_))))
                refine n_if2_ge c_112_14 (by omega) (by omega) ?_ ?_
                · intro h137
                  exfalso; omega
                · intro h138
                  refine n_aload_n c_112_17 rfl (n_aload_n c_112_18 rfl (n_iload c_112_19 rfl (n_ialoadV c_112_21 sc_1.n rfl rfl rfl (by omega) (t_1_3 hS) ?_)))
                  intro z139 ez139 f140
                  have hcst : (z139 : Int) = 32 := by omega
                  rw [hcst]
                  refine n_v1I c_112_22 rfl sc_3.n rfl rfl rfl rfl (aakpX32_3  hS ) ?_
                  intro z141 M142 hP143
                  obtain ⟨eM, f143, f143p0⟩ := hP143
                  subst eM
                  refine n_if0_eq c_112_25 (by omega) ?_ ?_
                  · intro h144
                    refine n_iinc (L2 := [some (2, 3), some (0, i), some (2, 1), some (0, (0 + 1)), some (0, ((((0 + 1) + 1) + 1) + 1))]) c_112_41 rfl rfl rfl (n_goto c_112_44 (n_iload c_112_10 rfl (n_aload_n c_112_12 rfl (n_alen c_112_13 sc_1.n rfl ?_))))
                    refine n_if2_ge c_112_14 (by omega) (by omega) ?_ ?_
                    · intro h145
                      exfalso; omega
                    · intro h146
                      refine n_aload_n c_112_17 rfl (n_aload_n c_112_18 rfl (n_iload c_112_19 rfl (n_ialoadV c_112_21 sc_1.n rfl rfl rfl (by omega) (t_1_4 hS) ?_)))
                      intro z147 ez147 f148
                      have hcst : (z147 : Int) = 36 := by omega
                      rw [hcst]
                      refine n_v1I c_112_22 rfl sc_3.n rfl rfl rfl rfl (aakpX36_3  hS ) ?_
                      intro z149 M150 hP151
                      obtain ⟨eM, f151, f151p0⟩ := hP151
                      subst eM
                      refine n_if0_eq c_112_25 (by omega) ?_ ?_
                      · intro h152
                        refine n_iinc (L2 := [some (2, 3), some (0, i), some (2, 1), some (0, (0 + 1)), some (0, (((((0 + 1) + 1) + 1) + 1) + 1))]) c_112_41 rfl rfl rfl (n_goto c_112_44 (n_iload c_112_10 rfl (n_aload_n c_112_12 rfl (n_alen c_112_13 sc_1.n rfl ?_))))
                        refine n_if2_ge c_112_14 (by omega) (by omega) ?_ ?_
                        · intro h153
                          refine n_iconst c_112_47 ?_
                          exact n_rI c_112_48 rfl ⟨rfl, by omega, by first | exact cPr3_n rfl (by omega) | exact cPr3_0 (by assumption) (by omega) (by omega) | exact cPr3_4 (by assumption) (by omega) (by omega) | exact cPr3_20 (by assumption) (by omega) (by omega) | exact cPr3_32 (by assumption) (by omega) (by omega) | exact cPr3_36 (by assumption) (by omega) (by omega)⟩
                        · intro h154
                          exfalso; omega
                      · intro h155
                        refine n_iload_n c_112_28 rfl (n_iload_n c_112_29 rfl ?_)
                        refine n_if2_ne c_112_30 (by omega) (by omega) ?_ ?_
                        · intro h156
                          refine n_iinc (L2 := [some (2, 3), some (0, i), some (2, 1), some (0, ((0 + 1) + 1)), some (0, ((((0 + 1) + 1) + 1) + 1))]) c_112_38 rfl rfl rfl (n_iinc (L2 := [some (2, 3), some (0, i), some (2, 1), some (0, ((0 + 1) + 1)), some (0, (((((0 + 1) + 1) + 1) + 1) + 1))]) c_112_41 rfl rfl rfl (n_goto c_112_44 (n_iload c_112_10 rfl (n_aload_n c_112_12 rfl (n_alen c_112_13 sc_1.n rfl ?_)))))
                          refine n_if2_ge c_112_14 (by omega) (by omega) ?_ ?_
                          · intro h157
                            refine n_iconst c_112_47 ?_
                            exact n_rI c_112_48 rfl ⟨rfl, by omega, by first | exact cPr3_n rfl (by omega) | exact cPr3_0 (by assumption) (by omega) (by omega) | exact cPr3_4 (by assumption) (by omega) (by omega) | exact cPr3_20 (by assumption) (by omega) (by omega) | exact cPr3_32 (by assumption) (by omega) (by omega) | exact cPr3_36 (by assumption) (by omega) (by omega)⟩
                          · intro h158
                            exfalso; omega
                        · intro h159
                          refine n_aload_n c_112_33 rfl (n_iload c_112_34 rfl (n_ialoadV c_112_36 sc_1.n rfl rfl rfl (by omega) (t_1_4 hS) ?_))
                          intro z160 ez160 f161
                          exact n_rI c_112_37 rfl ⟨rfl, by omega, by first | exact cPr3_n rfl (by omega) | exact cPr3_0 (by assumption) (by omega) (by omega) | exact cPr3_4 (by assumption) (by omega) (by omega) | exact cPr3_20 (by assumption) (by omega) (by omega) | exact cPr3_32 (by assumption) (by omega) (by omega) | exact cPr3_36 (by assumption) (by omega) (by omega)⟩
                  · intro h162
                    refine n_iload_n c_112_28 rfl (n_iload_n c_112_29 rfl ?_)
                    refine n_if2_ne c_112_30 (by omega) (by omega) ?_ ?_
                    · intro h163
                      refine n_iinc (L2 := [some (2, 3), some (0, i), some (2, 1), some (0, ((0 + 1) + 1)), some (0, (((0 + 1) + 1) + 1))]) c_112_38 rfl rfl rfl (n_iinc (L2 := [some (2, 3), some (0, i), some (2, 1), some (0, ((0 + 1) + 1)), some (0, ((((0 + 1) + 1) + 1) + 1))]) c_112_41 rfl rfl rfl (n_goto c_112_44 (n_iload c_112_10 rfl (n_aload_n c_112_12 rfl (n_alen c_112_13 sc_1.n rfl ?_)))))
                      refine n_if2_ge c_112_14 (by omega) (by omega) ?_ ?_
                      · intro h164
                        exfalso; omega
                      · intro h165
                        refine n_aload_n c_112_17 rfl (n_aload_n c_112_18 rfl (n_iload c_112_19 rfl (n_ialoadV c_112_21 sc_1.n rfl rfl rfl (by omega) (t_1_4 hS) ?_)))
                        intro z166 ez166 f167
                        have hcst : (z166 : Int) = 36 := by omega
                        rw [hcst]
                        refine n_v1I c_112_22 rfl sc_3.n rfl rfl rfl rfl (aakpX36_3  hS ) ?_
                        intro z168 M169 hP170
                        obtain ⟨eM, f170, f170p0⟩ := hP170
                        subst eM
                        refine n_if0_eq c_112_25 (by omega) ?_ ?_
                        · intro h171
                          refine n_iinc (L2 := [some (2, 3), some (0, i), some (2, 1), some (0, ((0 + 1) + 1)), some (0, (((((0 + 1) + 1) + 1) + 1) + 1))]) c_112_41 rfl rfl rfl (n_goto c_112_44 (n_iload c_112_10 rfl (n_aload_n c_112_12 rfl (n_alen c_112_13 sc_1.n rfl ?_))))
                          refine n_if2_ge c_112_14 (by omega) (by omega) ?_ ?_
                          · intro h172
                            refine n_iconst c_112_47 ?_
                            exact n_rI c_112_48 rfl ⟨rfl, by omega, by first | exact cPr3_n rfl (by omega) | exact cPr3_0 (by assumption) (by omega) (by omega) | exact cPr3_4 (by assumption) (by omega) (by omega) | exact cPr3_20 (by assumption) (by omega) (by omega) | exact cPr3_32 (by assumption) (by omega) (by omega) | exact cPr3_36 (by assumption) (by omega) (by omega)⟩
                          · intro h173
                            exfalso; omega
                        · intro h174
                          refine n_iload_n c_112_28 rfl (n_iload_n c_112_29 rfl ?_)
                          refine n_if2_ne c_112_30 (by omega) (by omega) ?_ ?_
                          · intro h175
                            refine n_iinc (L2 := [some (2, 3), some (0, i), some (2, 1), some (0, (((0 + 1) + 1) + 1)), some (0, ((((0 + 1) + 1) + 1) + 1))]) c_112_38 rfl rfl rfl (n_iinc (L2 := [some (2, 3), some (0, i), some (2, 1), some (0, (((0 + 1) + 1) + 1)), some (0, (((((0 + 1) + 1) + 1) + 1) + 1))]) c_112_41 rfl rfl rfl (n_goto c_112_44 (n_iload c_112_10 rfl (n_aload_n c_112_12 rfl (n_alen c_112_13 sc_1.n rfl ?_)))))
                            refine n_if2_ge c_112_14 (by omega) (by omega) ?_ ?_
                            · intro h176
                              refine n_iconst c_112_47 ?_
                              exact n_rI c_112_48 rfl ⟨rfl, by omega, by first | exact cPr3_n rfl (by omega) | exact cPr3_0 (by assumption) (by omega) (by omega) | exact cPr3_4 (by assumption) (by omega) (by omega) | exact cPr3_20 (by assumption) (by omega) (by omega) | exact cPr3_32 (by assumption) (by omega) (by omega) | exact cPr3_36 (by assumption) (by omega) (by omega)⟩
                            · intro h177
                              exfalso; omega
                          · intro h178
                            refine n_aload_n c_112_33 rfl (n_iload c_112_34 rfl (n_ialoadV c_112_36 sc_1.n rfl rfl rfl (by omega) (t_1_4 hS) ?_))
                            intro z179 ez179 f180
                            exact n_rI c_112_37 rfl ⟨rfl, by omega, by first | exact cPr3_n rfl (by omega) | exact cPr3_0 (by assumption) (by omega) (by omega) | exact cPr3_4 (by assumption) (by omega) (by omega) | exact cPr3_20 (by assumption) (by omega) (by omega) | exact cPr3_32 (by assumption) (by omega) (by omega) | exact cPr3_36 (by assumption) (by omega) (by omega)⟩
                    · intro h181
                      refine n_aload_n c_112_33 rfl (n_iload c_112_34 rfl (n_ialoadV c_112_36 sc_1.n rfl rfl rfl (by omega) (t_1_3 hS) ?_))
                      intro z182 ez182 f183
                      exact n_rI c_112_37 rfl ⟨rfl, by omega, by first | exact cPr3_n rfl (by omega) | exact cPr3_0 (by assumption) (by omega) (by omega) | exact cPr3_4 (by assumption) (by omega) (by omega) | exact cPr3_20 (by assumption) (by omega) (by omega) | exact cPr3_32 (by assumption) (by omega) (by omega) | exact cPr3_36 (by assumption) (by omega) (by omega)⟩
              · intro h184
                refine n_iload_n c_112_28 rfl (n_iload_n c_112_29 rfl ?_)
                refine n_if2_ne c_112_30 (by omega) (by omega) ?_ ?_
                · intro h185
                  refine n_iinc (L2 := [some (2, 3), some (0, i), some (2, 1), some (0, ((0 + 1) + 1)), some (0, ((0 + 1) + 1))]) c_112_38 rfl rfl rfl (n_iinc (L2 := [some (2, 3), some (0, i), some (2, 1), some (0, ((0 + 1) + 1)), some (0, (((0 + 1) + 1) + 1))]) c_112_41 rfl rfl rfl (n_goto c_112_44 (n_iload c_112_10 rfl (n_aload_n c_112_12 rfl (n_alen c_112_13 sc_1.n rfl ?_)))))
                  refine n_if2_ge c_112_14 (by omega) (by omega) ?_ ?_
                  · intro h186
                    exfalso; omega
                  · intro h187
                    refine n_aload_n c_112_17 rfl (n_aload_n c_112_18 rfl (n_iload c_112_19 rfl (n_ialoadV c_112_21 sc_1.n rfl rfl rfl (by omega) (t_1_3 hS) ?_)))
                    intro z188 ez188 f189
                    have hcst : (z188 : Int) = 32 := by omega
                    rw [hcst]
                    refine n_v1I c_112_22 rfl sc_3.n rfl rfl rfl rfl (aakpX32_3  hS ) ?_
                    intro z190 M191 hP192
                    obtain ⟨eM, f192, f192p0⟩ := hP192
                    subst eM
                    refine n_if0_eq c_112_25 (by omega) ?_ ?_
                    · intro h193
                      refine n_iinc (L2 := [some (2, 3), some (0, i), some (2, 1), some (0, ((0 + 1) + 1)), some (0, ((((0 + 1) + 1) + 1) + 1))]) c_112_41 rfl rfl rfl (n_goto c_112_44 (n_iload c_112_10 rfl (n_aload_n c_112_12 rfl (n_alen c_112_13 sc_1.n rfl ?_))))
                      refine n_if2_ge c_112_14 (by omega) (by omega) ?_ ?_
                      · intro h194
                        exfalso; omega
                      · intro h195
                        refine n_aload_n c_112_17 rfl (n_aload_n c_112_18 rfl (n_iload c_112_19 rfl (n_ialoadV c_112_21 sc_1.n rfl rfl rfl (by omega) (t_1_4 hS) ?_)))
                        intro z196 ez196 f197
                        have hcst : (z196 : Int) = 36 := by omega
                        rw [hcst]
                        refine n_v1I c_112_22 rfl sc_3.n rfl rfl rfl rfl (aakpX36_3  hS ) ?_
                        intro z198 M199 hP200
                        obtain ⟨eM, f200, f200p0⟩ := hP200
                        subst eM
                        refine n_if0_eq c_112_25 (by omega) ?_ ?_
                        · intro h201
                          refine n_iinc (L2 := [some (2, 3), some (0, i), some (2, 1), some (0, ((0 + 1) + 1)), some (0, (((((0 + 1) + 1) + 1) + 1) + 1))]) c_112_41 rfl rfl rfl (n_goto c_112_44 (n_iload c_112_10 rfl (n_aload_n c_112_12 rfl (n_alen c_112_13 sc_1.n rfl ?_))))
                          refine n_if2_ge c_112_14 (by omega) (by omega) ?_ ?_
                          · intro h202
                            refine n_iconst c_112_47 ?_
                            exact n_rI c_112_48 rfl ⟨rfl, by omega, by first | exact cPr3_n rfl (by omega) | exact cPr3_0 (by assumption) (by omega) (by omega) | exact cPr3_4 (by assumption) (by omega) (by omega) | exact cPr3_20 (by assumption) (by omega) (by omega) | exact cPr3_32 (by assumption) (by omega) (by omega) | exact cPr3_36 (by assumption) (by omega) (by omega)⟩
                          · intro h203
                            exfalso; omega
                        · intro h204
                          refine n_iload_n c_112_28 rfl (n_iload_n c_112_29 rfl ?_)
                          refine n_if2_ne c_112_30 (by omega) (by omega) ?_ ?_
                          · intro h205
                            refine n_iinc (L2 := [some (2, 3), some (0, i), some (2, 1), some (0, (((0 + 1) + 1) + 1)), some (0, ((((0 + 1) + 1) + 1) + 1))]) c_112_38 rfl rfl rfl (n_iinc (L2 := [some (2, 3), some (0, i), some (2, 1), some (0, (((0 + 1) + 1) + 1)), some (0, (((((0 + 1) + 1) + 1) + 1) + 1))]) c_112_41 rfl rfl rfl (n_goto c_112_44 (n_iload c_112_10 rfl (n_aload_n c_112_12 rfl (n_alen c_112_13 sc_1.n rfl ?_)))))
                            refine n_if2_ge c_112_14 (by omega) (by omega) ?_ ?_
                            · intro h206
                              refine n_iconst c_112_47 ?_
                              exact n_rI c_112_48 rfl ⟨rfl, by omega, by first | exact cPr3_n rfl (by omega) | exact cPr3_0 (by assumption) (by omega) (by omega) | exact cPr3_4 (by assumption) (by omega) (by omega) | exact cPr3_20 (by assumption) (by omega) (by omega) | exact cPr3_32 (by assumption) (by omega) (by omega) | exact cPr3_36 (by assumption) (by omega) (by omega)⟩
                            · intro h207
                              exfalso; omega
                          · intro h208
                            refine n_aload_n c_112_33 rfl (n_iload c_112_34 rfl (n_ialoadV c_112_36 sc_1.n rfl rfl rfl (by omega) (t_1_4 hS) ?_))
                            intro z209 ez209 f210
                            exact n_rI c_112_37 rfl ⟨rfl, by omega, by first | exact cPr3_n rfl (by omega) | exact cPr3_0 (by assumption) (by omega) (by omega) | exact cPr3_4 (by assumption) (by omega) (by omega) | exact cPr3_20 (by assumption) (by omega) (by omega) | exact cPr3_32 (by assumption) (by omega) (by omega) | exact cPr3_36 (by assumption) (by omega) (by omega)⟩
                    · intro h211
                      refine n_iload_n c_112_28 rfl (n_iload_n c_112_29 rfl ?_)
                      refine n_if2_ne c_112_30 (by omega) (by omega) ?_ ?_
                      · intro h212
                        refine n_iinc (L2 := [some (2, 3), some (0, i), some (2, 1), some (0, (((0 + 1) + 1) + 1)), some (0, (((0 + 1) + 1) + 1))]) c_112_38 rfl rfl rfl (n_iinc (L2 := [some (2, 3), some (0, i), some (2, 1), some (0, (((0 + 1) + 1) + 1)), some (0, ((((0 + 1) + 1) + 1) + 1))]) c_112_41 rfl rfl rfl (n_goto c_112_44 (n_iload c_112_10 rfl (n_aload_n c_112_12 rfl (n_alen c_112_13 sc_1.n rfl ?_)))))
                        refine n_if2_ge c_112_14 (by omega) (by omega) ?_ ?_
                        · intro h213
                          exfalso; omega
                        · intro h214
                          refine n_aload_n c_112_17 rfl (n_aload_n c_112_18 rfl (n_iload c_112_19 rfl (n_ialoadV c_112_21 sc_1.n rfl rfl rfl (by omega) (t_1_4 hS) ?_)))
                          intro z215 ez215 f216
                          have hcst : (z215 : Int) = 36 := by omega
                          rw [hcst]
                          refine n_v1I c_112_22 rfl sc_3.n rfl rfl rfl rfl (aakpX36_3  hS ) ?_
                          intro z217 M218 hP219
                          obtain ⟨eM, f219, f219p0⟩ := hP219
                          subst eM
                          refine n_if0_eq c_112_25 (by omega) ?_ ?_
                          · intro h220
                            refine n_iinc (L2 := [some (2, 3), some (0, i), some (2, 1), some (0, (((0 + 1) + 1) + 1)), some (0, (((((0 + 1) + 1) + 1) + 1) + 1))]) c_112_41 rfl rfl rfl (n_goto c_112_44 (n_iload c_112_10 rfl (n_aload_n c_112_12 rfl (n_alen c_112_13 sc_1.n rfl ?_))))
                            refine n_if2_ge c_112_14 (by omega) (by omega) ?_ ?_
                            · intro h221
                              refine n_iconst c_112_47 ?_
                              exact n_rI c_112_48 rfl ⟨rfl, by omega, by first | exact cPr3_n rfl (by omega) | exact cPr3_0 (by assumption) (by omega) (by omega) | exact cPr3_4 (by assumption) (by omega) (by omega) | exact cPr3_20 (by assumption) (by omega) (by omega) | exact cPr3_32 (by assumption) (by omega) (by omega) | exact cPr3_36 (by assumption) (by omega) (by omega)⟩
                            · intro h222
                              exfalso; omega
                          · intro h223
                            refine n_iload_n c_112_28 rfl (n_iload_n c_112_29 rfl ?_)
                            refine n_if2_ne c_112_30 (by omega) (by omega) ?_ ?_
                            · intro h224
                              refine n_iinc (L2 := [some (2, 3), some (0, i), some (2, 1), some (0, ((((0 + 1) + 1) + 1) + 1)), some (0, ((((0 + 1) + 1) + 1) + 1))]) c_112_38 rfl rfl rfl (n_iinc (L2 := [some (2, 3), some (0, i), some (2, 1), some (0, ((((0 + 1) + 1) + 1) + 1)), some (0, (((((0 + 1) + 1) + 1) + 1) + 1))]) c_112_41 rfl rfl rfl (n_goto c_112_44 (n_iload c_112_10 rfl (n_aload_n c_112_12 rfl (n_alen c_112_13 sc_1.n rfl ?_)))))
                              refine n_if2_ge c_112_14 (by omega) (by omega) ?_ ?_
                              · intro h225
                                refine n_iconst c_112_47 ?_
                                exact n_rI c_112_48 rfl ⟨rfl, by omega, by first | exact cPr3_n rfl (by omega) | exact cPr3_0 (by assumption) (by omega) (by omega) | exact cPr3_4 (by assumption) (by omega) (by omega) | exact cPr3_20 (by assumption) (by omega) (by omega) | exact cPr3_32 (by assumption) (by omega) (by omega) | exact cPr3_36 (by assumption) (by omega) (by omega)⟩
                              · intro h226
                                exfalso; omega
                            · intro h227
                              refine n_aload_n c_112_33 rfl (n_iload c_112_34 rfl (n_ialoadV c_112_36 sc_1.n rfl rfl rfl (by omega) (t_1_4 hS) ?_))
                              intro z228 ez228 f229
                              exact n_rI c_112_37 rfl ⟨rfl, by omega, by first | exact cPr3_n rfl (by omega) | exact cPr3_0 (by assumption) (by omega) (by omega) | exact cPr3_4 (by assumption) (by omega) (by omega) | exact cPr3_20 (by assumption) (by omega) (by omega) | exact cPr3_32 (by assumption) (by omega) (by omega) | exact cPr3_36 (by assumption) (by omega) (by omega)⟩
                      · intro h230
                        refine n_aload_n c_112_33 rfl (n_iload c_112_34 rfl (n_ialoadV c_112_36 sc_1.n rfl rfl rfl (by omega) (t_1_3 hS) ?_))
                        intro z231 ez231 f232
                        exact n_rI c_112_37 rfl ⟨rfl, by omega, by first | exact cPr3_n rfl (by omega) | exact cPr3_0 (by assumption) (by omega) (by omega) | exact cPr3_4 (by assumption) (by omega) (by omega) | exact cPr3_20 (by assumption) (by omega) (by omega) | exact cPr3_32 (by assumption) (by omega) (by omega) | exact cPr3_36 (by assumption) (by omega) (by omega)⟩
                · intro h233
                  refine n_aload_n c_112_33 rfl (n_iload c_112_34 rfl (n_ialoadV c_112_36 sc_1.n rfl rfl rfl (by omega) (t_1_2 hS) ?_))
                  intro z234 ez234 f235
                  exact n_rI c_112_37 rfl ⟨rfl, by omega, by first | exact cPr3_n rfl (by omega) | exact cPr3_0 (by assumption) (by omega) (by omega) | exact cPr3_4 (by assumption) (by omega) (by omega) | exact cPr3_20 (by assumption) (by omega) (by omega) | exact cPr3_32 (by assumption) (by omega) (by omega) | exact cPr3_36 (by assumption) (by omega) (by omega)⟩
          · intro h236
            refine n_aload_n c_112_33 rfl (n_iload c_112_34 rfl (n_ialoadV c_112_36 sc_1.n rfl rfl rfl (by omega) (t_1_1 hS) ?_))
            intro z237 ez237 f238
            exact n_rI c_112_37 rfl ⟨rfl, by omega, by first | exact cPr3_n rfl (by omega) | exact cPr3_0 (by assumption) (by omega) (by omega) | exact cPr3_4 (by assumption) (by omega) (by omega) | exact cPr3_20 (by assumption) (by omega) (by omega) | exact cPr3_32 (by assumption) (by omega) (by omega) | exact cPr3_36 (by assumption) (by omega) (by omega)⟩
    · intro h239
      refine n_iload_n c_112_28 rfl (n_iload_n c_112_29 rfl ?_)
      refine n_if2_ne c_112_30 (by omega) (by omega) ?_ ?_
      · intro h240
        refine n_iinc (L2 := [some (2, 3), some (0, i), some (2, 1), some (0, (0 + 1)), some (0, 0)]) c_112_38 rfl rfl rfl (n_iinc (L2 := [some (2, 3), some (0, i), some (2, 1), some (0, (0 + 1)), some (0, (0 + 1))]) c_112_41 rfl rfl rfl (n_goto c_112_44 (n_iload c_112_10 rfl (n_aload_n c_112_12 rfl (n_alen c_112_13 sc_1.n rfl ?_)))))
        refine n_if2_ge c_112_14 (by omega) (by omega) ?_ ?_
        · intro h241
          exfalso; omega
        · intro h242
          refine n_aload_n c_112_17 rfl (n_aload_n c_112_18 rfl (n_iload c_112_19 rfl (n_ialoadV c_112_21 sc_1.n rfl rfl rfl (by omega) (t_1_1 hS) ?_)))
          intro z243 ez243 f244
          have hcst : (z243 : Int) = 4 := by omega
          rw [hcst]
          refine n_v1I c_112_22 rfl sc_3.n rfl rfl rfl rfl (aakpX4_3  hS ) ?_
          intro z245 M246 hP247
          obtain ⟨eM, f247, f247p0⟩ := hP247
          subst eM
          refine n_if0_eq c_112_25 (by omega) ?_ ?_
          · intro h248
            refine n_iinc (L2 := [some (2, 3), some (0, i), some (2, 1), some (0, (0 + 1)), some (0, ((0 + 1) + 1))]) c_112_41 rfl rfl rfl (n_goto c_112_44 (n_iload c_112_10 rfl (n_aload_n c_112_12 rfl (n_alen c_112_13 sc_1.n rfl ?_))))
            refine n_if2_ge c_112_14 (by omega) (by omega) ?_ ?_
            · intro h249
              exfalso; omega
            · intro h250
              refine n_aload_n c_112_17 rfl (n_aload_n c_112_18 rfl (n_iload c_112_19 rfl (n_ialoadV c_112_21 sc_1.n rfl rfl rfl (by omega) (t_1_2 hS) ?_)))
              intro z251 ez251 f252
              have hcst : (z251 : Int) = 20 := by omega
              rw [hcst]
              refine n_v1I c_112_22 rfl sc_3.n rfl rfl rfl rfl (aakpX20_3  hS ) ?_
              intro z253 M254 hP255
              obtain ⟨eM, f255, f255p0⟩ := hP255
              subst eM
              refine n_if0_eq c_112_25 (by omega) ?_ ?_
              · intro h256
                refine n_iinc (L2 := [some (2, 3), some (0, i), some (2, 1), some (0, (0 + 1)), some (0, (((0 + 1) + 1) + 1))]) c_112_41 rfl rfl rfl (n_goto c_112_44 (n_iload c_112_10 rfl (n_aload_n c_112_12 rfl (n_alen c_112_13 sc_1.n rfl ?_))))
                refine n_if2_ge c_112_14 (by omega) (by omega) ?_ ?_
                · intro h257
                  exfalso; omega
                · intro h258
                  refine n_aload_n c_112_17 rfl (n_aload_n c_112_18 rfl (n_iload c_112_19 rfl (n_ialoadV c_112_21 sc_1.n rfl rfl rfl (by omega) (t_1_3 hS) ?_)))
                  intro z259 ez259 f260
                  have hcst : (z259 : Int) = 32 := by omega
                  rw [hcst]
                  refine n_v1I c_112_22 rfl sc_3.n rfl rfl rfl rfl (aakpX32_3  hS ) ?_
                  intro z261 M262 hP263
                  obtain ⟨eM, f263, f263p0⟩ := hP263
                  subst eM
                  refine n_if0_eq c_112_25 (by omega) ?_ ?_
                  · intro h264
                    refine n_iinc (L2 := [some (2, 3), some (0, i), some (2, 1), some (0, (0 + 1)), some (0, ((((0 + 1) + 1) + 1) + 1))]) c_112_41 rfl rfl rfl (n_goto c_112_44 (n_iload c_112_10 rfl (n_aload_n c_112_12 rfl (n_alen c_112_13 sc_1.n rfl ?_))))
                    refine n_if2_ge c_112_14 (by omega) (by omega) ?_ ?_
                    · intro h265
                      exfalso; omega
                    · intro h266
                      refine n_aload_n c_112_17 rfl (n_aload_n c_112_18 rfl (n_iload c_112_19 rfl (n_ialoadV c_112_21 sc_1.n rfl rfl rfl (by omega) (t_1_4 hS) ?_)))
                      intro z267 ez267 f268
                      have hcst : (z267 : Int) = 36 := by omega
                      rw [hcst]
                      refine n_v1I c_112_22 rfl sc_3.n rfl rfl rfl rfl (aakpX36_3  hS ) ?_
                      intro z269 M270 hP271
                      obtain ⟨eM, f271, f271p0⟩ := hP271
                      subst eM
                      refine n_if0_eq c_112_25 (by omega) ?_ ?_
                      · intro h272
                        refine n_iinc (L2 := [some (2, 3), some (0, i), some (2, 1), some (0, (0 + 1)), some (0, (((((0 + 1) + 1) + 1) + 1) + 1))]) c_112_41 rfl rfl rfl (n_goto c_112_44 (n_iload c_112_10 rfl (n_aload_n c_112_12 rfl (n_alen c_112_13 sc_1.n rfl ?_))))
                        refine n_if2_ge c_112_14 (by omega) (by omega) ?_ ?_
                        · intro h273
                          refine n_iconst c_112_47 ?_
                          exact n_rI c_112_48 rfl ⟨rfl, by omega, by first | exact cPr3_n rfl (by omega) | exact cPr3_0 (by assumption) (by omega) (by omega) | exact cPr3_4 (by assumption) (by omega) (by omega) | exact cPr3_20 (by assumption) (by omega) (by omega) | exact cPr3_32 (by assumption) (by omega) (by omega) | exact cPr3_36 (by assumption) (by omega) (by omega)⟩
                        · intro h274
                          exfalso; omega
                      · intro h275
                        refine n_iload_n c_112_28 rfl (n_iload_n c_112_29 rfl ?_)
                        refine n_if2_ne c_112_30 (by omega) (by omega) ?_ ?_
                        · intro h276
                          refine n_iinc (L2 := [some (2, 3), some (0, i), some (2, 1), some (0, ((0 + 1) + 1)), some (0, ((((0 + 1) + 1) + 1) + 1))]) c_112_38 rfl rfl rfl (n_iinc (L2 := [some (2, 3), some (0, i), some (2, 1), some (0, ((0 + 1) + 1)), some (0, (((((0 + 1) + 1) + 1) + 1) + 1))]) c_112_41 rfl rfl rfl (n_goto c_112_44 (n_iload c_112_10 rfl (n_aload_n c_112_12 rfl (n_alen c_112_13 sc_1.n rfl ?_)))))
                          refine n_if2_ge c_112_14 (by omega) (by omega) ?_ ?_
                          · intro h277
                            refine n_iconst c_112_47 ?_
                            exact n_rI c_112_48 rfl ⟨rfl, by omega, by first | exact cPr3_n rfl (by omega) | exact cPr3_0 (by assumption) (by omega) (by omega) | exact cPr3_4 (by assumption) (by omega) (by omega) | exact cPr3_20 (by assumption) (by omega) (by omega) | exact cPr3_32 (by assumption) (by omega) (by omega) | exact cPr3_36 (by assumption) (by omega) (by omega)⟩
                          · intro h278
                            exfalso; omega
                        · intro h279
                          refine n_aload_n c_112_33 rfl (n_iload c_112_34 rfl (n_ialoadV c_112_36 sc_1.n rfl rfl rfl (by omega) (t_1_4 hS) ?_))
                          intro z280 ez280 f281
                          exact n_rI c_112_37 rfl ⟨rfl, by omega, by first | exact cPr3_n rfl (by omega) | exact cPr3_0 (by assumption) (by omega) (by omega) | exact cPr3_4 (by assumption) (by omega) (by omega) | exact cPr3_20 (by assumption) (by omega) (by omega) | exact cPr3_32 (by assumption) (by omega) (by omega) | exact cPr3_36 (by assumption) (by omega) (by omega)⟩
                  · intro h282
                    refine n_iload_n c_112_28 rfl (n_iload_n c_112_29 rfl ?_)
                    refine n_if2_ne c_112_30 (by omega) (by omega) ?_ ?_
                    · intro h283
                      refine n_iinc (L2 := [some (2, 3), some (0, i), some (2, 1), some (0, ((0 + 1) + 1)), some (0, (((0 + 1) + 1) + 1))]) c_112_38 rfl rfl rfl (n_iinc (L2 := [some (2, 3), some (0, i), some (2, 1), some (0, ((0 + 1) + 1)), some (0, ((((0 + 1) + 1) + 1) + 1))]) c_112_41 rfl rfl rfl (n_goto c_112_44 (n_iload c_112_10 rfl (n_aload_n c_112_12 rfl (n_alen c_112_13 sc_1.n rfl ?_)))))
                      refine n_if2_ge c_112_14 (by omega) (by omega) ?_ ?_
                      · intro h284
                        exfalso; omega
                      · intro h285
                        refine n_aload_n c_112_17 rfl (n_aload_n c_112_18 rfl (n_iload c_112_19 rfl (n_ialoadV c_112_21 sc_1.n rfl rfl rfl (by omega) (t_1_4 hS) ?_)))
                        intro z286 ez286 f287
                        have hcst : (z286 : Int) = 36 := by omega
                        rw [hcst]
                        refine n_v1I c_112_22 rfl sc_3.n rfl rfl rfl rfl (aakpX36_3  hS ) ?_
                        intro z288 M289 hP290
                        obtain ⟨eM, f290, f290p0⟩ := hP290
                        subst eM
                        refine n_if0_eq c_112_25 (by omega) ?_ ?_
                        · intro h291
                          refine n_iinc (L2 := [some (2, 3), some (0, i), some (2, 1), some (0, ((0 + 1) + 1)), some (0, (((((0 + 1) + 1) + 1) + 1) + 1))]) c_112_41 rfl rfl rfl (n_goto c_112_44 (n_iload c_112_10 rfl (n_aload_n c_112_12 rfl (n_alen c_112_13 sc_1.n rfl ?_))))
                          refine n_if2_ge c_112_14 (by omega) (by omega) ?_ ?_
                          · intro h292
                            refine n_iconst c_112_47 ?_
                            exact n_rI c_112_48 rfl ⟨rfl, by omega, by first | exact cPr3_n rfl (by omega) | exact cPr3_0 (by assumption) (by omega) (by omega) | exact cPr3_4 (by assumption) (by omega) (by omega) | exact cPr3_20 (by assumption) (by omega) (by omega) | exact cPr3_32 (by assumption) (by omega) (by omega) | exact cPr3_36 (by assumption) (by omega) (by omega)⟩
                          · intro h293
                            exfalso; omega
                        · intro h294
                          refine n_iload_n c_112_28 rfl (n_iload_n c_112_29 rfl ?_)
                          refine n_if2_ne c_112_30 (by omega) (by omega) ?_ ?_
                          · intro h295
                            refine n_iinc (L2 := [some (2, 3), some (0, i), some (2, 1), some (0, (((0 + 1) + 1) + 1)), some (0, ((((0 + 1) + 1) + 1) + 1))]) c_112_38 rfl rfl rfl (n_iinc (L2 := [some (2, 3), some (0, i), some (2, 1), some (0, (((0 + 1) + 1) + 1)), some (0, (((((0 + 1) + 1) + 1) + 1) + 1))]) c_112_41 rfl rfl rfl (n_goto c_112_44 (n_iload c_112_10 rfl (n_aload_n c_112_12 rfl (n_alen c_112_13 sc_1.n rfl ?_)))))
                            refine n_if2_ge c_112_14 (by omega) (by omega) ?_ ?_
                            · intro h296
                              refine n_iconst c_112_47 ?_
                              exact n_rI c_112_48 rfl ⟨rfl, by omega, by first | exact cPr3_n rfl (by omega) | exact cPr3_0 (by assumption) (by omega) (by omega) | exact cPr3_4 (by assumption) (by omega) (by omega) | exact cPr3_20 (by assumption) (by omega) (by omega) | exact cPr3_32 (by assumption) (by omega) (by omega) | exact cPr3_36 (by assumption) (by omega) (by omega)⟩
                            · intro h297
                              exfalso; omega
                          · intro h298
                            refine n_aload_n c_112_33 rfl (n_iload c_112_34 rfl (n_ialoadV c_112_36 sc_1.n rfl rfl rfl (by omega) (t_1_4 hS) ?_))
                            intro z299 ez299 f300
                            exact n_rI c_112_37 rfl ⟨rfl, by omega, by first | exact cPr3_n rfl (by omega) | exact cPr3_0 (by assumption) (by omega) (by omega) | exact cPr3_4 (by assumption) (by omega) (by omega) | exact cPr3_20 (by assumption) (by omega) (by omega) | exact cPr3_32 (by assumption) (by omega) (by omega) | exact cPr3_36 (by assumption) (by omega) (by omega)⟩
                    · intro h301
                      refine n_aload_n c_112_33 rfl (n_iload c_112_34 rfl (n_ialoadV c_112_36 sc_1.n rfl rfl rfl (by omega) (t_1_3 hS) ?_))
                      intro z302 ez302 f303
                      exact n_rI c_112_37 rfl ⟨rfl, by omega, by first | exact cPr3_n rfl (by omega) | exact cPr3_0 (by assumption) (by omega) (by omega) | exact cPr3_4 (by assumption) (by omega) (by omega) | exact cPr3_20 (by assumption) (by omega) (by omega) | exact cPr3_32 (by assumption) (by omega) (by omega) | exact cPr3_36 (by assumption) (by omega) (by omega)⟩
              · intro h304
                refine n_iload_n c_112_28 rfl (n_iload_n c_112_29 rfl ?_)
                refine n_if2_ne c_112_30 (by omega) (by omega) ?_ ?_
                · intro h305
                  refine n_iinc (L2 := [some (2, 3), some (0, i), some (2, 1), some (0, ((0 + 1) + 1)), some (0, ((0 + 1) + 1))]) c_112_38 rfl rfl rfl (n_iinc (L2 := [some (2, 3), some (0, i), some (2, 1), some (0, ((0 + 1) + 1)), some (0, (((0 + 1) + 1) + 1))]) c_112_41 rfl rfl rfl (n_goto c_112_44 (n_iload c_112_10 rfl (n_aload_n c_112_12 rfl (n_alen c_112_13 sc_1.n rfl ?_)))))
                  refine n_if2_ge c_112_14 (by omega) (by omega) ?_ ?_
                  · intro h306
                    exfalso; omega
                  · intro h307
                    refine n_aload_n c_112_17 rfl (n_aload_n c_112_18 rfl (n_iload c_112_19 rfl (n_ialoadV c_112_21 sc_1.n rfl rfl rfl (by omega) (t_1_3 hS) ?_)))
                    intro z308 ez308 f309
                    have hcst : (z308 : Int) = 32 := by omega
                    rw [hcst]
                    refine n_v1I c_112_22 rfl sc_3.n rfl rfl rfl rfl (aakpX32_3  hS ) ?_
                    intro z310 M311 hP312
                    obtain ⟨eM, f312, f312p0⟩ := hP312
                    subst eM
                    refine n_if0_eq c_112_25 (by omega) ?_ ?_
                    · intro h313
                      refine n_iinc (L2 := [some (2, 3), some (0, i), some (2, 1), some (0, ((0 + 1) + 1)), some (0, ((((0 + 1) + 1) + 1) + 1))]) c_112_41 rfl rfl rfl (n_goto c_112_44 (n_iload c_112_10 rfl (n_aload_n c_112_12 rfl (n_alen c_112_13 sc_1.n rfl ?_))))
                      refine n_if2_ge c_112_14 (by omega) (by omega) ?_ ?_
                      · intro h314
                        exfalso; omega
                      · intro h315
                        refine n_aload_n c_112_17 rfl (n_aload_n c_112_18 rfl (n_iload c_112_19 rfl (n_ialoadV c_112_21 sc_1.n rfl rfl rfl (by omega) (t_1_4 hS) ?_)))
                        intro z316 ez316 f317
                        have hcst : (z316 : Int) = 36 := by omega
                        rw [hcst]
                        refine n_v1I c_112_22 rfl sc_3.n rfl rfl rfl rfl (aakpX36_3  hS ) ?_
                        intro z318 M319 hP320
                        obtain ⟨eM, f320, f320p0⟩ := hP320
                        subst eM
                        refine n_if0_eq c_112_25 (by omega) ?_ ?_
                        · intro h321
                          refine n_iinc (L2 := [some (2, 3), some (0, i), some (2, 1), some (0, ((0 + 1) + 1)), some (0, (((((0 + 1) + 1) + 1) + 1) + 1))]) c_112_41 rfl rfl rfl (n_goto c_112_44 (n_iload c_112_10 rfl (n_aload_n c_112_12 rfl (n_alen c_112_13 sc_1.n rfl ?_))))
                          refine n_if2_ge c_112_14 (by omega) (by omega) ?_ ?_
                          · intro h322
                            refine n_iconst c_112_47 ?_
                            exact n_rI c_112_48 rfl ⟨rfl, by omega, by first | exact cPr3_n rfl (by omega) | exact cPr3_0 (by assumption) (by omega) (by omega) | exact cPr3_4 (by assumption) (by omega) (by omega) | exact cPr3_20 (by assumption) (by omega) (by omega) | exact cPr3_32 (by assumption) (by omega) (by omega) | exact cPr3_36 (by assumption) (by omega) (by omega)⟩
                          · intro h323
                            exfalso; omega
                        · intro h324
                          refine n_iload_n c_112_28 rfl (n_iload_n c_112_29 rfl ?_)
                          refine n_if2_ne c_112_30 (by omega) (by omega) ?_ ?_
                          · intro h325
                            refine n_iinc (L2 := [some (2, 3), some (0, i), some (2, 1), some (0, (((0 + 1) + 1) + 1)), some (0, ((((0 + 1) + 1) + 1) + 1))]) c_112_38 rfl rfl rfl (n_iinc (L2 := [some (2, 3), some (0, i), some (2, 1), some (0, (((0 + 1) + 1) + 1)), some (0, (((((0 + 1) + 1) + 1) + 1) + 1))]) c_112_41 rfl rfl rfl (n_goto c_112_44 (n_iload c_112_10 rfl (n_aload_n c_112_12 rfl (n_alen c_112_13 sc_1.n rfl ?_)))))
                            refine n_if2_ge c_112_14 (by omega) (by omega) ?_ ?_
                            · intro h326
                              refine n_iconst c_112_47 ?_
                              exact n_rI c_112_48 rfl ⟨rfl, by omega, by first | exact cPr3_n rfl (by omega) | exact cPr3_0 (by assumption) (by omega) (by omega) | exact cPr3_4 (by assumption) (by omega) (by omega) | exact cPr3_20 (by assumption) (by omega) (by omega) | exact cPr3_32 (by assumption) (by omega) (by omega) | exact cPr3_36 (by assumption) (by omega) (by omega)⟩
                            · intro h327
                              exfalso; omega
                          · intro h328
                            refine n_aload_n c_112_33 rfl (n_iload c_112_34 rfl (n_ialoadV c_112_36 sc_1.n rfl rfl rfl (by omega) (t_1_4 hS) ?_))
                            intro z329 ez329 f330
                            exact n_rI c_112_37 rfl ⟨rfl, by omega, by first | exact cPr3_n rfl (by omega) | exact cPr3_0 (by assumption) (by omega) (by omega) | exact cPr3_4 (by assumption) (by omega) (by omega) | exact cPr3_20 (by assumption) (by omega) (by omega) | exact cPr3_32 (by assumption) (by omega) (by omega) | exact cPr3_36 (by assumption) (by omega) (by omega)⟩
                    · intro h331
                      refine n_iload_n c_112_28 rfl (n_iload_n c_112_29 rfl ?_)
                      refine n_if2_ne c_112_30 (by omega) (by omega) ?_ ?_
                      · intro h332
                        refine n_iinc (L2 := [some (2, 3), some (0, i), some (2, 1), some (0, (((0 + 1) + 1) + 1)), some (0, (((0 + 1) + 1) + 1))]) c_112_38 rfl rfl rfl (n_iinc (L2 := [some (2, 3), some (0, i), some (2, 1), some (0, (((0 + 1) + 1) + 1)), some (0, ((((0 + 1) + 1) + 1) + 1))]) c_112_41 rfl rfl rfl (n_goto c_112_44 (n_iload c_112_10 rfl (n_aload_n c_112_12 rfl (n_alen c_112_13 sc_1.n rfl ?_)))))
                        refine n_if2_ge c_112_14 (by omega) (by omega) ?_ ?_
                        · intro h333
                          exfalso; omega
                        · intro h334
                          refine n_aload_n c_112_17 rfl (n_aload_n c_112_18 rfl (n_iload c_112_19 rfl (n_ialoadV c_112_21 sc_1.n rfl rfl rfl (by omega) (t_1_4 hS) ?_)))
                          intro z335 ez335 f336
                          have hcst : (z335 : Int) = 36 := by omega
                          rw [hcst]
                          refine n_v1I c_112_22 rfl sc_3.n rfl rfl rfl rfl (aakpX36_3  hS ) ?_
                          intro z337 M338 hP339
                          obtain ⟨eM, f339, f339p0⟩ := hP339
                          subst eM
                          refine n_if0_eq c_112_25 (by omega) ?_ ?_
                          · intro h340
                            refine n_iinc (L2 := [some (2, 3), some (0, i), some (2, 1), some (0, (((0 + 1) + 1) + 1)), some (0, (((((0 + 1) + 1) + 1) + 1) + 1))]) c_112_41 rfl rfl rfl (n_goto c_112_44 (n_iload c_112_10 rfl (n_aload_n c_112_12 rfl (n_alen c_112_13 sc_1.n rfl ?_))))
                            refine n_if2_ge c_112_14 (by omega) (by omega) ?_ ?_
                            · intro h341
                              refine n_iconst c_112_47 ?_
                              exact n_rI c_112_48 rfl ⟨rfl, by omega, by first | exact cPr3_n rfl (by omega) | exact cPr3_0 (by assumption) (by omega) (by omega) | exact cPr3_4 (by assumption) (by omega) (by omega) | exact cPr3_20 (by assumption) (by omega) (by omega) | exact cPr3_32 (by assumption) (by omega) (by omega) | exact cPr3_36 (by assumption) (by omega) (by omega)⟩
                            · intro h342
                              exfalso; omega
                          · intro h343
                            refine n_iload_n c_112_28 rfl (n_iload_n c_112_29 rfl ?_)
                            refine n_if2_ne c_112_30 (by omega) (by omega) ?_ ?_
                            · intro h344
                              refine n_iinc (L2 := [some (2, 3), some (0, i), some (2, 1), some (0, ((((0 + 1) + 1) + 1) + 1)), some (0, ((((0 + 1) + 1) + 1) + 1))]) c_112_38 rfl rfl rfl (n_iinc (L2 := [some (2, 3), some (0, i), some (2, 1), some (0, ((((0 + 1) + 1) + 1) + 1)), some (0, (((((0 + 1) + 1) + 1) + 1) + 1))]) c_112_41 rfl rfl rfl (n_goto c_112_44 (n_iload c_112_10 rfl (n_aload_n c_112_12 rfl (n_alen c_112_13 sc_1.n rfl ?_)))))
                              refine n_if2_ge c_112_14 (by omega) (by omega) ?_ ?_
                              · intro h345
                                refine n_iconst c_112_47 ?_
                                exact n_rI c_112_48 rfl ⟨rfl, by omega, by first | exact cPr3_n rfl (by omega) | exact cPr3_0 (by assumption) (by omega) (by omega) | exact cPr3_4 (by assumption) (by omega) (by omega) | exact cPr3_20 (by assumption) (by omega) (by omega) | exact cPr3_32 (by assumption) (by omega) (by omega) | exact cPr3_36 (by assumption) (by omega) (by omega)⟩
                              · intro h346
                                exfalso; omega
                            · intro h347
                              refine n_aload_n c_112_33 rfl (n_iload c_112_34 rfl (n_ialoadV c_112_36 sc_1.n rfl rfl rfl (by omega) (t_1_4 hS) ?_))
                              intro z348 ez348 f349
                              exact n_rI c_112_37 rfl ⟨rfl, by omega, by first | exact cPr3_n rfl (by omega) | exact cPr3_0 (by assumption) (by omega) (by omega) | exact cPr3_4 (by assumption) (by omega) (by omega) | exact cPr3_20 (by assumption) (by omega) (by omega) | exact cPr3_32 (by assumption) (by omega) (by omega) | exact cPr3_36 (by assumption) (by omega) (by omega)⟩
                      · intro h350
                        refine n_aload_n c_112_33 rfl (n_iload c_112_34 rfl (n_ialoadV c_112_36 sc_1.n rfl rfl rfl (by omega) (t_1_3 hS) ?_))
                        intro z351 ez351 f352
                        exact n_rI c_112_37 rfl ⟨rfl, by omega, by first | exact cPr3_n rfl (by omega) | exact cPr3_0 (by assumption) (by omega) (by omega) | exact cPr3_4 (by assumption) (by omega) (by omega) | exact cPr3_20 (by assumption) (by omega) (by omega) | exact cPr3_32 (by assumption) (by omega) (by omega) | exact cPr3_36 (by assumption) (by omega) (by omega)⟩
                · intro h353
                  refine n_aload_n c_112_33 rfl (n_iload c_112_34 rfl (n_ialoadV c_112_36 sc_1.n rfl rfl rfl (by omega) (t_1_2 hS) ?_))
                  intro z354 ez354 f355
                  exact n_rI c_112_37 rfl ⟨rfl, by omega, by first | exact cPr3_n rfl (by omega) | exact cPr3_0 (by assumption) (by omega) (by omega) | exact cPr3_4 (by assumption) (by omega) (by omega) | exact cPr3_20 (by assumption) (by omega) (by omega) | exact cPr3_32 (by assumption) (by omega) (by omega) | exact cPr3_36 (by assumption) (by omega) (by omega)⟩
          · intro h356
            refine n_iload_n c_112_28 rfl (n_iload_n c_112_29 rfl ?_)
            refine n_if2_ne c_112_30 (by omega) (by omega) ?_ ?_
            · intro h357
              refine n_iinc (L2 := [some (2, 3), some (0, i), some (2, 1), some (0, ((0 + 1) + 1)), some (0, (0 + 1))]) c_112_38 rfl rfl rfl (n_iinc (L2 := [some (2, 3), some (0, i), some (2, 1), some (0, ((0 + 1) + 1)), some (0, ((0 + 1) + 1))]) c_112_41 rfl rfl rfl (n_goto c_112_44 (n_iload c_112_10 rfl (n_aload_n c_112_12 rfl (n_alen c_112_13 sc_1.n rfl ?_)))))
              refine n_if2_ge c_112_14 (by omega) (by omega) ?_ ?_
              · intro h358
                exfalso; omega
              · intro h359
                refine n_aload_n c_112_17 rfl (n_aload_n c_112_18 rfl (n_iload c_112_19 rfl (n_ialoadV c_112_21 sc_1.n rfl rfl rfl (by omega) (t_1_2 hS) ?_)))
                intro z360 ez360 f361
                have hcst : (z360 : Int) = 20 := by omega
                rw [hcst]
                refine n_v1I c_112_22 rfl sc_3.n rfl rfl rfl rfl (aakpX20_3  hS ) ?_
                intro z362 M363 hP364
                obtain ⟨eM, f364, f364p0⟩ := hP364
                subst eM
                refine n_if0_eq c_112_25 (by omega) ?_ ?_
                · intro h365
                  refine n_iinc (L2 := [some (2, 3), some (0, i), some (2, 1), some (0, ((0 + 1) + 1)), some (0, (((0 + 1) + 1) + 1))]) c_112_41 rfl rfl rfl (n_goto c_112_44 (n_iload c_112_10 rfl (n_aload_n c_112_12 rfl (n_alen c_112_13 sc_1.n rfl ?_))))
                  refine n_if2_ge c_112_14 (by omega) (by omega) ?_ ?_
                  · intro h366
                    exfalso; omega
                  · intro h367
                    refine n_aload_n c_112_17 rfl (n_aload_n c_112_18 rfl (n_iload c_112_19 rfl (n_ialoadV c_112_21 sc_1.n rfl rfl rfl (by omega) (t_1_3 hS) ?_)))
                    intro z368 ez368 f369
                    have hcst : (z368 : Int) = 32 := by omega
                    rw [hcst]
                    refine n_v1I c_112_22 rfl sc_3.n rfl rfl rfl rfl (aakpX32_3  hS ) ?_
                    intro z370 M371 hP372
                    obtain ⟨eM, f372, f372p0⟩ := hP372
                    subst eM
                    refine n_if0_eq c_112_25 (by omega) ?_ ?_
                    · intro h373
                      refine n_iinc (L2 := [some (2, 3), some (0, i), some (2, 1), some (0, ((0 + 1) + 1)), some (0, ((((0 + 1) + 1) + 1) + 1))]) c_112_41 rfl rfl rfl (n_goto c_112_44 (n_iload c_112_10 rfl (n_aload_n c_112_12 rfl (n_alen c_112_13 sc_1.n rfl ?_))))
                      refine n_if2_ge c_112_14 (by omega) (by omega) ?_ ?_
                      · intro h374
                        exfalso; omega
                      · intro h375
                        refine n_aload_n c_112_17 rfl (n_aload_n c_112_18 rfl (n_iload c_112_19 rfl (n_ialoadV c_112_21 sc_1.n rfl rfl rfl (by omega) (t_1_4 hS) ?_)))
                        intro z376 ez376 f377
                        have hcst : (z376 : Int) = 36 := by omega
                        rw [hcst]
                        refine n_v1I c_112_22 rfl sc_3.n rfl rfl rfl rfl (aakpX36_3  hS ) ?_
                        intro z378 M379 hP380
                        obtain ⟨eM, f380, f380p0⟩ := hP380
                        subst eM
                        refine n_if0_eq c_112_25 (by omega) ?_ ?_
                        · intro h381
                          refine n_iinc (L2 := [some (2, 3), some (0, i), some (2, 1), some (0, ((0 + 1) + 1)), some (0, (((((0 + 1) + 1) + 1) + 1) + 1))]) c_112_41 rfl rfl rfl (n_goto c_112_44 (n_iload c_112_10 rfl (n_aload_n c_112_12 rfl (n_alen c_112_13 sc_1.n rfl ?_))))
                          refine n_if2_ge c_112_14 (by omega) (by omega) ?_ ?_
                          · intro h382
                            refine n_iconst c_112_47 ?_
                            exact n_rI c_112_48 rfl ⟨rfl, by omega, by first | exact cPr3_n rfl (by omega) | exact cPr3_0 (by assumption) (by omega) (by omega) | exact cPr3_4 (by assumption) (by omega) (by omega) | exact cPr3_20 (by assumption) (by omega) (by omega) | exact cPr3_32 (by assumption) (by omega) (by omega) | exact cPr3_36 (by assumption) (by omega) (by omega)⟩
                          · intro h383
                            exfalso; omega
                        · intro h384
                          refine n_iload_n c_112_28 rfl (n_iload_n c_112_29 rfl ?_)
                          refine n_if2_ne c_112_30 (by omega) (by omega) ?_ ?_
                          · intro h385
                            refine n_iinc (L2 := [some (2, 3), some (0, i), some (2, 1), some (0, (((0 + 1) + 1) + 1)), some (0, ((((0 + 1) + 1) + 1) + 1))]) c_112_38 rfl rfl rfl (n_iinc (L2 := [some (2, 3), some (0, i), some (2, 1), some (0, (((0 + 1) + 1) + 1)), some (0, (((((0 + 1) + 1) + 1) + 1) + 1))]) c_112_41 rfl rfl rfl (n_goto c_112_44 (n_iload c_112_10 rfl (n_aload_n c_112_12 rfl (n_alen c_112_13 sc_1.n rfl ?_)))))
                            refine n_if2_ge c_112_14 (by omega) (by omega) ?_ ?_
                            · intro h386
                              refine n_iconst c_112_47 ?_
                              exact n_rI c_112_48 rfl ⟨rfl, by omega, by first | exact cPr3_n rfl (by omega) | exact cPr3_0 (by assumption) (by omega) (by omega) | exact cPr3_4 (by assumption) (by omega) (by omega) | exact cPr3_20 (by assumption) (by omega) (by omega) | exact cPr3_32 (by assumption) (by omega) (by omega) | exact cPr3_36 (by assumption) (by omega) (by omega)⟩
                            · intro h387
                              exfalso; omega
                          · intro h388
                            refine n_aload_n c_112_33 rfl (n_iload c_112_34 rfl (n_ialoadV c_112_36 sc_1.n rfl rfl rfl (by omega) (t_1_4 hS) ?_))
                            intro z389 ez389 f390
                            exact n_rI c_112_37 rfl ⟨rfl, by omega, by first | exact cPr3_n rfl (by omega) | exact cPr3_0 (by assumption) (by omega) (by omega) | exact cPr3_4 (by assumption) (by omega) (by omega) | exact cPr3_20 (by assumption) (by omega) (by omega) | exact cPr3_32 (by assumption) (by omega) (by omega) | exact cPr3_36 (by assumption) (by omega) (by omega)⟩
                    · intro h391
                      refine n_iload_n c_112_28 rfl (n_iload_n c_112_29 rfl ?_)
                      refine n_if2_ne c_112_30 (by omega) (by omega) ?_ ?_
                      · intro h392
                        refine n_iinc (L2 := [some (2, 3), some (0, i), some (2, 1), some (0, (((0 + 1) + 1) + 1)), some (0, (((0 + 1) + 1) + 1))]) c_112_38 rfl rfl rfl (n_iinc (L2 := [some (2, 3), some (0, i), some (2, 1), some (0, (((0 + 1) + 1) + 1)), some (0, ((((0 + 1) + 1) + 1) + 1))]) c_112_41 rfl rfl rfl (n_goto c_112_44 (n_iload c_112_10 rfl (n_aload_n c_112_12 rfl (n_alen c_112_13 sc_1.n rfl ?_)))))
                        refine n_if2_ge c_112_14 (by omega) (by omega) ?_ ?_
                        · intro h393
                          exfalso; omega
                        · intro h394
                          refine n_aload_n c_112_17 rfl (n_aload_n c_112_18 rfl (n_iload c_112_19 rfl (n_ialoadV c_112_21 sc_1.n rfl rfl rfl (by omega) (t_1_4 hS) ?_)))
                          intro z395 ez395 f396
                          have hcst : (z395 : Int) = 36 := by omega
                          rw [hcst]
                          refine n_v1I c_112_22 rfl sc_3.n rfl rfl rfl rfl (aakpX36_3  hS ) ?_
                          intro z397 M398 hP399
                          obtain ⟨eM, f399, f399p0⟩ := hP399
                          subst eM
                          refine n_if0_eq c_112_25 (by omega) ?_ ?_
                          · intro h400
                            refine n_iinc (L2 := [some (2, 3), some (0, i), some (2, 1), some (0, (((0 + 1) + 1) + 1)), some (0, (((((0 + 1) + 1) + 1) + 1) + 1))]) c_112_41 rfl rfl rfl (n_goto c_112_44 (n_iload c_112_10 rfl (n_aload_n c_112_12 rfl (n_alen c_112_13 sc_1.n rfl ?_))))
                            refine n_if2_ge c_112_14 (by omega) (by omega) ?_ ?_
                            · intro h401
                              refine n_iconst c_112_47 ?_
                              exact n_rI c_112_48 rfl ⟨rfl, by omega, by first | exact cPr3_n rfl (by omega) | exact cPr3_0 (by assumption) (by omega) (by omega) | exact cPr3_4 (by assumption) (by omega) (by omega) | exact cPr3_20 (by assumption) (by omega) (by omega) | exact cPr3_32 (by assumption) (by omega) (by omega) | exact cPr3_36 (by assumption) (by omega) (by omega)⟩
                            · intro h402
                              exfalso; omega
                          · intro h403
                            refine n_iload_n c_112_28 rfl (n_iload_n c_112_29 rfl ?_)
                            refine n_if2_ne c_112_30 (by omega) (by omega) ?_ ?_
                            · intro h404
                              refine n_iinc (L2 := [some (2, 3), some (0, i), some (2, 1), some (0, ((((0 + 1) + 1) + 1) + 1)), some (0, ((((0 + 1) + 1) + 1) + 1))]) c_112_38 rfl rfl rfl (n_iinc (L2 := [some (2, 3), some (0, i), some (2, 1), some (0, ((((0 + 1) + 1) + 1) + 1)), some (0, (((((0 + 1) + 1) + 1) + 1) + 1))]) c_112_41 rfl rfl rfl (n_goto c_112_44 (n_iload c_112_10 rfl (n_aload_n c_112_12 rfl (n_alen c_112_13 sc_1.n rfl ?_)))))
                              refine n_if2_ge c_112_14 (by omega) (by omega) ?_ ?_
                              · intro h405
                                refine n_iconst c_112_47 ?_
                                exact n_rI c_112_48 rfl ⟨rfl, by omega, by first | exact cPr3_n rfl (by omega) | exact cPr3_0 (by assumption) (by omega) (by omega) | exact cPr3_4 (by assumption) (by omega) (by omega) | exact cPr3_20 (by assumption) (by omega) (by omega) | exact cPr3_32 (by assumption) (by omega) (by omega) | exact cPr3_36 (by assumption) (by omega) (by omega)⟩
                              · intro h406
                                exfalso; omega
                            · intro h407
                              refine n_aload_n c_112_33 rfl (n_iload c_112_34 rfl (n_ialoadV c_112_36 sc_1.n rfl rfl rfl (by omega) (t_1_4 hS) ?_))
                              intro z408 ez408 f409
                              exact n_rI c_112_37 rfl ⟨rfl, by omega, by first | exact cPr3_n rfl (by omega) | exact cPr3_0 (by assumption) (by omega) (by omega) | exact cPr3_4 (by assumption) (by omega) (by omega) | exact cPr3_20 (by assumption) (by omega) (by omega) | exact cPr3_32 (by assumption) (by omega) (by omega) | exact cPr3_36 (by assumption) (by omega) (by omega)⟩
                      · intro h410
                        refine n_aload_n c_112_33 rfl (n_iload c_112_34 rfl (n_ialoadV c_112_36 sc_1.n rfl rfl rfl (by omega) (t_1_3 hS) ?_))
                        intro z411 ez411 f412
                        exact n_rI c_112_37 rfl ⟨rfl, by omega, by first | exact cPr3_n rfl (by omega) | exact cPr3_0 (by assumption) (by omega) (by omega) | exact cPr3_4 (by assumption) (by omega) (by omega) | exact cPr3_20 (by assumption) (by omega) (by omega) | exact cPr3_32 (by assumption) (by omega) (by omega) | exact cPr3_36 (by assumption) (by omega) (by omega)⟩
                · intro h413
                  refine n_iload_n c_112_28 rfl (n_iload_n c_112_29 rfl ?_)
                  refine n_if2_ne c_112_30 (by omega) (by omega) ?_ ?_
                  · intro h414
                    refine n_iinc (L2 := [some (2, 3), some (0, i), some (2, 1), some (0, (((0 + 1) + 1) + 1)), some (0, ((0 + 1) + 1))]) c_112_38 rfl rfl rfl (n_iinc (L2 := [some (2, 3), some (0, i), some (2, 1), some (0, (((0 + 1) + 1) + 1)), some (0, (((0 + 1) + 1) + 1))]) c_112_41 rfl rfl rfl (n_goto c_112_44 (n_iload c_112_10 rfl (n_aload_n c_112_12 rfl (n_alen c_112_13 sc_1.n rfl ?_)))))
                    refine n_if2_ge c_112_14 (by omega) (by omega) ?_ ?_
                    · intro h415
                      exfalso; omega
                    · intro h416
                      refine n_aload_n c_112_17 rfl (n_aload_n c_112_18 rfl (n_iload c_112_19 rfl (n_ialoadV c_112_21 sc_1.n rfl rfl rfl (by omega) (t_1_3 hS) ?_)))
                      intro z417 ez417 f418
                      have hcst : (z417 : Int) = 32 := by omega
                      rw [hcst]
                      refine n_v1I c_112_22 rfl sc_3.n rfl rfl rfl rfl (aakpX32_3  hS ) ?_
                      intro z419 M420 hP421
                      obtain ⟨eM, f421, f421p0⟩ := hP421
                      subst eM
                      refine n_if0_eq c_112_25 (by omega) ?_ ?_
                      · intro h422
                        refine n_iinc (L2 := [some (2, 3), some (0, i), some (2, 1), some (0, (((0 + 1) + 1) + 1)), some (0, ((((0 + 1) + 1) + 1) + 1))]) c_112_41 rfl rfl rfl (n_goto c_112_44 (n_iload c_112_10 rfl (n_aload_n c_112_12 rfl (n_alen c_112_13 sc_1.n rfl ?_))))
                        refine n_if2_ge c_112_14 (by omega) (by omega) ?_ ?_
                        · intro h423
                          exfalso; omega
                        · intro h424
                          refine n_aload_n c_112_17 rfl (n_aload_n c_112_18 rfl (n_iload c_112_19 rfl (n_ialoadV c_112_21 sc_1.n rfl rfl rfl (by omega) (t_1_4 hS) ?_)))
                          intro z425 ez425 f426
                          have hcst : (z425 : Int) = 36 := by omega
                          rw [hcst]
                          refine n_v1I c_112_22 rfl sc_3.n rfl rfl rfl rfl (aakpX36_3  hS ) ?_
                          intro z427 M428 hP429
                          obtain ⟨eM, f429, f429p0⟩ := hP429
                          subst eM
                          refine n_if0_eq c_112_25 (by omega) ?_ ?_
                          · intro h430
                            refine n_iinc (L2 := [some (2, 3), some (0, i), some (2, 1), some (0, (((0 + 1) + 1) + 1)), some (0, (((((0 + 1) + 1) + 1) + 1) + 1))]) c_112_41 rfl rfl rfl (n_goto c_112_44 (n_iload c_112_10 rfl (n_aload_n c_112_12 rfl (n_alen c_112_13 sc_1.n rfl ?_))))
                            refine n_if2_ge c_112_14 (by omega) (by omega) ?_ ?_
                            · intro h431
                              refine n_iconst c_112_47 ?_
                              exact n_rI c_112_48 rfl ⟨rfl, by omega, by first | exact cPr3_n rfl (by omega) | exact cPr3_0 (by assumption) (by omega) (by omega) | exact cPr3_4 (by assumption) (by omega) (by omega) | exact cPr3_20 (by assumption) (by omega) (by omega) | exact cPr3_32 (by assumption) (by omega) (by omega) | exact cPr3_36 (by assumption) (by omega) (by omega)⟩
                            · intro h432
                              exfalso; omega
                          · intro h433
                            refine n_iload_n c_112_28 rfl (n_iload_n c_112_29 rfl ?_)
                            refine n_if2_ne c_112_30 (by omega) (by omega) ?_ ?_
                            · intro h434
                              refine n_iinc (L2 := [some (2, 3), some (0, i), some (2, 1), some (0, ((((0 + 1) + 1) + 1) + 1)), some (0, ((((0 + 1) + 1) + 1) + 1))]) c_112_38 rfl rfl rfl (n_iinc (L2 := [some (2, 3), some (0, i), some (2, 1), some (0, ((((0 + 1) + 1) + 1) + 1)), some (0, (((((0 + 1) + 1) + 1) + 1) + 1))]) c_112_41 rfl rfl rfl (n_goto c_112_44 (n_iload c_112_10 rfl (n_aload_n c_112_12 rfl (n_alen c_112_13 sc_1.n rfl ?_)))))
                              refine n_if2_ge c_112_14 (by omega) (by omega) ?_ ?_
                              · intro h435
                                refine n_iconst c_112_47 ?_
                                exact n_rI c_112_48 rfl ⟨rfl, by omega, by first | exact cPr3_n rfl (by omega) | exact cPr3_0 (by assumption) (by omega) (by omega) | exact cPr3_4 (by assumption) (by omega) (by omega) | exact cPr3_20 (by assumption) (by omega) (by omega) | exact cPr3_32 (by assumption) (by omega) (by omega) | exact cPr3_36 (by assumption) (by omega) (by omega)⟩
                              · intro h436
                                exfalso; omega
                            · intro h437
                              refine n_aload_n c_112_33 rfl (n_iload c_112_34 rfl (n_ialoadV c_112_36 sc_1.n rfl rfl rfl (by omega) (t_1_4 hS) ?_))
                              intro z438 ez438 f439
                              exact n_rI c_112_37 rfl ⟨rfl, by omega, by first | exact cPr3_n rfl (by omega) | exact cPr3_0 (by assumption) (by omega) (by omega) | exact cPr3_4 (by assumption) (by omega) (by omega) | exact cPr3_20 (by assumption) (by omega) (by omega) | exact cPr3_32 (by assumption) (by omega) (by omega) | exact cPr3_36 (by assumption) (by omega) (by omega)⟩
                      · intro h440
                        refine n_iload_n c_112_28 rfl (n_iload_n c_112_29 rfl ?_)
                        refine n_if2_ne c_112_30 (by omega) (by omega) ?_ ?_
                        · intro h441
                          refine n_iinc (L2 := [some (2, 3), some (0, i), some (2, 1), some (0, ((((0 + 1) + 1) + 1) + 1)), some (0, (((0 + 1) + 1) + 1))]) c_112_38 rfl rfl rfl (n_iinc (L2 := [some (2, 3), some (0, i), some (2, 1), some (0, ((((0 + 1) + 1) + 1) + 1)), some (0, ((((0 + 1) + 1) + 1) + 1))]) c_112_41 rfl rfl rfl (n_goto c_112_44 (n_iload c_112_10 rfl (n_aload_n c_112_12 rfl (n_alen c_112_13 sc_1.n rfl ?_)))))
                          refine n_if2_ge c_112_14 (by omega) (by omega) ?_ ?_
                          · intro h442
                            exfalso; omega
                          · intro h443
                            refine n_aload_n c_112_17 rfl (n_aload_n c_112_18 rfl (n_iload c_112_19 rfl (n_ialoadV c_112_21 sc_1.n rfl rfl rfl (by omega) (t_1_4 hS) ?_)))
                            intro z444 ez444 f445
                            have hcst : (z444 : Int) = 36 := by omega
                            rw [hcst]
                            refine n_v1I c_112_22 rfl sc_3.n rfl rfl rfl rfl (aakpX36_3  hS ) ?_
                            intro z446 M447 hP448
                            obtain ⟨eM, f448, f448p0⟩ := hP448
                            subst eM
                            refine n_if0_eq c_112_25 (by omega) ?_ ?_
                            · intro h449
                              refine n_iinc (L2 := [some (2, 3), some (0, i), some (2, 1), some (0, ((((0 + 1) + 1) + 1) + 1)), some (0, (((((0 + 1) + 1) + 1) + 1) + 1))]) c_112_41 rfl rfl rfl (n_goto c_112_44 (n_iload c_112_10 rfl (n_aload_n c_112_12 rfl (n_alen c_112_13 sc_1.n rfl ?_))))
                              refine n_if2_ge c_112_14 (by omega) (by omega) ?_ ?_
                              · intro h450
                                refine n_iconst c_112_47 ?_
                                exact n_rI c_112_48 rfl ⟨rfl, by omega, by first | exact cPr3_n rfl (by omega) | exact cPr3_0 (by assumption) (by omega) (by omega) | exact cPr3_4 (by assumption) (by omega) (by omega) | exact cPr3_20 (by assumption) (by omega) (by omega) | exact cPr3_32 (by assumption) (by omega) (by omega) | exact cPr3_36 (by assumption) (by omega) (by omega)⟩
                              · intro h451
                                exfalso; omega
                            · intro h452
                              refine n_iload_n c_112_28 rfl (n_iload_n c_112_29 rfl ?_)
                              refine n_if2_ne c_112_30 (by omega) (by omega) ?_ ?_
                              · intro h453
                                refine n_iinc (L2 := [some (2, 3), some (0, i), some (2, 1), some (0, (((((0 + 1) + 1) + 1) + 1) + 1)), some (0, ((((0 + 1) + 1) + 1) + 1))]) c_112_38 rfl rfl rfl (n_iinc (L2 := [some (2, 3), some (0, i), some (2, 1), some (0, (((((0 + 1) + 1) + 1) + 1) + 1)), some (0, (((((0 + 1) + 1) + 1) + 1) + 1))]) c_112_41 rfl rfl rfl (n_goto c_112_44 (n_iload c_112_10 rfl (n_aload_n c_112_12 rfl (n_alen c_112_13 sc_1.n rfl ?_)))))
                                refine n_if2_ge c_112_14 (by omega) (by omega) ?_ ?_
                                · intro h454
                                  refine n_iconst c_112_47 ?_
                                  exact n_rI c_112_48 rfl ⟨rfl, by omega, by first | exact cPr3_n rfl (by omega) | exact cPr3_0 (by assumption) (by omega) (by omega) | exact cPr3_4 (by assumption) (by omega) (by omega) | exact cPr3_20 (by assumption) (by omega) (by omega) | exact cPr3_32 (by assumption) (by omega) (by omega) | exact cPr3_36 (by assumption) (by omega) (by omega)⟩
                                · intro h455
                                  exfalso; omega
                              · intro h456
                                refine n_aload_n c_112_33 rfl (n_iload c_112_34 rfl (n_ialoadV c_112_36 sc_1.n rfl rfl rfl (by omega) (t_1_4 hS) ?_))
                                intro z457 ez457 f458
                                exact n_rI c_112_37 rfl ⟨rfl, by omega, by first | exact cPr3_n rfl (by omega) | exact cPr3_0 (by assumption) (by omega) (by omega) | exact cPr3_4 (by assumption) (by omega) (by omega) | exact cPr3_20 (by assumption) (by omega) (by omega) | exact cPr3_32 (by assumption) (by omega) (by omega) | exact cPr3_36 (by assumption) (by omega) (by omega)⟩
                        · intro h459
                          refine n_aload_n c_112_33 rfl (n_iload c_112_34 rfl (n_ialoadV c_112_36 sc_1.n rfl rfl rfl (by omega) (t_1_3 hS) ?_))
                          intro z460 ez460 f461
                          exact n_rI c_112_37 rfl ⟨rfl, by omega, by first | exact cPr3_n rfl (by omega) | exact cPr3_0 (by assumption) (by omega) (by omega) | exact cPr3_4 (by assumption) (by omega) (by omega) | exact cPr3_20 (by assumption) (by omega) (by omega) | exact cPr3_32 (by assumption) (by omega) (by omega) | exact cPr3_36 (by assumption) (by omega) (by omega)⟩
                  · intro h462
                    refine n_aload_n c_112_33 rfl (n_iload c_112_34 rfl (n_ialoadV c_112_36 sc_1.n rfl rfl rfl (by omega) (t_1_2 hS) ?_))
                    intro z463 ez463 f464
                    exact n_rI c_112_37 rfl ⟨rfl, by omega, by first | exact cPr3_n rfl (by omega) | exact cPr3_0 (by assumption) (by omega) (by omega) | exact cPr3_4 (by assumption) (by omega) (by omega) | exact cPr3_20 (by assumption) (by omega) (by omega) | exact cPr3_32 (by assumption) (by omega) (by omega) | exact cPr3_36 (by assumption) (by omega) (by omega)⟩
            · intro h465
              refine n_aload_n c_112_33 rfl (n_iload c_112_34 rfl (n_ialoadV c_112_36 sc_1.n rfl rfl rfl (by omega) (t_1_1 hS) ?_))
              intro z466 ez466 f467
              exact n_rI c_112_37 rfl ⟨rfl, by omega, by first | exact cPr3_n rfl (by omega) | exact cPr3_0 (by assumption) (by omega) (by omega) | exact cPr3_4 (by assumption) (by omega) (by omega) | exact cPr3_20 (by assumption) (by omega) (by omega) | exact cPr3_32 (by assumption) (by omega) (by omega) | exact cPr3_36 (by assumption) (by omega) (by omega)⟩
      · intro h468
        refine n_aload_n c_112_33 rfl (n_iload c_112_34 rfl (n_ialoadV c_112_36 sc_1.n rfl rfl rfl (by omega) (t_1_0 hS) ?_))
        intro z469 ez469 f470
        exact n_rI c_112_37 rfl ⟨rfl, by omega, by first | exact cPr3_n rfl (by omega) | exact cPr3_0 (by assumption) (by omega) (by omega) | exact cPr3_4 (by assumption) (by omega) (by omega) | exact cPr3_20 (by assumption) (by omega) (by omega) | exact cPr3_32 (by assumption) (by omega) (by omega) | exact cPr3_36 (by assumption) (by omega) (by omega)⟩

set_option maxHeartbeats 4000000 in
theorem misPartX0_3 {xs : List Int32} {e : Nat} {ac : Int} {M0 M : nM} (hS : Sf 3 ac M0 M) (hdm : M0 112 0 = 3) : nW xs e 178 0 [some (2, 112), some (0, 0), none, none] [] M (nPI fun z M1 => M = M1 ∧ (1 ≤ z ∧ z ≤ 1)) := by
  have hd : (3 : Int) = 2 ∨ (3 : Int) = 3 := by decide
  have hac := hS.2.2.2.2
  refine n_iconst c_178_0 (n_istore_n (L2 := [some (2, 112), some (0, 0), some (0, 0), none]) c_178_1 rfl rfl (n_iload_n c_178_2 rfl (n_aload_n c_178_3 rfl (n_getV (bi := 0) c_178_4 sc_112.n rfl rfl rfl (t_dm hS hdm) ?_))))
  intro z1 ez1 f2
  obtain rfl : z1 = 3 := by omega
  refine n_if2_ge c_178_7 (by omega) (by omega) ?_ ?_
  · intro h3
    exfalso; omega
  · intro h4
    refine n_iload_n c_178_10 rfl (n_iconst c_178_11 (n_iload_n c_178_12 rfl (n_imul c_178_13 rfl (n_i_ishr (z := 0) c_178_14 (by decide) ?_))))
    refine n_iconst c_178_15 (n_i_iand (z := 0) c_178_16 (by decide) ?_)
    refine n_istore_n (L2 := [some (2, 112), some (0, 0), some (0, 0), some (0, 0)]) c_178_17 rfl rfl (n_iload_n c_178_18 rfl (n_iload_n c_178_19 rfl ?_))
    refine n_if2_gt c_178_20 (by omega) (by omega) ?_ ?_
    · intro h5
      exfalso; omega
    · intro h6
      refine n_iload_n c_178_23 rfl (n_iconst c_178_24 (n_iload_n c_178_25 rfl (n_imul c_178_26 rfl (n_i_ishr (z := 0) c_178_27 (by decide) ?_))))
      refine n_iconst c_178_28 (n_i_iand (z := 0) c_178_29 (by decide) ?_)
      refine n_iload_n c_178_30 rfl ?_
      refine n_if2_eq c_178_31 (by omega) (by omega) ?_ ?_
      · intro h7
        refine n_iinc (L2 := [some (2, 112), some (0, 0), some (0, (0 + 1)), some (0, 0)]) c_178_36 rfl rfl rfl (n_goto c_178_39 (n_iload_n c_178_2 rfl (n_aload_n c_178_3 rfl (n_getV (bi := 0) c_178_4 sc_112.n rfl rfl rfl (t_dm hS hdm) ?_))))
        intro z8 ez8 f9
        obtain rfl : z8 = 3 := by omega
        refine n_if2_ge c_178_7 (by omega) (by omega) ?_ ?_
        · intro h10
          exfalso; omega
        · intro h11
          refine n_iload_n c_178_10 rfl (n_iconst c_178_11 (n_iload_n c_178_12 rfl (n_imul c_178_13 rfl (n_i_ishr (z := 0) c_178_14 (by decide) ?_))))
          refine n_iconst c_178_15 (n_i_iand (z := 0) c_178_16 (by decide) ?_)
          refine n_istore_n (L2 := [some (2, 112), some (0, 0), some (0, (0 + 1)), some (0, 0)]) c_178_17 rfl rfl (n_iload_n c_178_18 rfl (n_iload_n c_178_19 rfl ?_))
          refine n_if2_gt c_178_20 (by omega) (by omega) ?_ ?_
          · intro h12
            exfalso; omega
          · intro h13
            refine n_iload_n c_178_23 rfl (n_iconst c_178_24 (n_iload_n c_178_25 rfl (n_imul c_178_26 rfl (n_i_ishr (z := 0) c_178_27 (by decide) ?_))))
            refine n_iconst c_178_28 (n_i_iand (z := 0) c_178_29 (by decide) ?_)
            refine n_iload_n c_178_30 rfl ?_
            refine n_if2_eq c_178_31 (by omega) (by omega) ?_ ?_
            · intro h14
              refine n_iinc (L2 := [some (2, 112), some (0, 0), some (0, ((0 + 1) + 1)), some (0, 0)]) c_178_36 rfl rfl rfl (n_goto c_178_39 (n_iload_n c_178_2 rfl (n_aload_n c_178_3 rfl (n_getV (bi := 0) c_178_4 sc_112.n rfl rfl rfl (t_dm hS hdm) ?_))))
              intro z15 ez15 f16
              obtain rfl : z15 = 3 := by omega
              refine n_if2_ge c_178_7 (by omega) (by omega) ?_ ?_
              · intro h17
                exfalso; omega
              · intro h18
                refine n_iload_n c_178_10 rfl (n_iconst c_178_11 (n_iload_n c_178_12 rfl (n_imul c_178_13 rfl (n_i_ishr (z := 0) c_178_14 (by decide) ?_))))
                refine n_iconst c_178_15 (n_i_iand (z := 0) c_178_16 (by decide) ?_)
                refine n_istore_n (L2 := [some (2, 112), some (0, 0), some (0, ((0 + 1) + 1)), some (0, 0)]) c_178_17 rfl rfl (n_iload_n c_178_18 rfl (n_iload_n c_178_19 rfl ?_))
                refine n_if2_gt c_178_20 (by omega) (by omega) ?_ ?_
                · intro h19
                  exfalso; omega
                · intro h20
                  refine n_iload_n c_178_23 rfl (n_iconst c_178_24 (n_iload_n c_178_25 rfl (n_imul c_178_26 rfl (n_i_ishr (z := 0) c_178_27 (by decide) ?_))))
                  refine n_iconst c_178_28 (n_i_iand (z := 0) c_178_29 (by decide) ?_)
                  refine n_iload_n c_178_30 rfl ?_
                  refine n_if2_eq c_178_31 (by omega) (by omega) ?_ ?_
                  · intro h21
                    refine n_iinc (L2 := [some (2, 112), some (0, 0), some (0, (((0 + 1) + 1) + 1)), some (0, 0)]) c_178_36 rfl rfl rfl (n_goto c_178_39 (n_iload_n c_178_2 rfl (n_aload_n c_178_3 rfl (n_getV (bi := 0) c_178_4 sc_112.n rfl rfl rfl (t_dm hS hdm) ?_))))
                    intro z22 ez22 f23
                    obtain rfl : z22 = 3 := by omega
                    refine n_if2_ge c_178_7 (by omega) (by omega) ?_ ?_
                    · intro h24
                      refine n_iconst c_178_42 ?_
                      exact n_rZ c_178_43 rfl (by omega) ⟨rfl, by omega⟩
                    · intro h25
                      exfalso; omega
                  · intro h26
                    exfalso; omega
            · intro h27
              exfalso; omega
      · intro h28
        exfalso; omega
