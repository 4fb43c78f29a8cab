/-! The methods, by program. -/
set_option maxHeartbeats 4000000 in
theorem mjoined9_3_c {xs : List Int32} {e : Nat} {ac : Int} {M0 M : nM} {a x y w s : Int} (hS : Sf 3 ac M0 M) (hdm : M0 112 0 = 3) (ha : 0 ≤ a ∧ a ≤ 7) (hx : 0 ≤ x ∧ x ≤ 256) (hy : 0 ≤ y ∧ y ≤ 256) (hw : 0 ≤ w ∧ w ≤ 256) (hs : 0 ≤ s ∧ s ≤ 1000000) : ∀ nn : Nat, (∀ (x8 : Int) (M : nM), Sf 3 ac M0 M → (0 ≤ x8 ∧ x8 ≤ 19682) → 2 < (nn : Int) → nW xs e 163 145 [some (2, 112), none, none, none, none, none, some (0, s), none, some (0, x8), none, none] [] M (nPV fun M1 => Sf 3 ac M0 M1)) ∧ (∀ (M : nM), Sf 3 ac M0 M → 1 < (nn : Int) → nW xs e 163 156 [none, none, none, none, none, none, none, none, none, none, none] [] M (nPV fun M1 => Sf 3 ac M0 M1)) := by
  have hd : (3 : Int) = 2 ∨ (3 : Int) = 3 := by decide
  have hac := hS.2.2.2.2
  intro nn
  induction nn with
  | zero => refine ⟨?_, ?_⟩ <;> (intros; omega)
  | succ nn ih =>
    refine ⟨?_, ?_⟩
    · intro x8 M hS k8 hnn
      refine n_aload_n c_163_145 rfl ?_
      refine n_getR c_163_146 sc_112.n rfl rfl rfl r_112_17 ?_
      refine n_iload c_163_149 rfl ?_
      refine n_iload c_163_151 rfl ?_
      refine n_iconst c_163_153 ?_
      refine n_iadd c_163_154 rfl ?_
      refine n_iastoreV hS c_163_155 sc_125.n rfl (by omega) (w_125 (by omega) (by omega)) ?_
      intro M1 eM1 hS1
      refine n_fg (le_n (le_n (le_n (le_n (le_n (le_n (le_n (le_n (le_n (le_n (le_n le_0))))))))))) ?_
      exact ih.2  M1 hS1  (by omega)
    · intro M hS hnn
      exact n_rV c_163_156 rfl hS
set_option maxHeartbeats 4000000 in
theorem mjoined9_3 {xs : List Int32} {e : Nat} {ac : Int} {M0 M : nM} {a x y w s : Int} (hS : Sf 3 ac M0 M) (hdm : M0 112 0 = 3) (ha : 0 ≤ a ∧ a ≤ 7) (hx : 0 ≤ x ∧ x ≤ 256) (hy : 0 ≤ y ∧ y ≤ 256) (hw : 0 ≤ w ∧ w ≤ 256) (hs : 0 ≤ s ∧ s ≤ 1000000) : nW xs e 163 0 [some (2, 112), some (0, a), some (0, 9), some (0, x), some (0, y), some (0, w), some (0, s), none, none, none, none] [] M (nPV fun M1 => Sf 3 ac M0 M1) := by
  have hd : (3 : Int) = 2 ∨ (3 : Int) = 3 := by decide
  have hac := hS.2.2.2.2
  refine n_aload_n c_163_0 rfl ?_
  refine n_getR c_163_1 sc_112.n rfl rfl rfl r_112_5 ?_
  refine n_iload_n c_163_4 rfl ?_
  refine n_ialoadV c_163_5 sc_116.n rfl rfl rfl (by omega) (t_116 hS (by omega)) ?_
  intro z1 ez1 f2
  refine n_istore (L2 := [some (2, 112), some (0, a), some (0, 9), some (0, x), some (0, y), some (0, w), some (0, s), some (0, z1), none, none, none]) c_163_6 rfl rfl ?_
  refine n_iconst c_163_8 ?_
  refine n_istore (L2 := [some (2, 112), some (0, a), some (0, 9), some (0, x), some (0, y), some (0, w), some (0, s), some (0, z1), some (0, 0), none, none]) c_163_9 rfl rfl ?_
  refine n_iload_n c_163_11 rfl ?_
  refine n_iconst c_163_12 ?_
  refine n_isub c_163_13 rfl ?_
  refine n_istore (L2 := [some (2, 112), some (0, a), some (0, 9), some (0, x), some (0, y), some (0, w), some (0, s), some (0, z1), some (0, 0), some (0, (9 - 1)), none]) c_163_14 rfl rfl ?_
  refine n_iload c_163_16 rfl ?_
  refine n_if0_lt c_163_18 (by omega) ?_ ?_
  · intro h3
    exfalso; omega
  · intro h4
    refine n_aload_n c_163_21 rfl ?_
    refine n_getR c_163_22 sc_112.n rfl rfl rfl r_112_18 ?_
    refine n_bipush c_163_25 rfl ?_
    refine n_iload_n c_163_27 rfl ?_
    refine n_imul c_163_28 rfl ?_
    refine n_iload c_163_29 rfl ?_
    refine n_iadd c_163_31 rfl ?_
    refine n_ialoadV c_163_32 sc_126.n rfl rfl rfl (by omega) (t_126 hS (by omega)) ?_
    intro z5 ez5 f6
    refine n_istore (L2 := [some (2, 112), some (0, a), some (0, 9), some (0, x), some (0, y), some (0, w), some (0, s), some (0, z1), some (0, 0), some (0, (9 - 1)), some (0, z5)]) c_163_33 rfl rfl ?_
    refine n_iload c_163_35 rfl ?_
    refine n_iconst c_163_37 ?_
    refine n_if2_le c_163_38 (by omega) (by omega) ?_ ?_
    · intro h7
      refine n_iload c_163_64 rfl ?_
      refine n_iconst c_163_66 ?_
      refine n_if2_le c_163_67 (by omega) (by omega) ?_ ?_
      · intro h8
        refine n_iload c_163_93 rfl ?_
        refine n_aload_n c_163_95 rfl ?_
        refine n_getV (bi := 0) c_163_96 sc_112.n rfl rfl rfl (t_dm hS hdm) ?_
        intro z9 ez9 f10
        obtain rfl : z9 = 3 := by omega
        refine n_imul c_163_99 rfl ?_
        refine n_aload_n c_163_100 rfl ?_
        refine n_getR c_163_101 sc_112.n rfl rfl rfl r_112_6 ?_
        refine n_bipush c_163_104 rfl ?_
        refine n_iload_n c_163_106 rfl ?_
        refine n_imul c_163_107 rfl ?_
        refine n_iload c_163_108 rfl ?_
        refine n_iadd c_163_110 rfl ?_
        refine n_ialoadV c_163_111 sc_117.n rfl rfl rfl (by omega) (t_117 hS (by omega)) ?_
        intro z11 ez11 f12
        refine n_iadd c_163_112 rfl ?_
        refine n_istore (L2 := [some (2, 112), some (0, a), some (0, 9), some (0, x), some (0, y), some (0, w), some (0, s), some (0, z1), some (0, ((0 * 3) + z11)), some (0, (9 - 1)), some (0, z5)]) c_163_113 rfl rfl ?_
        refine n_iinc (L2 := [some (2, 112), some (0, a), some (0, 9), some (0, x), some (0, y), some (0, w), some (0, s), some (0, z1), some (0, ((0 * 3) + z11)), some (0, ((9 - 1) + (-1))), some (0, z5)]) c_163_115 rfl rfl rfl ?_
        refine n_goto c_163_118 ?_
        refine n_iload c_163_16 rfl ?_
        refine n_if0_lt c_163_18 (by omega) ?_ ?_
        · intro h13
          exfalso; omega
        · intro h14
          refine n_aload_n c_163_21 rfl ?_
          refine n_getR c_163_22 sc_112.n rfl rfl rfl r_112_18 ?_
          refine n_bipush c_163_25 rfl ?_
          refine n_iload_n c_163_27 rfl ?_
          refine n_imul c_163_28 rfl ?_
          refine n_iload c_163_29 rfl ?_
          refine n_iadd c_163_31 rfl ?_
          refine n_ialoadV c_163_32 sc_126.n rfl rfl rfl (by omega) (t_126 hS (by omega)) ?_
          intro z15 ez15 f16
          refine n_istore (L2 := [some (2, 112), some (0, a), some (0, 9), some (0, x), some (0, y), some (0, w), some (0, s), some (0, z1), some (0, ((0 * 3) + z11)), some (0, ((9 - 1) + (-1))), some (0, z15)]) c_163_33 rfl rfl ?_
          refine n_iload c_163_35 rfl ?_
          refine n_iconst c_163_37 ?_
          refine n_if2_le c_163_38 (by omega) (by omega) ?_ ?_
          · intro h17
            refine n_iload c_163_64 rfl ?_
            refine n_iconst c_163_66 ?_
            refine n_if2_le c_163_67 (by omega) (by omega) ?_ ?_
            · intro h18
              refine n_iload c_163_93 rfl ?_
              refine n_aload_n c_163_95 rfl ?_
              refine n_getV (bi := 0) c_163_96 sc_112.n rfl rfl rfl (t_dm hS hdm) ?_
              intro z19 ez19 f20
              obtain rfl : z19 = 3 := by omega
              refine n_imul c_163_99 rfl ?_
              refine n_aload_n c_163_100 rfl ?_
              refine n_getR c_163_101 sc_112.n rfl rfl rfl r_112_6 ?_
              refine n_bipush c_163_104 rfl ?_
              refine n_iload_n c_163_106 rfl ?_
              refine n_imul c_163_107 rfl ?_
              refine n_iload c_163_108 rfl ?_
              refine n_iadd c_163_110 rfl ?_
              refine n_ialoadV c_163_111 sc_117.n rfl rfl rfl (by omega) (t_117 hS (by omega)) ?_
              intro z21 ez21 f22
              refine n_iadd c_163_112 rfl ?_
              refine n_istore (L2 := [some (2, 112), some (0, a), some (0, 9), some (0, x), some (0, y), some (0, w), some (0, s), some (0, z1), some (0, ((((0 * 3) + z11) * 3) + z21)), some (0, ((9 - 1) + (-1))), some (0, z15)]) c_163_113 rfl rfl ?_
              refine n_iinc (L2 := [some (2, 112), some (0, a), some (0, 9), some (0, x), some (0, y), some (0, w), some (0, s), some (0, z1), some (0, ((((0 * 3) + z11) * 3) + z21)), some (0, (((9 - 1) + (-1)) + (-1))), some (0, z15)]) c_163_115 rfl rfl rfl ?_
              refine n_goto c_163_118 ?_
              refine n_iload c_163_16 rfl ?_
              refine n_if0_lt c_163_18 (by omega) ?_ ?_
              · intro h23
                exfalso; omega
              · intro h24
                refine n_aload_n c_163_21 rfl ?_
                refine n_getR c_163_22 sc_112.n rfl rfl rfl r_112_18 ?_
                refine n_bipush c_163_25 rfl ?_
                refine n_iload_n c_163_27 rfl ?_
                refine n_imul c_163_28 rfl ?_
                refine n_iload c_163_29 rfl ?_
                refine n_iadd c_163_31 rfl ?_
                refine n_ialoadV c_163_32 sc_126.n rfl rfl rfl (by omega) (t_126 hS (by omega)) ?_
                intro z25 ez25 f26
                refine n_istore (L2 := [some (2, 112), some (0, a), some (0, 9), some (0, x), some (0, y), some (0, w), some (0, s), some (0, z1), some (0, ((((0 * 3) + z11) * 3) + z21)), some (0, (((9 - 1) + (-1)) + (-1))), some (0, z25)]) c_163_33 rfl rfl ?_
                refine n_iload c_163_35 rfl ?_
                refine n_iconst c_163_37 ?_
                refine n_if2_le c_163_38 (by omega) (by omega) ?_ ?_
                · intro h27
                  refine n_iload c_163_64 rfl ?_
                  refine n_iconst c_163_66 ?_
                  refine n_if2_le c_163_67 (by omega) (by omega) ?_ ?_
                  · intro h28
                    refine n_iload c_163_93 rfl ?_
                    refine n_aload_n c_163_95 rfl ?_
                    refine n_getV (bi := 0) c_163_96 sc_112.n rfl rfl rfl (t_dm hS hdm) ?_
                    intro z29 ez29 f30
                    obtain rfl : z29 = 3 := by omega
                    refine n_imul c_163_99 rfl ?_
                    refine n_aload_n c_163_100 rfl ?_
                    refine n_getR c_163_101 sc_112.n rfl rfl rfl r_112_6 ?_
                    refine n_bipush c_163_104 rfl ?_
                    refine n_iload_n c_163_106 rfl ?_
                    refine n_imul c_163_107 rfl ?_
                    refine n_iload c_163_108 rfl ?_
                    refine n_iadd c_163_110 rfl ?_
                    refine n_ialoadV c_163_111 sc_117.n rfl rfl rfl (by omega) (t_117 hS (by omega)) ?_
                    intro z31 ez31 f32
                    refine n_iadd c_163_112 rfl ?_
                    refine n_istore (L2 := [some (2, 112), some (0, a), some (0, 9), some (0, x), some (0, y), some (0, w), some (0, s), some (0, z1), some (0, ((((((0 * 3) + z11) * 3) + z21) * 3) + z31)), some (0, (((9 - 1) + (-1)) + (-1))), some (0, z25)]) c_163_113 rfl rfl ?_
                    refine n_iinc (L2 := [some (2, 112), some (0, a), some (0, 9), some (0, x), some (0, y), some (0, w), some (0, s), some (0, z1), some (0, ((((((0 * 3) + z11) * 3) + z21) * 3) + z31)), some (0, ((((9 - 1) + (-1)) + (-1)) + (-1))), some (0, z25)]) c_163_115 rfl rfl rfl ?_
                    refine n_goto c_163_118 ?_
                    refine n_iload c_163_16 rfl ?_
                    refine n_if0_lt c_163_18 (by omega) ?_ ?_
                    · intro h33
                      exfalso; omega
                    · intro h34
                      refine n_aload_n c_163_21 rfl ?_
                      refine n_getR c_163_22 sc_112.n rfl rfl rfl r_112_18 ?_
                      refine n_bipush c_163_25 rfl ?_
                      refine n_iload_n c_163_27 rfl ?_
                      refine n_imul c_163_28 rfl ?_
                      refine n_iload c_163_29 rfl ?_
                      refine n_iadd c_163_31 rfl ?_
                      refine n_ialoadV c_163_32 sc_126.n rfl rfl rfl (by omega) (t_126 hS (by omega)) ?_
                      intro z35 ez35 f36
                      refine n_istore (L2 := [some (2, 112), some (0, a), some (0, 9), some (0, x), some (0, y), some (0, w), some (0, s), some (0, z1), some (0, ((((((0 * 3) + z11) * 3) + z21) * 3) + z31)), some (0, ((((9 - 1) + (-1)) + (-1)) + (-1))), some (0, z35)]) c_163_33 rfl rfl ?_
                      refine n_iload c_163_35 rfl ?_
                      refine n_iconst c_163_37 ?_
                      refine n_if2_le c_163_38 (by omega) (by omega) ?_ ?_
                      · intro h37
                        refine n_iload c_163_64 rfl ?_
                        refine n_iconst c_163_66 ?_
                        refine n_if2_le c_163_67 (by omega) (by omega) ?_ ?_
                        · intro h38
                          refine n_iload c_163_93 rfl ?_
                          refine n_aload_n c_163_95 rfl ?_
                          refine n_getV (bi := 0) c_163_96 sc_112.n rfl rfl rfl (t_dm hS hdm) ?_
                          intro z39 ez39 f40
                          obtain rfl : z39 = 3 := by omega
                          refine n_imul c_163_99 rfl ?_
                          refine n_aload_n c_163_100 rfl ?_
                          refine n_getR c_163_101 sc_112.n rfl rfl rfl r_112_6 ?_
                          refine n_bipush c_163_104 rfl ?_
                          refine n_iload_n c_163_106 rfl ?_
                          refine n_imul c_163_107 rfl ?_
                          refine n_iload c_163_108 rfl ?_
                          refine n_iadd c_163_110 rfl ?_
                          refine n_ialoadV c_163_111 sc_117.n rfl rfl rfl (by omega) (t_117 hS (by omega)) ?_
                          intro z41 ez41 f42
                          refine n_iadd c_163_112 rfl ?_
                          refine n_istore (L2 := [some (2, 112), some (0, a), some (0, 9), some (0, x), some (0, y), some (0, w), some (0, s), some (0, z1), some (0, ((((((((0 * 3) + z11) * 3) + z21) * 3) + z31) * 3) + z41)), some (0, ((((9 - 1) + (-1)) + (-1)) + (-1))), some (0, z35)]) c_163_113 rfl rfl ?_
                          refine n_iinc (L2 := [some (2, 112), some (0, a), some (0, 9), some (0, x), some (0, y), some (0, w), some (0, s), some (0, z1), some (0, ((((((((0 * 3) + z11) * 3) + z21) * 3) + z31) * 3) + z41)), some (0, (((((9 - 1) + (-1)) + (-1)) + (-1)) + (-1))), some (0, z35)]) c_163_115 rfl rfl rfl ?_
                          refine n_goto c_163_118 ?_
                          refine n_iload c_163_16 rfl ?_
                          refine n_if0_lt c_163_18 (by omega) ?_ ?_
                          · intro h43
                            exfalso; omega
                          · intro h44
                            refine n_aload_n c_163_21 rfl ?_
                            refine n_getR c_163_22 sc_112.n rfl rfl rfl r_112_18 ?_
                            refine n_bipush c_163_25 rfl ?_
                            refine n_iload_n c_163_27 rfl ?_
                            refine n_imul c_163_28 rfl ?_
                            refine n_iload c_163_29 rfl ?_
                            refine n_iadd c_163_31 rfl ?_
                            refine n_ialoadV c_163_32 sc_126.n rfl rfl rfl (by omega) (t_126 hS (by omega)) ?_
                            intro z45 ez45 f46
                            refine n_istore (L2 := [some (2, 112), some (0, a), some (0, 9), some (0, x), some (0, y), some (0, w), some (0, s), some (0, z1), some (0, ((((((((0 * 3) + z11) * 3) + z21) * 3) + z31) * 3) + z41)), some (0, (((((9 - 1) + (-1)) + (-1)) + (-1)) + (-1))), some (0, z45)]) c_163_33 rfl rfl ?_
                            refine n_iload c_163_35 rfl ?_
                            refine n_iconst c_163_37 ?_
                            refine n_if2_le c_163_38 (by omega) (by omega) ?_ ?_
                            · intro h47
                              refine n_iload c_163_64 rfl ?_
                              refine n_iconst c_163_66 ?_
                              refine n_if2_le c_163_67 (by omega) (by omega) ?_ ?_
                              · intro h48
                                refine n_iload c_163_93 rfl ?_
                                refine n_aload_n c_163_95 rfl ?_
                                refine n_getV (bi := 0) c_163_96 sc_112.n rfl rfl rfl (t_dm hS hdm) ?_
                                intro z49 ez49 f50
                                obtain rfl : z49 = 3 := by omega
                                refine n_imul c_163_99 rfl ?_
                                refine n_aload_n c_163_100 rfl ?_
                                refine n_getR c_163_101 sc_112.n rfl rfl rfl r_112_6 ?_
                                refine n_bipush c_163_104 rfl ?_
                                refine n_iload_n c_163_106 rfl ?_
                                refine n_imul c_163_107 rfl ?_
                                refine n_iload c_163_108 rfl ?_
                                refine n_iadd c_163_110 rfl ?_
                                refine n_ialoadV c_163_111 sc_117.n rfl rfl rfl (by omega) (t_117 hS (by omega)) ?_
                                intro z51 ez51 f52
                                refine n_iadd c_163_112 rfl ?_
                                refine n_istore (L2 := [some (2, 112), some (0, a), some (0, 9), some (0, x), some (0, y), some (0, w), some (0, s), some (0, z1), some (0, ((((((((((0 * 3) + z11) * 3) + z21) * 3) + z31) * 3) + z41) * 3) + z51)), some (0, (((((9 - 1) + (-1)) + (-1)) + (-1)) + (-1))), some (0, z45)]) c_163_113 rfl rfl ?_
                                refine n_iinc (L2 := [some (2, 112), some (0, a), some (0, 9), some (0, x), some (0, y), some (0, w), some (0, s), some (0, z1), some (0, ((((((((((0 * 3) + z11) * 3) + z21) * 3) + z31) * 3) + z41) * 3) + z51)), some (0, ((((((9 - 1) + (-1)) + (-1)) + (-1)) + (-1)) + (-1))), some (0, z45)]) c_163_115 rfl rfl rfl ?_
                                refine n_goto c_163_118 ?_
                                refine n_iload c_163_16 rfl ?_
                                refine n_if0_lt c_163_18 (by omega) ?_ ?_
                                · intro h53
                                  exfalso; omega
                                · intro h54
                                  refine n_aload_n c_163_21 rfl ?_
                                  refine n_getR c_163_22 sc_112.n rfl rfl rfl r_112_18 ?_
                                  refine n_bipush c_163_25 rfl ?_
                                  refine n_iload_n c_163_27 rfl ?_
                                  refine n_imul c_163_28 rfl ?_
                                  refine n_iload c_163_29 rfl ?_
                                  refine n_iadd c_163_31 rfl ?_
                                  refine n_ialoadV c_163_32 sc_126.n rfl rfl rfl (by omega) (t_126 hS (by omega)) ?_
                                  intro z55 ez55 f56
                                  refine n_istore (L2 := [some (2, 112), some (0, a), some (0, 9), some (0, x), some (0, y), some (0, w), some (0, s), some (0, z1), some (0, ((((((((((0 * 3) + z11) * 3) + z21) * 3) + z31) * 3) + z41) * 3) + z51)), some (0, ((((((9 - 1) + (-1)) + (-1)) + (-1)) + (-1)) + (-1))), some (0, z55)]) c_163_33 rfl rfl ?_
                                  refine n_iload c_163_35 rfl ?_
                                  refine n_iconst c_163_37 ?_
                                  refine n_if2_le c_163_38 (by omega) (by omega) ?_ ?_
                                  · intro h57
                                    refine n_iload c_163_64 rfl ?_
                                    refine n_iconst c_163_66 ?_
                                    refine n_if2_le c_163_67 (by omega) (by omega) ?_ ?_
                                    · intro h58
                                      refine n_iload c_163_93 rfl ?_
                                      refine n_aload_n c_163_95 rfl ?_
                                      refine n_getV (bi := 0) c_163_96 sc_112.n rfl rfl rfl (t_dm hS hdm) ?_
                                      intro z59 ez59 f60
                                      obtain rfl : z59 = 3 := by omega
                                      refine n_imul c_163_99 rfl ?_
                                      refine n_aload_n c_163_100 rfl ?_
                                      refine n_getR c_163_101 sc_112.n rfl rfl rfl r_112_6 ?_
                                      refine n_bipush c_163_104 rfl ?_
                                      refine n_iload_n c_163_106 rfl ?_
                                      refine n_imul c_163_107 rfl ?_
                                      refine n_iload c_163_108 rfl ?_
                                      refine n_iadd c_163_110 rfl ?_
                                      refine n_ialoadV c_163_111 sc_117.n rfl rfl rfl (by omega) (t_117 hS (by omega)) ?_
                                      intro z61 ez61 f62
                                      refine n_iadd c_163_112 rfl ?_
                                      refine n_istore (L2 := [some (2, 112), some (0, a), some (0, 9), some (0, x), some (0, y), some (0, w), some (0, s), some (0, z1), some (0, ((((((((((((0 * 3) + z11) * 3) + z21) * 3) + z31) * 3) + z41) * 3) + z51) * 3) + z61)), some (0, ((((((9 - 1) + (-1)) + (-1)) + (-1)) + (-1)) + (-1))), some (0, z55)]) c_163_113 rfl rfl ?_
                                      refine n_iinc (L2 := [some (2, 112), some (0, a), some (0, 9), some (0, x), some (0, y), some (0, w), some (0, s), some (0, z1), some (0, ((((((((((((0 * 3) + z11) * 3) + z21) * 3) + z31) * 3) + z41) * 3) + z51) * 3) + z61)), some (0, (((((((9 - 1) + (-1)) + (-1)) + (-1)) + (-1)) + (-1)) + (-1))), some (0, z55)]) c_163_115 rfl rfl rfl ?_
                                      refine n_goto c_163_118 ?_
                                      refine n_iload c_163_16 rfl ?_
                                      refine n_if0_lt c_163_18 (by omega) ?_ ?_
                                      · intro h63
                                        exfalso; omega
                                      · intro h64
                                        refine n_aload_n c_163_21 rfl ?_
                                        refine n_getR c_163_22 sc_112.n rfl rfl rfl r_112_18 ?_
                                        refine n_bipush c_163_25 rfl ?_
                                        refine n_iload_n c_163_27 rfl ?_
                                        refine n_imul c_163_28 rfl ?_
                                        refine n_iload c_163_29 rfl ?_
                                        refine n_iadd c_163_31 rfl ?_
                                        refine n_ialoadV c_163_32 sc_126.n rfl rfl rfl (by omega) (t_126 hS (by omega)) ?_
                                        intro z65 ez65 f66
                                        refine n_istore (L2 := [some (2, 112), some (0, a), some (0, 9), some (0, x), some (0, y), some (0, w), some (0, s), some (0, z1), some (0, ((((((((((((0 * 3) + z11) * 3) + z21) * 3) + z31) * 3) + z41) * 3) + z51) * 3) + z61)), some (0, (((((((9 - 1) + (-1)) + (-1)) + (-1)) + (-1)) + (-1)) + (-1))), some (0, z65)]) c_163_33 rfl rfl ?_
                                        refine n_iload c_163_35 rfl ?_
                                        refine n_iconst c_163_37 ?_
                                        refine n_if2_le c_163_38 (by omega) (by omega) ?_ ?_
                                        · intro h67
                                          refine n_iload c_163_64 rfl ?_
                                          refine n_iconst c_163_66 ?_
                                          refine n_if2_le c_163_67 (by omega) (by omega) ?_ ?_
                                          · intro h68
                                            refine n_iload c_163_93 rfl ?_
                                            refine n_aload_n c_163_95 rfl ?_
                                            refine n_getV (bi := 0) c_163_96 sc_112.n rfl rfl rfl (t_dm hS hdm) ?_
                                            intro z69 ez69 f70
                                            obtain rfl : z69 = 3 := by omega
                                            refine n_imul c_163_99 rfl ?_
                                            refine n_aload_n c_163_100 rfl ?_
                                            refine n_getR c_163_101 sc_112.n rfl rfl rfl r_112_6 ?_
                                            refine n_bipush c_163_104 rfl ?_
                                            refine n_iload_n c_163_106 rfl ?_
                                            refine n_imul c_163_107 rfl ?_
                                            refine n_iload c_163_108 rfl ?_
                                            refine n_iadd c_163_110 rfl ?_
                                            refine n_ialoadV c_163_111 sc_117.n rfl rfl rfl (by omega) (t_117 hS (by omega)) ?_
                                            intro z71 ez71 f72
                                            refine n_iadd c_163_112 rfl ?_
                                            refine n_istore (L2 := [some (2, 112), some (0, a), some (0, 9), some (0, x), some (0, y), some (0, w), some (0, s), some (0, z1), some (0, ((((((((((((((0 * 3) + z11) * 3) + z21) * 3) + z31) * 3) + z41) * 3) + z51) * 3) + z61) * 3) + z71)), some (0, (((((((9 - 1) + (-1)) + (-1)) + (-1)) + (-1)) + (-1)) + (-1))), some (0, z65)]) c_163_113 rfl rfl ?_
                                            refine n_iinc (L2 := [some (2, 112), some (0, a), some (0, 9), some (0, x), some (0, y), some (0, w), some (0, s), some (0, z1), some (0, ((((((((((((((0 * 3) + z11) * 3) + z21) * 3) + z31) * 3) + z41) * 3) + z51) * 3) + z61) * 3) + z71)), some (0, ((((((((9 - 1) + (-1)) + (-1)) + (-1)) + (-1)) + (-1)) + (-1)) + (-1))), some (0, z65)]) c_163_115 rfl rfl rfl ?_
                                            refine n_goto c_163_118 ?_
                                            refine n_iload c_163_16 rfl ?_
                                            refine n_if0_lt c_163_18 (by omega) ?_ ?_
                                            · intro h73
                                              exfalso; omega
                                            · intro h74
                                              refine n_aload_n c_163_21 rfl ?_
                                              refine n_getR c_163_22 sc_112.n rfl rfl rfl r_112_18 ?_
                                              refine n_bipush c_163_25 rfl ?_
                                              refine n_iload_n c_163_27 rfl ?_
                                              refine n_imul c_163_28 rfl ?_
                                              refine n_iload c_163_29 rfl ?_
                                              refine n_iadd c_163_31 rfl ?_
                                              refine n_ialoadV c_163_32 sc_126.n rfl rfl rfl (by omega) (t_126 hS (by omega)) ?_
                                              intro z75 ez75 f76
                                              refine n_istore (L2 := [some (2, 112), some (0, a), some (0, 9), some (0, x), some (0, y), some (0, w), some (0, s), some (0, z1), some (0, ((((((((((((((0 * 3) + z11) * 3) + z21) * 3) + z31) * 3) + z41) * 3) + z51) * 3) + z61) * 3) + z71)), some (0, ((((((((9 - 1) + (-1)) + (-1)) + (-1)) + (-1)) + (-1)) + (-1)) + (-1))), some (0, z75)]) c_163_33 rfl rfl ?_
                                              refine n_iload c_163_35 rfl ?_
                                              refine n_iconst c_163_37 ?_
                                              refine n_if2_le c_163_38 (by omega) (by omega) ?_ ?_
                                              · intro h77
                                                refine n_iload c_163_64 rfl ?_
                                                refine n_iconst c_163_66 ?_
                                                refine n_if2_le c_163_67 (by omega) (by omega) ?_ ?_
                                                · intro h78
                                                  refine n_iload c_163_93 rfl ?_
                                                  refine n_aload_n c_163_95 rfl ?_
                                                  refine n_getV (bi := 0) c_163_96 sc_112.n rfl rfl rfl (t_dm hS hdm) ?_
                                                  intro z79 ez79 f80
                                                  obtain rfl : z79 = 3 := by omega
                                                  refine n_imul c_163_99 rfl ?_
                                                  refine n_aload_n c_163_100 rfl ?_
                                                  refine n_getR c_163_101 sc_112.n rfl rfl rfl r_112_6 ?_
                                                  refine n_bipush c_163_104 rfl ?_
                                                  refine n_iload_n c_163_106 rfl ?_
                                                  refine n_imul c_163_107 rfl ?_
                                                  refine n_iload c_163_108 rfl ?_
                                                  refine n_iadd c_163_110 rfl ?_
                                                  refine n_ialoadV c_163_111 sc_117.n rfl rfl rfl (by omega) (t_117 hS (by omega)) ?_
                                                  intro z81 ez81 f82
                                                  refine n_iadd c_163_112 rfl ?_
                                                  refine n_istore (L2 := [some (2, 112), some (0, a), some (0, 9), some (0, x), some (0, y), some (0, w), some (0, s), some (0, z1), some (0, ((((((((((((((((0 * 3) + z11) * 3) + z21) * 3) + z31) * 3) + z41) * 3) + z51) * 3) + z61) * 3) + z71) * 3) + z81)), some (0, ((((((((9 - 1) + (-1)) + (-1)) + (-1)) + (-1)) + (-1)) + (-1)) + (-1))), some (0, z75)]) c_163_113 rfl rfl ?_
                                                  refine n_iinc (L2 := [some (2, 112), some (0, a), some (0, 9), some (0, x), some (0, y), some (0, w), some (0, s), some (0, z1), some (0, ((((((((((((((((0 * 3) + z11) * 3) + z21) * 3) + z31) * 3) + z41) * 3) + z51) * 3) + z61) * 3) + z71) * 3) + z81)), some (0, (((((((((9 - 1) + (-1)) + (-1)) + (-1)) + (-1)) + (-1)) + (-1)) + (-1)) + (-1))), some (0, z75)]) c_163_115 rfl rfl rfl ?_
                                                  refine n_goto c_163_118 ?_
                                                  refine n_iload c_163_16 rfl ?_
                                                  refine n_if0_lt c_163_18 (by omega) ?_ ?_
                                                  · intro h83
                                                    exfalso; omega
                                                  · intro h84
                                                    refine n_aload_n c_163_21 rfl ?_
                                                    refine n_getR c_163_22 sc_112.n rfl rfl rfl r_112_18 ?_
                                                    refine n_bipush c_163_25 rfl ?_
                                                    refine n_iload_n c_163_27 rfl ?_
                                                    refine n_imul c_163_28 rfl ?_
                                                    refine n_iload c_163_29 rfl ?_
                                                    refine n_iadd c_163_31 rfl ?_
                                                    refine n_ialoadV c_163_32 sc_126.n rfl rfl rfl (by omega) (t_126 hS (by omega)) ?_
                                                    intro z85 ez85 f86
                                                    refine n_istore (L2 := [some (2, 112), some (0, a), some (0, 9), some (0, x), some (0, y), some (0, w), some (0, s), some (0, z1), some (0, ((((((((((((((((0 * 3) + z11) * 3) + z21) * 3) + z31) * 3) + z41) * 3) + z51) * 3) + z61) * 3) + z71) * 3) + z81)), some (0, (((((((((9 - 1) + (-1)) + (-1)) + (-1)) + (-1)) + (-1)) + (-1)) + (-1)) + (-1))), some (0, z85)]) c_163_33 rfl rfl ?_
                                                    refine n_iload c_163_35 rfl ?_
                                                    refine n_iconst c_163_37 ?_
                                                    refine n_if2_le c_163_38 (by omega) (by omega) ?_ ?_
                                                    · intro h87
                                                      refine n_iload c_163_64 rfl ?_
                                                      refine n_iconst c_163_66 ?_
                                                      refine n_if2_le c_163_67 (by omega) (by omega) ?_ ?_
                                                      · intro h88
                                                        refine n_iload c_163_93 rfl ?_
                                                        refine n_aload_n c_163_95 rfl ?_
                                                        refine n_getV (bi := 0) c_163_96 sc_112.n rfl rfl rfl (t_dm hS hdm) ?_
                                                        intro z89 ez89 f90
                                                        obtain rfl : z89 = 3 := by omega
                                                        refine n_imul c_163_99 rfl ?_
                                                        refine n_aload_n c_163_100 rfl ?_
                                                        refine n_getR c_163_101 sc_112.n rfl rfl rfl r_112_6 ?_
                                                        refine n_bipush c_163_104 rfl ?_
                                                        refine n_iload_n c_163_106 rfl ?_
                                                        refine n_imul c_163_107 rfl ?_
                                                        refine n_iload c_163_108 rfl ?_
                                                        refine n_iadd c_163_110 rfl ?_
                                                        refine n_ialoadV c_163_111 sc_117.n rfl rfl rfl (by omega) (t_117 hS (by omega)) ?_
                                                        intro z91 ez91 f92
                                                        refine n_iadd c_163_112 rfl ?_
                                                        refine n_istore (L2 := [some (2, 112), some (0, a), some (0, 9), some (0, x), some (0, y), some (0, w), some (0, s), some (0, z1), some (0, ((((((((((((((((((0 * 3) + z11) * 3) + z21) * 3) + z31) * 3) + z41) * 3) + z51) * 3) + z61) * 3) + z71) * 3) + z81) * 3) + z91)), some (0, (((((((((9 - 1) + (-1)) + (-1)) + (-1)) + (-1)) + (-1)) + (-1)) + (-1)) + (-1))), some (0, z85)]) c_163_113 rfl rfl ?_
                                                        refine n_iinc (L2 := [some (2, 112), some (0, a), some (0, 9), some (0, x), some (0, y), some (0, w), some (0, s), some (0, z1), some (0, ((((((((((((((((((0 * 3) + z11) * 3) + z21) * 3) + z31) * 3) + z41) * 3) + z51) * 3) + z61) * 3) + z71) * 3) + z81) * 3) + z91)), some (0, ((((((((((9 - 1) + (-1)) + (-1)) + (-1)) + (-1)) + (-1)) + (-1)) + (-1)) + (-1)) + (-1))), some (0, z85)]) c_163_115 rfl rfl rfl ?_
                                                        refine n_goto c_163_118 ?_
                                                        refine n_iload c_163_16 rfl ?_
                                                        refine n_if0_lt c_163_18 (by omega) ?_ ?_
                                                        · intro h93
                                                          refine n_aload_n c_163_121 rfl ?_
                                                          refine n_getR c_163_122 sc_112.n rfl rfl rfl r_112_17 ?_
                                                          refine n_iload c_163_125 rfl ?_
                                                          refine n_ialoadV c_163_127 sc_125.n rfl rfl rfl (by omega) (t_125 hS (by omega)) ?_
                                                          intro z94 ez94 f95
                                                          refine n_if0_eq c_163_128 (by omega) ?_ ?_
                                                          · intro h96
                                                            refine n_fg (le_s (le_n (le_n (le_n (le_n (le_n (le_s (le_n (le_s (le_n (le_n le_0))))))))))) ?_
                                                            exact (mjoined9_3_c hS hdm ha hx hy hw hs 14).1 _ M hS (by omega) (by omega)
                                                          · intro h97
                                                            refine n_aload_n c_163_131 rfl ?_
                                                            refine n_getR c_163_132 sc_112.n rfl rfl rfl r_112_17 ?_
                                                            refine n_iload c_163_135 rfl ?_
                                                            refine n_ialoadV c_163_137 sc_125.n rfl rfl rfl (by omega) (t_125 hS (by omega)) ?_
                                                            intro z98 ez98 f99
                                                            refine n_iload c_163_138 rfl ?_
                                                            refine n_iconst c_163_140 ?_
                                                            refine n_iadd c_163_141 rfl ?_
                                                            refine n_if2_le c_163_142 (by omega) (by omega) ?_ ?_
                                                            · intro h100
                                                              refine n_fg (le_n (le_n (le_n (le_n (le_n (le_n (le_n (le_n (le_n (le_n (le_n le_0))))))))))) ?_
                                                              exact (mjoined9_3_c hS hdm ha hx hy hw hs 14).2  M hS  (by omega)
                                                            · intro h101
                                                              refine n_fg (le_s (le_n (le_n (le_n (le_n (le_n (le_s (le_n (le_s (le_n (le_n le_0))))))))))) ?_
                                                              exact (mjoined9_3_c hS hdm ha hx hy hw hs 14).1 _ M hS (by omega) (by omega)
                                                        · intro h102
                                                          exfalso; omega
                                                      · intro h103
                                                        exfalso; omega
                                                    · intro h104
                                                      exfalso; omega
                                                · intro h105
                                                  exfalso; omega
                                              · intro h106
                                                exfalso; omega
                                          · intro h107
                                            exfalso; omega
                                        · intro h108
                                          exfalso; omega
                                    · intro h109
                                      exfalso; omega
                                  · intro h110
                                    exfalso; omega
                              · intro h111
                                exfalso; omega
                            · intro h112
                              exfalso; omega
                        · intro h113
                          exfalso; omega
                      · intro h114
                        exfalso; omega
                  · intro h115
                    exfalso; omega
                · intro h116
                  exfalso; omega
            · intro h117
              exfalso; omega
          · intro h118
            exfalso; omega
      · intro h119
        exfalso; omega
    · intro h120
      refine n_iload c_163_41 rfl ?_
      refine n_aload_n c_163_43 rfl ?_
      refine n_getV (bi := 0) c_163_44 sc_112.n rfl rfl rfl (t_dm hS hdm) ?_
      intro z121 ez121 f122
      obtain rfl : z121 = 3 := by omega
      refine n_imul c_163_47 rfl ?_
      refine n_aload_n c_163_48 rfl ?_
      refine n_getR c_163_49 sc_112.n rfl rfl rfl r_112_18 ?_
      refine n_bipush c_163_52 rfl ?_
      refine n_iload c_163_54 rfl ?_
      refine n_imul c_163_56 rfl ?_
      refine n_iload c_163_57 rfl ?_
      refine n_iadd c_163_59 rfl ?_
      refine n_ialoadV c_163_60 sc_126.n rfl rfl rfl (by omega) (t_126 hS (by omega)) ?_
      intro z123 ez123 f124
      refine n_iadd c_163_61 rfl ?_
      refine n_istore (L2 := [some (2, 112), some (0, a), some (0, 9), some (0, x), some (0, y), some (0, w), some (0, s), some (0, z1), some (0, 0), some (0, (9 - 1)), some (0, ((z5 * 3) + z123))]) c_163_62 rfl rfl ?_
      refine n_iload c_163_64 rfl ?_
      refine n_iconst c_163_66 ?_
      refine n_if2_le c_163_67 (by omega) (by omega) ?_ ?_
      · intro h125
        refine n_iload c_163_93 rfl ?_
        refine n_aload_n c_163_95 rfl ?_
        refine n_getV (bi := 0) c_163_96 sc_112.n rfl rfl rfl (t_dm hS hdm) ?_
        intro z126 ez126 f127
        obtain rfl : z126 = 3 := by omega
        refine n_imul c_163_99 rfl ?_
        refine n_aload_n c_163_100 rfl ?_
        refine n_getR c_163_101 sc_112.n rfl rfl rfl r_112_6 ?_
        refine n_bipush c_163_104 rfl ?_
        refine n_iload_n c_163_106 rfl ?_
        refine n_imul c_163_107 rfl ?_
        refine n_iload c_163_108 rfl ?_
        refine n_iadd c_163_110 rfl ?_
        refine n_ialoadV c_163_111 sc_117.n rfl rfl rfl (by omega) (t_117 hS (by omega)) ?_
        intro z128 ez128 f129
        refine n_iadd c_163_112 rfl ?_
        refine n_istore (L2 := [some (2, 112), some (0, a), some (0, 9), some (0, x), some (0, y), some (0, w), some (0, s), some (0, z1), some (0, ((0 * 3) + z128)), some (0, (9 - 1)), some (0, ((z5 * 3) + z123))]) c_163_113 rfl rfl ?_
        refine n_iinc (L2 := [some (2, 112), some (0, a), some (0, 9), some (0, x), some (0, y), some (0, w), some (0, s), some (0, z1), some (0, ((0 * 3) + z128)), some (0, ((9 - 1) + (-1))), some (0, ((z5 * 3) + z123))]) c_163_115 rfl rfl rfl ?_
        refine n_goto c_163_118 ?_
        refine n_iload c_163_16 rfl ?_
        refine n_if0_lt c_163_18 (by omega) ?_ ?_
        · intro h130
          exfalso; omega
        · intro h131
          refine n_aload_n c_163_21 rfl ?_
          refine n_getR c_163_22 sc_112.n rfl rfl rfl r_112_18 ?_
          refine n_bipush c_163_25 rfl ?_
          refine n_iload_n c_163_27 rfl ?_
          refine n_imul c_163_28 rfl ?_
          refine n_iload c_163_29 rfl ?_
          refine n_iadd c_163_31 rfl ?_
          refine n_ialoadV c_163_32 sc_126.n rfl rfl rfl (by omega) (t_126 hS (by omega)) ?_
          intro z132 ez132 f133
          refine n_istore (L2 := [some (2, 112), some (0, a), some (0, 9), some (0, x), some (0, y), some (0, w), some (0, s), some (0, z1), some (0, ((0 * 3) + z128)), some (0, ((9 - 1) + (-1))), some (0, z132)]) c_163_33 rfl rfl ?_
          refine n_iload c_163_35 rfl ?_
          refine n_iconst c_163_37 ?_
          refine n_if2_le c_163_38 (by omega) (by omega) ?_ ?_
          · intro h134
            exfalso; omega
          · intro h135
            refine n_iload c_163_41 rfl ?_
            refine n_aload_n c_163_43 rfl ?_
            refine n_getV (bi := 0) c_163_44 sc_112.n rfl rfl rfl (t_dm hS hdm) ?_
            intro z136 ez136 f137
            obtain rfl : z136 = 3 := by omega
            refine n_imul c_163_47 rfl ?_
            refine n_aload_n c_163_48 rfl ?_
            refine n_getR c_163_49 sc_112.n rfl rfl rfl r_112_18 ?_
            refine n_bipush c_163_52 rfl ?_
            refine n_iload c_163_54 rfl ?_
            refine n_imul c_163_56 rfl ?_
            refine n_iload c_163_57 rfl ?_
            refine n_iadd c_163_59 rfl ?_
            refine n_ialoadV c_163_60 sc_126.n rfl rfl rfl (by omega) (t_126 hS (by omega)) ?_
            intro z138 ez138 f139
            refine n_iadd c_163_61 rfl ?_
            refine n_istore (L2 := [some (2, 112), some (0, a), some (0, 9), some (0, x), some (0, y), some (0, w), some (0, s), some (0, z1), some (0, ((0 * 3) + z128)), some (0, ((9 - 1) + (-1))), some (0, ((z132 * 3) + z138))]) c_163_62 rfl rfl ?_
            refine n_iload c_163_64 rfl ?_
            refine n_iconst c_163_66 ?_
            refine n_if2_le c_163_67 (by omega) (by omega) ?_ ?_
            · intro h140
              refine n_iload c_163_93 rfl ?_
              refine n_aload_n c_163_95 rfl ?_
              refine n_getV (bi := 0) c_163_96 sc_112.n rfl rfl rfl (t_dm hS hdm) ?_
              intro z141 ez141 f142
              obtain rfl : z141 = 3 := by omega
              refine n_imul c_163_99 rfl ?_
              refine n_aload_n c_163_100 rfl ?_
              refine n_getR c_163_101 sc_112.n rfl rfl rfl r_112_6 ?_
              refine n_bipush c_163_104 rfl ?_
              refine n_iload_n c_163_106 rfl ?_
              refine n_imul c_163_107 rfl ?_
              refine n_iload c_163_108 rfl ?_
              refine n_iadd c_163_110 rfl ?_
              refine n_ialoadV c_163_111 sc_117.n rfl rfl rfl (by omega) (t_117 hS (by omega)) ?_
              intro z143 ez143 f144
              refine n_iadd c_163_112 rfl ?_
              refine n_istore (L2 := [some (2, 112), some (0, a), some (0, 9), some (0, x), some (0, y), some (0, w), some (0, s), some (0, z1), some (0, ((((0 * 3) + z128) * 3) + z143)), some (0, ((9 - 1) + (-1))), some (0, ((z132 * 3) + z138))]) c_163_113 rfl rfl ?_
              refine n_iinc (L2 := [some (2, 112), some (0, a), some (0, 9), some (0, x), some (0, y), some (0, w), some (0, s), some (0, z1), some (0, ((((0 * 3) + z128) * 3) + z143)), some (0, (((9 - 1) + (-1)) + (-1))), some (0, ((z132 * 3) + z138))]) c_163_115 rfl rfl rfl ?_
              refine n_goto c_163_118 ?_
              refine n_iload c_163_16 rfl ?_
              refine n_if0_lt c_163_18 (by omega) ?_ ?_
              · intro h145
                exfalso; omega
              · intro h146
                refine n_aload_n c_163_21 rfl ?_
                refine n_getR c_163_22 sc_112.n rfl rfl rfl r_112_18 ?_
                refine n_bipush c_163_25 rfl ?_
                refine n_iload_n c_163_27 rfl ?_
                refine n_imul c_163_28 rfl ?_
                refine n_iload c_163_29 rfl ?_
                refine n_iadd c_163_31 rfl ?_
                refine n_ialoadV c_163_32 sc_126.n rfl rfl rfl (by omega) (t_126 hS (by omega)) ?_
                intro z147 ez147 f148
                refine n_istore (L2 := [some (2, 112), some (0, a), some (0, 9), some (0, x), some (0, y), some (0, w), some (0, s), some (0, z1), some (0, ((((0 * 3) + z128) * 3) + z143)), some (0, (((9 - 1) + (-1)) + (-1))), some (0, z147)]) c_163_33 rfl rfl ?_
                refine n_iload c_163_35 rfl ?_
                refine n_iconst c_163_37 ?_
                refine n_if2_le c_163_38 (by omega) (by omega) ?_ ?_
                · intro h149
                  exfalso; omega
                · intro h150
                  refine n_iload c_163_41 rfl ?_
                  refine n_aload_n c_163_43 rfl ?_
                  refine n_getV (bi := 0) c_163_44 sc_112.n rfl rfl rfl (t_dm hS hdm) ?_
                  intro z151 ez151 f152
                  obtain rfl : z151 = 3 := by omega
                  refine n_imul c_163_47 rfl ?_
                  refine n_aload_n c_163_48 rfl ?_
                  refine n_getR c_163_49 sc_112.n rfl rfl rfl r_112_18 ?_
                  refine n_bipush c_163_52 rfl ?_
                  refine n_iload c_163_54 rfl ?_
                  refine n_imul c_163_56 rfl ?_
                  refine n_iload c_163_57 rfl ?_
                  refine n_iadd c_163_59 rfl ?_
                  refine n_ialoadV c_163_60 sc_126.n rfl rfl rfl (by omega) (t_126 hS (by omega)) ?_
                  intro z153 ez153 f154
                  refine n_iadd c_163_61 rfl ?_
                  refine n_istore (L2 := [some (2, 112), some (0, a), some (0, 9), some (0, x), some (0, y), some (0, w), some (0, s), some (0, z1), some (0, ((((0 * 3) + z128) * 3) + z143)), some (0, (((9 - 1) + (-1)) + (-1))), some (0, ((z147 * 3) + z153))]) c_163_62 rfl rfl ?_
                  refine n_iload c_163_64 rfl ?_
                  refine n_iconst c_163_66 ?_
                  refine n_if2_le c_163_67 (by omega) (by omega) ?_ ?_
                  · intro h155
                    refine n_iload c_163_93 rfl ?_
                    refine n_aload_n c_163_95 rfl ?_
                    refine n_getV (bi := 0) c_163_96 sc_112.n rfl rfl rfl (t_dm hS hdm) ?_
                    intro z156 ez156 f157
                    obtain rfl : z156 = 3 := by omega
                    refine n_imul c_163_99 rfl ?_
                    refine n_aload_n c_163_100 rfl ?_
                    refine n_getR c_163_101 sc_112.n rfl rfl rfl r_112_6 ?_
                    refine n_bipush c_163_104 rfl ?_
                    refine n_iload_n c_163_106 rfl ?_
                    refine n_imul c_163_107 rfl ?_
                    refine n_iload c_163_108 rfl ?_
                    refine n_iadd c_163_110 rfl ?_
                    refine n_ialoadV c_163_111 sc_117.n rfl rfl rfl (by omega) (t_117 hS (by omega)) ?_
                    intro z158 ez158 f159
                    refine n_iadd c_163_112 rfl ?_
                    refine n_istore (L2 := [some (2, 112), some (0, a), some (0, 9), some (0, x), some (0, y), some (0, w), some (0, s), some (0, z1), some (0, ((((((0 * 3) + z128) * 3) + z143) * 3) + z158)), some (0, (((9 - 1) + (-1)) + (-1))), some (0, ((z147 * 3) + z153))]) c_163_113 rfl rfl ?_
                    refine n_iinc (L2 := [some (2, 112), some (0, a), some (0, 9), some (0, x), some (0, y), some (0, w), some (0, s), some (0, z1), some (0, ((((((0 * 3) + z128) * 3) + z143) * 3) + z158)), some (0, ((((9 - 1) + (-1)) + (-1)) + (-1))), some (0, ((z147 * 3) + z153))]) c_163_115 rfl rfl rfl ?_
                    refine n_goto c_163_118 ?_
                    refine n_iload c_163_16 rfl ?_
                    refine n_if0_lt c_163_18 (by omega) ?_ ?_
                    · intro h160
                      exfalso; omega
                    · intro h161
                      refine n_aload_n c_163_21 rfl ?_
                      refine n_getR c_163_22 sc_112.n rfl rfl rfl r_112_18 ?_
                      refine n_bipush c_163_25 rfl ?_
                      refine n_iload_n c_163_27 rfl ?_
                      refine n_imul c_163_28 rfl ?_
                      refine n_iload c_163_29 rfl ?_
                      refine n_iadd c_163_31 rfl ?_
                      refine n_ialoadV c_163_32 sc_126.n rfl rfl rfl (by omega) (t_126 hS (by omega)) ?_
                      intro z162 ez162 f163
                      refine n_istore (L2 := [some (2, 112), some (0, a), some (0, 9), some (0, x), some (0, y), some (0, w), some (0, s), some (0, z1), some (0, ((((((0 * 3) + z128) * 3) + z143) * 3) + z158)), some (0, ((((9 - 1) + (-1)) + (-1)) + (-1))), some (0, z162)]) c_163_33 rfl rfl ?_
                      refine n_iload c_163_35 rfl ?_
                      refine n_iconst c_163_37 ?_
                      refine n_if2_le c_163_38 (by omega) (by omega) ?_ ?_
                      · intro h164
                        exfalso; omega
                      · intro h165
                        refine n_iload c_163_41 rfl ?_
                        refine n_aload_n c_163_43 rfl ?_
                        refine n_getV (bi := 0) c_163_44 sc_112.n rfl rfl rfl (t_dm hS hdm) ?_
                        intro z166 ez166 f167
                        obtain rfl : z166 = 3 := by omega
                        refine n_imul c_163_47 rfl ?_
                        refine n_aload_n c_163_48 rfl ?_
                        refine n_getR c_163_49 sc_112.n rfl rfl rfl r_112_18 ?_
                        refine n_bipush c_163_52 rfl ?_
                        refine n_iload c_163_54 rfl ?_
                        refine n_imul c_163_56 rfl ?_
                        refine n_iload c_163_57 rfl ?_
                        refine n_iadd c_163_59 rfl ?_
                        refine n_ialoadV c_163_60 sc_126.n rfl rfl rfl (by omega) (t_126 hS (by omega)) ?_
                        intro z168 ez168 f169
                        refine n_iadd c_163_61 rfl ?_
                        refine n_istore (L2 := [some (2, 112), some (0, a), some (0, 9), some (0, x), some (0, y), some (0, w), some (0, s), some (0, z1), some (0, ((((((0 * 3) + z128) * 3) + z143) * 3) + z158)), some (0, ((((9 - 1) + (-1)) + (-1)) + (-1))), some (0, ((z162 * 3) + z168))]) c_163_62 rfl rfl ?_
                        refine n_iload c_163_64 rfl ?_
                        refine n_iconst c_163_66 ?_
                        refine n_if2_le c_163_67 (by omega) (by omega) ?_ ?_
                        · intro h170
                          refine n_iload c_163_93 rfl ?_
                          refine n_aload_n c_163_95 rfl ?_
                          refine n_getV (bi := 0) c_163_96 sc_112.n rfl rfl rfl (t_dm hS hdm) ?_
                          intro z171 ez171 f172
                          obtain rfl : z171 = 3 := by omega
                          refine n_imul c_163_99 rfl ?_
                          refine n_aload_n c_163_100 rfl ?_
                          refine n_getR c_163_101 sc_112.n rfl rfl rfl r_112_6 ?_
                          refine n_bipush c_163_104 rfl ?_
                          refine n_iload_n c_163_106 rfl ?_
                          refine n_imul c_163_107 rfl ?_
                          refine n_iload c_163_108 rfl ?_
                          refine n_iadd c_163_110 rfl ?_
                          refine n_ialoadV c_163_111 sc_117.n rfl rfl rfl (by omega) (t_117 hS (by omega)) ?_
                          intro z173 ez173 f174
                          refine n_iadd c_163_112 rfl ?_
                          refine n_istore (L2 := [some (2, 112), some (0, a), some (0, 9), some (0, x), some (0, y), some (0, w), some (0, s), some (0, z1), some (0, ((((((((0 * 3) + z128) * 3) + z143) * 3) + z158) * 3) + z173)), some (0, ((((9 - 1) + (-1)) + (-1)) + (-1))), some (0, ((z162 * 3) + z168))]) c_163_113 rfl rfl ?_
                          refine n_iinc (L2 := [some (2, 112), some (0, a), some (0, 9), some (0, x), some (0, y), some (0, w), some (0, s), some (0, z1), some (0, ((((((((0 * 3) + z128) * 3) + z143) * 3) + z158) * 3) + z173)), some (0, (((((9 - 1) + (-1)) + (-1)) + (-1)) + (-1))), some (0, ((z162 * 3) + z168))]) c_163_115 rfl rfl rfl ?_
                          refine n_goto c_163_118 ?_
                          refine n_iload c_163_16 rfl ?_
                          refine n_if0_lt c_163_18 (by omega) ?_ ?_
                          · intro h175
                            exfalso; omega
                          · intro h176
                            refine n_aload_n c_163_21 rfl ?_
                            refine n_getR c_163_22 sc_112.n rfl rfl rfl r_112_18 ?_
                            refine n_bipush c_163_25 rfl ?_
                            refine n_iload_n c_163_27 rfl ?_
                            refine n_imul c_163_28 rfl ?_
                            refine n_iload c_163_29 rfl ?_
                            refine n_iadd c_163_31 rfl ?_
                            refine n_ialoadV c_163_32 sc_126.n rfl rfl rfl (by omega) (t_126 hS (by omega)) ?_
                            intro z177 ez177 f178
                            refine n_istore (L2 := [some (2, 112), some (0, a), some (0, 9), some (0, x), some (0, y), some (0, w), some (0, s), some (0, z1), some (0, ((((((((0 * 3) + z128) * 3) + z143) * 3) + z158) * 3) + z173)), some (0, (((((9 - 1) + (-1)) + (-1)) + (-1)) + (-1))), some (0, z177)]) c_163_33 rfl rfl ?_
                            refine n_iload c_163_35 rfl ?_
                            refine n_iconst c_163_37 ?_
                            refine n_if2_le c_163_38 (by omega) (by omega) ?_ ?_
                            · intro h179
                              exfalso; omega
                            · intro h180
                              refine n_iload c_163_41 rfl ?_
                              refine n_aload_n c_163_43 rfl ?_
                              refine n_getV (bi := 0) c_163_44 sc_112.n rfl rfl rfl (t_dm hS hdm) ?_
                              intro z181 ez181 f182
                              obtain rfl : z181 = 3 := by omega
                              refine n_imul c_163_47 rfl ?_
                              refine n_aload_n c_163_48 rfl ?_
                              refine n_getR c_163_49 sc_112.n rfl rfl rfl r_112_18 ?_
                              refine n_bipush c_163_52 rfl ?_
                              refine n_iload c_163_54 rfl ?_
                              refine n_imul c_163_56 rfl ?_
                              refine n_iload c_163_57 rfl ?_
                              refine n_iadd c_163_59 rfl ?_
                              refine n_ialoadV c_163_60 sc_126.n rfl rfl rfl (by omega) (t_126 hS (by omega)) ?_
                              intro z183 ez183 f184
                              refine n_iadd c_163_61 rfl ?_
                              refine n_istore (L2 := [some (2, 112), some (0, a), some (0, 9), some (0, x), some (0, y), some (0, w), some (0, s), some (0, z1), some (0, ((((((((0 * 3) + z128) * 3) + z143) * 3) + z158) * 3) + z173)), some (0, (((((9 - 1) + (-1)) + (-1)) + (-1)) + (-1))), some (0, ((z177 * 3) + z183))]) c_163_62 rfl rfl ?_
                              refine n_iload c_163_64 rfl ?_
                              refine n_iconst c_163_66 ?_
                              refine n_if2_le c_163_67 (by omega) (by omega) ?_ ?_
                              · intro h185
                                refine n_iload c_163_93 rfl ?_
                                refine n_aload_n c_163_95 rfl ?_
                                refine n_getV (bi := 0) c_163_96 sc_112.n rfl rfl rfl (t_dm hS hdm) ?_
                                intro z186 ez186 f187
                                obtain rfl : z186 = 3 := by omega
                                refine n_imul c_163_99 rfl ?_
                                refine n_aload_n c_163_100 rfl ?_
                                refine n_getR c_163_101 sc_112.n rfl rfl rfl r_112_6 ?_
                                refine n_bipush c_163_104 rfl ?_
                                refine n_iload_n c_163_106 rfl ?_
                                refine n_imul c_163_107 rfl ?_
                                refine n_iload c_163_108 rfl ?_
                                refine n_iadd c_163_110 rfl ?_
                                refine n_ialoadV c_163_111 sc_117.n rfl rfl rfl (by omega) (t_117 hS (by omega)) ?_
                                intro z188 ez188 f189
                                refine n_iadd c_163_112 rfl ?_
                                refine n_istore (L2 := [some (2, 112), some (0, a), some (0, 9), some (0, x), some (0, y), some (0, w), some (0, s), some (0, z1), some (0, ((((((((((0 * 3) + z128) * 3) + z143) * 3) + z158) * 3) + z173) * 3) + z188)), some (0, (((((9 - 1) + (-1)) + (-1)) + (-1)) + (-1))), some (0, ((z177 * 3) + z183))]) c_163_113 rfl rfl ?_
                                refine n_iinc (L2 := [some (2, 112), some (0, a), some (0, 9), some (0, x), some (0, y), some (0, w), some (0, s), some (0, z1), some (0, ((((((((((0 * 3) + z128) * 3) + z143) * 3) + z158) * 3) + z173) * 3) + z188)), some (0, ((((((9 - 1) + (-1)) + (-1)) + (-1)) + (-1)) + (-1))), some (0, ((z177 * 3) + z183))]) c_163_115 rfl rfl rfl ?_
                                refine n_goto c_163_118 ?_
                                refine n_iload c_163_16 rfl ?_
                                refine n_if0_lt c_163_18 (by omega) ?_ ?_
                                · intro h190
                                  exfalso; omega
                                · intro h191
                                  refine n_aload_n c_163_21 rfl ?_
                                  refine n_getR c_163_22 sc_112.n rfl rfl rfl r_112_18 ?_
                                  refine n_bipush c_163_25 rfl ?_
                                  refine n_iload_n c_163_27 rfl ?_
                                  refine n_imul c_163_28 rfl ?_
                                  refine n_iload c_163_29 rfl ?_
                                  refine n_iadd c_163_31 rfl ?_
                                  refine n_ialoadV c_163_32 sc_126.n rfl rfl rfl (by omega) (t_126 hS (by omega)) ?_
                                  intro z192 ez192 f193
                                  refine n_istore (L2 := [some (2, 112), some (0, a), some (0, 9), some (0, x), some (0, y), some (0, w), some (0, s), some (0, z1), some (0, ((((((((((0 * 3) + z128) * 3) + z143) * 3) + z158) * 3) + z173) * 3) + z188)), some (0, ((((((9 - 1) + (-1)) + (-1)) + (-1)) + (-1)) + (-1))), some (0, z192)]) c_163_33 rfl rfl ?_
                                  refine n_iload c_163_35 rfl ?_
                                  refine n_iconst c_163_37 ?_
                                  refine n_if2_le c_163_38 (by omega) (by omega) ?_ ?_
                                  · intro h194
                                    exfalso; omega
                                  · intro h195
                                    refine n_iload c_163_41 rfl ?_
                                    refine n_aload_n c_163_43 rfl ?_
                                    refine n_getV (bi := 0) c_163_44 sc_112.n rfl rfl rfl (t_dm hS hdm) ?_
                                    intro z196 ez196 f197
                                    obtain rfl : z196 = 3 := by omega
                                    refine n_imul c_163_47 rfl ?_
                                    refine n_aload_n c_163_48 rfl ?_
                                    refine n_getR c_163_49 sc_112.n rfl rfl rfl r_112_18 ?_
                                    refine n_bipush c_163_52 rfl ?_
                                    refine n_iload c_163_54 rfl ?_
                                    refine n_imul c_163_56 rfl ?_
                                    refine n_iload c_163_57 rfl ?_
                                    refine n_iadd c_163_59 rfl ?_
                                    refine n_ialoadV c_163_60 sc_126.n rfl rfl rfl (by omega) (t_126 hS (by omega)) ?_
                                    intro z198 ez198 f199
                                    refine n_iadd c_163_61 rfl ?_
                                    refine n_istore (L2 := [some (2, 112), some (0, a), some (0, 9), some (0, x), some (0, y), some (0, w), some (0, s), some (0, z1), some (0, ((((((((((0 * 3) + z128) * 3) + z143) * 3) + z158) * 3) + z173) * 3) + z188)), some (0, ((((((9 - 1) + (-1)) + (-1)) + (-1)) + (-1)) + (-1))), some (0, ((z192 * 3) + z198))]) c_163_62 rfl rfl ?_
                                    refine n_iload c_163_64 rfl ?_
                                    refine n_iconst c_163_66 ?_
                                    refine n_if2_le c_163_67 (by omega) (by omega) ?_ ?_
                                    · intro h200
                                      refine n_iload c_163_93 rfl ?_
                                      refine n_aload_n c_163_95 rfl ?_
                                      refine n_getV (bi := 0) c_163_96 sc_112.n rfl rfl rfl (t_dm hS hdm) ?_
                                      intro z201 ez201 f202
                                      obtain rfl : z201 = 3 := by omega
                                      refine n_imul c_163_99 rfl ?_
                                      refine n_aload_n c_163_100 rfl ?_
                                      refine n_getR c_163_101 sc_112.n rfl rfl rfl r_112_6 ?_
                                      refine n_bipush c_163_104 rfl ?_
                                      refine n_iload_n c_163_106 rfl ?_
                                      refine n_imul c_163_107 rfl ?_
                                      refine n_iload c_163_108 rfl ?_
                                      refine n_iadd c_163_110 rfl ?_
                                      refine n_ialoadV c_163_111 sc_117.n rfl rfl rfl (by omega) (t_117 hS (by omega)) ?_
                                      intro z203 ez203 f204
                                      refine n_iadd c_163_112 rfl ?_
                                      refine n_istore (L2 := [some (2, 112), some (0, a), some (0, 9), some (0, x), some (0, y), some (0, w), some (0, s), some (0, z1), some (0, ((((((((((((0 * 3) + z128) * 3) + z143) * 3) + z158) * 3) + z173) * 3) + z188) * 3) + z203)), some (0, ((((((9 - 1) + (-1)) + (-1)) + (-1)) + (-1)) + (-1))), some (0, ((z192 * 3) + z198))]) c_163_113 rfl rfl ?_
                                      refine n_iinc (L2 := [some (2, 112), some (0, a), some (0, 9), some (0, x), some (0, y), some (0, w), some (0, s), some (0, z1), some (0, ((((((((((((0 * 3) + z128) * 3) + z143) * 3) + z158) * 3) + z173) * 3) + z188) * 3) + z203)), some (0, (((((((9 - 1) + (-1)) + (-1)) + (-1)) + (-1)) + (-1)) + (-1))), some (0, ((z192 * 3) + z198))]) c_163_115 rfl rfl rfl ?_
                                      refine n_goto c_163_118 ?_
                                      refine n_iload c_163_16 rfl ?_
                                      refine n_if0_lt c_163_18 (by omega) ?_ ?_
                                      · intro h205
                                        exfalso; omega
                                      · intro h206
                                        refine n_aload_n c_163_21 rfl ?_
                                        refine n_getR c_163_22 sc_112.n rfl rfl rfl r_112_18 ?_
                                        refine n_bipush c_163_25 rfl ?_
                                        refine n_iload_n c_163_27 rfl ?_
                                        refine n_imul c_163_28 rfl ?_
                                        refine n_iload c_163_29 rfl ?_
                                        refine n_iadd c_163_31 rfl ?_
                                        refine n_ialoadV c_163_32 sc_126.n rfl rfl rfl (by omega) (t_126 hS (by omega)) ?_
                                        intro z207 ez207 f208
                                        refine n_istore (L2 := [some (2, 112), some (0, a), some (0, 9), some (0, x), some (0, y), some (0, w), some (0, s), some (0, z1), some (0, ((((((((((((0 * 3) + z128) * 3) + z143) * 3) + z158) * 3) + z173) * 3) + z188) * 3) + z203)), some (0, (((((((9 - 1) + (-1)) + (-1)) + (-1)) + (-1)) + (-1)) + (-1))), some (0, z207)]) c_163_33 rfl rfl ?_
                                        refine n_iload c_163_35 rfl ?_
                                        refine n_iconst c_163_37 ?_
                                        refine n_if2_le c_163_38 (by omega) (by omega) ?_ ?_
                                        · intro h209
                                          exfalso; omega
                                        · intro h210
                                          refine n_iload c_163_41 rfl ?_
                                          refine n_aload_n c_163_43 rfl ?_
                                          refine n_getV (bi := 0) c_163_44 sc_112.n rfl rfl rfl (t_dm hS hdm) ?_
                                          intro z211 ez211 f212
                                          obtain rfl : z211 = 3 := by omega
                                          refine n_imul c_163_47 rfl ?_
                                          refine n_aload_n c_163_48 rfl ?_
                                          refine n_getR c_163_49 sc_112.n rfl rfl rfl r_112_18 ?_
                                          refine n_bipush c_163_52 rfl ?_
                                          refine n_iload c_163_54 rfl ?_
                                          refine n_imul c_163_56 rfl ?_
                                          refine n_iload c_163_57 rfl ?_
                                          refine n_iadd c_163_59 rfl ?_
                                          refine n_ialoadV c_163_60 sc_126.n rfl rfl rfl (by omega) (t_126 hS (by omega)) ?_
                                          intro z213 ez213 f214
                                          refine n_iadd c_163_61 rfl ?_
                                          refine n_istore (L2 := [some (2, 112), some (0, a), some (0, 9), some (0, x), some (0, y), some (0, w), some (0, s), some (0, z1), some (0, ((((((((((((0 * 3) + z128) * 3) + z143) * 3) + z158) * 3) + z173) * 3) + z188) * 3) + z203)), some (0, (((((((9 - 1) + (-1)) + (-1)) + (-1)) + (-1)) + (-1)) + (-1))), some (0, ((z207 * 3) + z213))]) c_163_62 rfl rfl ?_
                                          refine n_iload c_163_64 rfl ?_
                                          refine n_iconst c_163_66 ?_
                                          refine n_if2_le c_163_67 (by omega) (by omega) ?_ ?_
                                          · intro h215
                                            refine n_iload c_163_93 rfl ?_
                                            refine n_aload_n c_163_95 rfl ?_
                                            refine n_getV (bi := 0) c_163_96 sc_112.n rfl rfl rfl (t_dm hS hdm) ?_
                                            intro z216 ez216 f217
                                            obtain rfl : z216 = 3 := by omega
                                            refine n_imul c_163_99 rfl ?_
                                            refine n_aload_n c_163_100 rfl ?_
                                            refine n_getR c_163_101 sc_112.n rfl rfl rfl r_112_6 ?_
                                            refine n_bipush c_163_104 rfl ?_
                                            refine n_iload_n c_163_106 rfl ?_
                                            refine n_imul c_163_107 rfl ?_
                                            refine n_iload c_163_108 rfl ?_
                                            refine n_iadd c_163_110 rfl ?_
                                            refine n_ialoadV c_163_111 sc_117.n rfl rfl rfl (by omega) (t_117 hS (by omega)) ?_
                                            intro z218 ez218 f219
                                            refine n_iadd c_163_112 rfl ?_
                                            refine n_istore (L2 := [some (2, 112), some (0, a), some (0, 9), some (0, x), some (0, y), some (0, w), some (0, s), some (0, z1), some (0, ((((((((((((((0 * 3) + z128) * 3) + z143) * 3) + z158) * 3) + z173) * 3) + z188) * 3) + z203) * 3) + z218)), some (0, (((((((9 - 1) + (-1)) + (-1)) + (-1)) + (-1)) + (-1)) + (-1))), some (0, ((z207 * 3) + z213))]) c_163_113 rfl rfl ?_
                                            refine n_iinc (L2 := [some (2, 112), some (0, a), some (0, 9), some (0, x), some (0, y), some (0, w), some (0, s), some (0, z1), some (0, ((((((((((((((0 * 3) + z128) * 3) + z143) * 3) + z158) * 3) + z173) * 3) + z188) * 3) + z203) * 3) + z218)), some (0, ((((((((9 - 1) + (-1)) + (-1)) + (-1)) + (-1)) + (-1)) + (-1)) + (-1))), some (0, ((z207 * 3) + z213))]) c_163_115 rfl rfl rfl ?_
                                            refine n_goto c_163_118 ?_
                                            refine n_iload c_163_16 rfl ?_
                                            refine n_if0_lt c_163_18 (by omega) ?_ ?_
                                            · intro h220
                                              exfalso; omega
                                            · intro h221
                                              refine n_aload_n c_163_21 rfl ?_
                                              refine n_getR c_163_22 sc_112.n rfl rfl rfl r_112_18 ?_
                                              refine n_bipush c_163_25 rfl ?_
                                              refine n_iload_n c_163_27 rfl ?_
                                              refine n_imul c_163_28 rfl ?_
                                              refine n_iload c_163_29 rfl ?_
                                              refine n_iadd c_163_31 rfl ?_
                                              refine n_ialoadV c_163_32 sc_126.n rfl rfl rfl (by omega) (t_126 hS (by omega)) ?_
                                              intro z222 ez222 f223
                                              refine n_istore (L2 := [some (2, 112), some (0, a), some (0, 9), some (0, x), some (0, y), some (0, w), some (0, s), some (0, z1), some (0, ((((((((((((((0 * 3) + z128) * 3) + z143) * 3) + z158) * 3) + z173) * 3) + z188) * 3) + z203) * 3) + z218)), some (0, ((((((((9 - 1) + (-1)) + (-1)) + (-1)) + (-1)) + (-1)) + (-1)) + (-1))), some (0, z222)]) c_163_33 rfl rfl ?_
                                              refine n_iload c_163_35 rfl ?_
                                              refine n_iconst c_163_37 ?_
                                              refine n_if2_le c_163_38 (by omega) (by omega) ?_ ?_
                                              · intro h224
                                                exfalso; omega
                                              · intro h225
                                                refine n_iload c_163_41 rfl ?_
                                                refine n_aload_n c_163_43 rfl ?_
                                                refine n_getV (bi := 0) c_163_44 sc_112.n rfl rfl rfl (t_dm hS hdm) ?_
                                                intro z226 ez226 f227
                                                obtain rfl : z226 = 3 := by omega
                                                refine n_imul c_163_47 rfl ?_
                                                refine n_aload_n c_163_48 rfl ?_
                                                refine n_getR c_163_49 sc_112.n rfl rfl rfl r_112_18 ?_
                                                refine n_bipush c_163_52 rfl ?_
                                                refine n_iload c_163_54 rfl ?_
                                                refine n_imul c_163_56 rfl ?_
                                                refine n_iload c_163_57 rfl ?_
                                                refine n_iadd c_163_59 rfl ?_
                                                refine n_ialoadV c_163_60 sc_126.n rfl rfl rfl (by omega) (t_126 hS (by omega)) ?_
                                                intro z228 ez228 f229
                                                refine n_iadd c_163_61 rfl ?_
                                                refine n_istore (L2 := [some (2, 112), some (0, a), some (0, 9), some (0, x), some (0, y), some (0, w), some (0, s), some (0, z1), some (0, ((((((((((((((0 * 3) + z128) * 3) + z143) * 3) + z158) * 3) + z173) * 3) + z188) * 3) + z203) * 3) + z218)), some (0, ((((((((9 - 1) + (-1)) + (-1)) + (-1)) + (-1)) + (-1)) + (-1)) + (-1))), some (0, ((z222 * 3) + z228))]) c_163_62 rfl rfl ?_
                                                refine n_iload c_163_64 rfl ?_
                                                refine n_iconst c_163_66 ?_
                                                refine n_if2_le c_163_67 (by omega) (by omega) ?_ ?_
                                                · intro h230
                                                  refine n_iload c_163_93 rfl ?_
                                                  refine n_aload_n c_163_95 rfl ?_
                                                  refine n_getV (bi := 0) c_163_96 sc_112.n rfl rfl rfl (t_dm hS hdm) ?_
                                                  intro z231 ez231 f232
                                                  obtain rfl : z231 = 3 := by omega
                                                  refine n_imul c_163_99 rfl ?_
                                                  refine n_aload_n c_163_100 rfl ?_
                                                  refine n_getR c_163_101 sc_112.n rfl rfl rfl r_112_6 ?_
                                                  refine n_bipush c_163_104 rfl ?_
                                                  refine n_iload_n c_163_106 rfl ?_
                                                  refine n_imul c_163_107 rfl ?_
                                                  refine n_iload c_163_108 rfl ?_
                                                  refine n_iadd c_163_110 rfl ?_
                                                  refine n_ialoadV c_163_111 sc_117.n rfl rfl rfl (by omega) (t_117 hS (by omega)) ?_
                                                  intro z233 ez233 f234
                                                  refine n_iadd c_163_112 rfl ?_
                                                  refine n_istore (L2 := [some (2, 112), some (0, a), some (0, 9), some (0, x), some (0, y), some (0, w), some (0, s), some (0, z1), some (0, ((((((((((((((((0 * 3) + z128) * 3) + z143) * 3) + z158) * 3) + z173) * 3) + z188) * 3) + z203) * 3) + z218) * 3) + z233)), some (0, ((((((((9 - 1) + (-1)) + (-1)) + (-1)) + (-1)) + (-1)) + (-1)) + (-1))), some (0, ((z222 * 3) + z228))]) c_163_113 rfl rfl ?_
                                                  refine n_iinc (L2 := [some (2, 112), some (0, a), some (0, 9), some (0, x), some (0, y), some (0, w), some (0, s), some (0, z1), some (0, ((((((((((((((((0 * 3) + z128) * 3) + z143) * 3) + z158) * 3) + z173) * 3) + z188) * 3) + z203) * 3) + z218) * 3) + z233)), some (0, (((((((((9 - 1) + (-1)) + (-1)) + (-1)) + (-1)) + (-1)) + (-1)) + (-1)) + (-1))), some (0, ((z222 * 3) + z228))]) c_163_115 rfl rfl rfl ?_
                                                  refine n_goto c_163_118 ?_
                                                  refine n_iload c_163_16 rfl ?_
                                                  refine n_if0_lt c_163_18 (by omega) ?_ ?_
                                                  · intro h235
                                                    exfalso; omega
                                                  · intro h236
                                                    refine n_aload_n c_163_21 rfl ?_
                                                    refine n_getR c_163_22 sc_112.n rfl rfl rfl r_112_18 ?_
                                                    refine n_bipush c_163_25 rfl ?_
                                                    refine n_iload_n c_163_27 rfl ?_
                                                    refine n_imul c_163_28 rfl ?_
                                                    refine n_iload c_163_29 rfl ?_
                                                    refine n_iadd c_163_31 rfl ?_
                                                    refine n_ialoadV c_163_32 sc_126.n rfl rfl rfl (by omega) (t_126 hS (by omega)) ?_
                                                    intro z237 ez237 f238
                                                    refine n_istore (L2 := [some (2, 112), some (0, a), some (0, 9), some (0, x), some (0, y), some (0, w), some (0, s), some (0, z1), some (0, ((((((((((((((((0 * 3) + z128) * 3) + z143) * 3) + z158) * 3) + z173) * 3) + z188) * 3) + z203) * 3) + z218) * 3) + z233)), some (0, (((((((((9 - 1) + (-1)) + (-1)) + (-1)) + (-1)) + (-1)) + (-1)) + (-1)) + (-1))), some (0, z237)]) c_163_33 rfl rfl ?_
                                                    refine n_iload c_163_35 rfl ?_
                                                    refine n_iconst c_163_37 ?_
                                                    refine n_if2_le c_163_38 (by omega) (by omega) ?_ ?_
                                                    · intro h239
                                                      exfalso; omega
                                                    · intro h240
                                                      refine n_iload c_163_41 rfl ?_
                                                      refine n_aload_n c_163_43 rfl ?_
                                                      refine n_getV (bi := 0) c_163_44 sc_112.n rfl rfl rfl (t_dm hS hdm) ?_
                                                      intro z241 ez241 f242
                                                      obtain rfl : z241 = 3 := by omega
                                                      refine n_imul c_163_47 rfl ?_
                                                      refine n_aload_n c_163_48 rfl ?_
                                                      refine n_getR c_163_49 sc_112.n rfl rfl rfl r_112_18 ?_
                                                      refine n_bipush c_163_52 rfl ?_
                                                      refine n_iload c_163_54 rfl ?_
                                                      refine n_imul c_163_56 rfl ?_
                                                      refine n_iload c_163_57 rfl ?_
                                                      refine n_iadd c_163_59 rfl ?_
                                                      refine n_ialoadV c_163_60 sc_126.n rfl rfl rfl (by omega) (t_126 hS (by omega)) ?_
                                                      intro z243 ez243 f244
                                                      refine n_iadd c_163_61 rfl ?_
                                                      refine n_istore (L2 := [some (2, 112), some (0, a), some (0, 9), some (0, x), some (0, y), some (0, w), some (0, s), some (0, z1), some (0, ((((((((((((((((0 * 3) + z128) * 3) + z143) * 3) + z158) * 3) + z173) * 3) + z188) * 3) + z203) * 3) + z218) * 3) + z233)), some (0, (((((((((9 - 1) + (-1)) + (-1)) + (-1)) + (-1)) + (-1)) + (-1)) + (-1)) + (-1))), some (0, ((z237 * 3) + z243))]) c_163_62 rfl rfl ?_
                                                      refine n_iload c_163_64 rfl ?_
                                                      refine n_iconst c_163_66 ?_
                                                      refine n_if2_le c_163_67 (by omega) (by omega) ?_ ?_
                                                      · intro h245
                                                        refine n_iload c_163_93 rfl ?_
                                                        refine n_aload_n c_163_95 rfl ?_
                                                        refine n_getV (bi := 0) c_163_96 sc_112.n rfl rfl rfl (t_dm hS hdm) ?_
                                                        intro z246 ez246 f247
                                                        obtain rfl : z246 = 3 := by omega
                                                        refine n_imul c_163_99 rfl ?_
                                                        refine n_aload_n c_163_100 rfl ?_
                                                        refine n_getR c_163_101 sc_112.n rfl rfl rfl r_112_6 ?_
                                                        refine n_bipush c_163_104 rfl ?_
                                                        refine n_iload_n c_163_106 rfl ?_
                                                        refine n_imul c_163_107 rfl ?_
                                                        refine n_iload c_163_108 rfl ?_
                                                        refine n_iadd c_163_110 rfl ?_
                                                        refine n_ialoadV c_163_111 sc_117.n rfl rfl rfl (by omega) (t_117 hS (by omega)) ?_
                                                        intro z248 ez248 f249
                                                        refine n_iadd c_163_112 rfl ?_
                                                        refine n_istore (L2 := [some (2, 112), some (0, a), some (0, 9), some (0, x), some (0, y), some (0, w), some (0, s), some (0, z1), some (0, ((((((((((((((((((0 * 3) + z128) * 3) + z143) * 3) + z158) * 3) + z173) * 3) + z188) * 3) + z203) * 3) + z218) * 3) + z233) * 3) + z248)), some (0, (((((((((9 - 1) + (-1)) + (-1)) + (-1)) + (-1)) + (-1)) + (-1)) + (-1)) + (-1))), some (0, ((z237 * 3) + z243))]) c_163_113 rfl rfl ?_
                                                        refine n_iinc (L2 := [some (2, 112), some (0, a), some (0, 9), some (0, x), some (0, y), some (0, w), some (0, s), some (0, z1), some (0, ((((((((((((((((((0 * 3) + z128) * 3) + z143) * 3) + z158) * 3) + z173) * 3) + z188) * 3) + z203) * 3) + z218) * 3) + z233) * 3) + z248)), some (0, ((((((((((9 - 1) + (-1)) + (-1)) + (-1)) + (-1)) + (-1)) + (-1)) + (-1)) + (-1)) + (-1))), some (0, ((z237 * 3) + z243))]) c_163_115 rfl rfl rfl ?_
                                                        refine n_goto c_163_118 ?_
                                                        refine n_iload c_163_16 rfl ?_
                                                        refine n_if0_lt c_163_18 (by omega) ?_ ?_
                                                        · intro h250
                                                          refine n_aload_n c_163_121 rfl ?_
                                                          refine n_getR c_163_122 sc_112.n rfl rfl rfl r_112_17 ?_
                                                          refine n_iload c_163_125 rfl ?_
                                                          refine n_ialoadV c_163_127 sc_125.n rfl rfl rfl (by omega) (t_125 hS (by omega)) ?_
                                                          intro z251 ez251 f252
                                                          refine n_if0_eq c_163_128 (by omega) ?_ ?_
                                                          · intro h253
                                                            refine n_fg (le_s (le_n (le_n (le_n (le_n (le_n (le_s (le_n (le_s (le_n (le_n le_0))))))))))) ?_
                                                            exact (mjoined9_3_c hS hdm ha hx hy hw hs 14).1 _ M hS (by omega) (by omega)
                                                          · intro h254
                                                            refine n_aload_n c_163_131 rfl ?_
                                                            refine n_getR c_163_132 sc_112.n rfl rfl rfl r_112_17 ?_
                                                            refine n_iload c_163_135 rfl ?_
                                                            refine n_ialoadV c_163_137 sc_125.n rfl rfl rfl (by omega) (t_125 hS (by omega)) ?_
                                                            intro z255 ez255 f256
                                                            refine n_iload c_163_138 rfl ?_
                                                            refine n_iconst c_163_140 ?_
                                                            refine n_iadd c_163_141 rfl ?_
                                                            refine n_if2_le c_163_142 (by omega) (by omega) ?_ ?_
                                                            · intro h257
                                                              refine n_fg (le_n (le_n (le_n (le_n (le_n (le_n (le_n (le_n (le_n (le_n (le_n le_0))))))))))) ?_
                                                              exact (mjoined9_3_c hS hdm ha hx hy hw hs 14).2  M hS  (by omega)
                                                            · intro h258
                                                              refine n_fg (le_s (le_n (le_n (le_n (le_n (le_n (le_s (le_n (le_s (le_n (le_n le_0))))))))))) ?_
                                                              exact (mjoined9_3_c hS hdm ha hx hy hw hs 14).1 _ M hS (by omega) (by omega)
                                                        · intro h259
                                                          exfalso; omega
                                                      · intro h260
                                                        exfalso; omega
                                                · intro h261
                                                  exfalso; omega
                                          · intro h262
                                            exfalso; omega
                                    · intro h263
                                      exfalso; omega
                              · intro h264
                                exfalso; omega
                        · intro h265
                          exfalso; omega
                  · intro h266
                    exfalso; omega
            · intro h267
              exfalso; omega
      · intro h268
        refine n_iload c_163_70 rfl ?_
        refine n_aload_n c_163_72 rfl ?_
        refine n_getV (bi := 0) c_163_73 sc_112.n rfl rfl rfl (t_dm hS hdm) ?_
        intro z269 ez269 f270
        obtain rfl : z269 = 3 := by omega
        refine n_imul c_163_76 rfl ?_
        refine n_aload_n c_163_77 rfl ?_
        refine n_getR c_163_78 sc_112.n rfl rfl rfl r_112_18 ?_
        refine n_bipush c_163_81 rfl ?_
        refine n_iload c_163_83 rfl ?_
        refine n_imul c_163_85 rfl ?_
        refine n_iload c_163_86 rfl ?_
        refine n_iadd c_163_88 rfl ?_
        refine n_ialoadV c_163_89 sc_126.n rfl rfl rfl (by omega) (t_126 hS (by omega)) ?_
        intro z271 ez271 f272
        refine n_iadd c_163_90 rfl ?_
        refine n_istore (L2 := [some (2, 112), some (0, a), some (0, 9), some (0, x), some (0, y), some (0, w), some (0, s), some (0, z1), some (0, 0), some (0, (9 - 1)), some (0, ((((z5 * 3) + z123) * 3) + z271))]) c_163_91 rfl rfl ?_
        refine n_iload c_163_93 rfl ?_
        refine n_aload_n c_163_95 rfl ?_
        refine n_getV (bi := 0) c_163_96 sc_112.n rfl rfl rfl (t_dm hS hdm) ?_
        intro z273 ez273 f274
        obtain rfl : z273 = 3 := by omega
        refine n_imul c_163_99 rfl ?_
        refine n_aload_n c_163_100 rfl ?_
        refine n_getR c_163_101 sc_112.n rfl rfl rfl r_112_6 ?_
        refine n_bipush c_163_104 rfl ?_
        refine n_iload_n c_163_106 rfl ?_
        refine n_imul c_163_107 rfl ?_
        refine n_iload c_163_108 rfl ?_
        refine n_iadd c_163_110 rfl ?_
        refine n_ialoadV c_163_111 sc_117.n rfl rfl rfl (by omega) (t_117 hS (by omega)) ?_
        intro z275 ez275 f276
        refine n_iadd c_163_112 rfl ?_
        refine n_istore (L2 := [some (2, 112), some (0, a), some (0, 9), some (0, x), some (0, y), some (0, w), some (0, s), some (0, z1), some (0, ((0 * 3) + z275)), some (0, (9 - 1)), some (0, ((((z5 * 3) + z123) * 3) + z271))]) c_163_113 rfl rfl ?_
        refine n_iinc (L2 := [some (2, 112), some (0, a), some (0, 9), some (0, x), some (0, y), some (0, w), some (0, s), some (0, z1), some (0, ((0 * 3) + z275)), some (0, ((9 - 1) + (-1))), some (0, ((((z5 * 3) + z123) * 3) + z271))]) c_163_115 rfl rfl rfl ?_
        refine n_goto c_163_118 ?_
        refine n_iload c_163_16 rfl ?_
        refine n_if0_lt c_163_18 (by omega) ?_ ?_
        · intro h277
          exfalso; omega
        · intro h278
          refine n_aload_n c_163_21 rfl ?_
          refine n_getR c_163_22 sc_112.n rfl rfl rfl r_112_18 ?_
          refine n_bipush c_163_25 rfl ?_
          refine n_iload_n c_163_27 rfl ?_
          refine n_imul c_163_28 rfl ?_
          refine n_iload c_163_29 rfl ?_
          refine n_iadd c_163_31 rfl ?_
          refine n_ialoadV c_163_32 sc_126.n rfl rfl rfl (by omega) (t_126 hS (by omega)) ?_
          intro z279 ez279 f280
          refine n_istore (L2 := [some (2, 112), some (0, a), some (0, 9), some (0, x), some (0, y), some (0, w), some (0, s), some (0, z1), some (0, ((0 * 3) + z275)), some (0, ((9 - 1) + (-1))), some (0, z279)]) c_163_33 rfl rfl ?_
          refine n_iload c_163_35 rfl ?_
          refine n_iconst c_163_37 ?_
          refine n_if2_le c_163_38 (by omega) (by omega) ?_ ?_
          · intro h281
            exfalso; omega
          · intro h282
            refine n_iload c_163_41 rfl ?_
            refine n_aload_n c_163_43 rfl ?_
            refine n_getV (bi := 0) c_163_44 sc_112.n rfl rfl rfl (t_dm hS hdm) ?_
            intro z283 ez283 f284
            obtain rfl : z283 = 3 := by omega
            refine n_imul c_163_47 rfl ?_
            refine n_aload_n c_163_48 rfl ?_
            refine n_getR c_163_49 sc_112.n rfl rfl rfl r_112_18 ?_
            refine n_bipush c_163_52 rfl ?_
            refine n_iload c_163_54 rfl ?_
            refine n_imul c_163_56 rfl ?_
            refine n_iload c_163_57 rfl ?_
            refine n_iadd c_163_59 rfl ?_
            refine n_ialoadV c_163_60 sc_126.n rfl rfl rfl (by omega) (t_126 hS (by omega)) ?_
            intro z285 ez285 f286
            refine n_iadd c_163_61 rfl ?_
            refine n_istore (L2 := [some (2, 112), some (0, a), some (0, 9), some (0, x), some (0, y), some (0, w), some (0, s), some (0, z1), some (0, ((0 * 3) + z275)), some (0, ((9 - 1) + (-1))), some (0, ((z279 * 3) + z285))]) c_163_62 rfl rfl ?_
            refine n_iload c_163_64 rfl ?_
            refine n_iconst c_163_66 ?_
            refine n_if2_le c_163_67 (by omega) (by omega) ?_ ?_
            · intro h287
              exfalso; omega
            · intro h288
              refine n_iload c_163_70 rfl ?_
              refine n_aload_n c_163_72 rfl ?_
              refine n_getV (bi := 0) c_163_73 sc_112.n rfl rfl rfl (t_dm hS hdm) ?_
              intro z289 ez289 f290
              obtain rfl : z289 = 3 := by omega
              refine n_imul c_163_76 rfl ?_
              refine n_aload_n c_163_77 rfl ?_
              refine n_getR c_163_78 sc_112.n rfl rfl rfl r_112_18 ?_
              refine n_bipush c_163_81 rfl ?_
              refine n_iload c_163_83 rfl ?_
              refine n_imul c_163_85 rfl ?_
              refine n_iload c_163_86 rfl ?_
              refine n_iadd c_163_88 rfl ?_
              refine n_ialoadV c_163_89 sc_126.n rfl rfl rfl (by omega) (t_126 hS (by omega)) ?_
              intro z291 ez291 f292
              refine n_iadd c_163_90 rfl ?_
              refine n_istore (L2 := [some (2, 112), some (0, a), some (0, 9), some (0, x), some (0, y), some (0, w), some (0, s), some (0, z1), some (0, ((0 * 3) + z275)), some (0, ((9 - 1) + (-1))), some (0, ((((z279 * 3) + z285) * 3) + z291))]) c_163_91 rfl rfl ?_
              refine n_iload c_163_93 rfl ?_
              refine n_aload_n c_163_95 rfl ?_
              refine n_getV (bi := 0) c_163_96 sc_112.n rfl rfl rfl (t_dm hS hdm) ?_
              intro z293 ez293 f294
              obtain rfl : z293 = 3 := by omega
              refine n_imul c_163_99 rfl ?_
              refine n_aload_n c_163_100 rfl ?_
              refine n_getR c_163_101 sc_112.n rfl rfl rfl r_112_6 ?_
              refine n_bipush c_163_104 rfl ?_
              refine n_iload_n c_163_106 rfl ?_
              refine n_imul c_163_107 rfl ?_
              refine n_iload c_163_108 rfl ?_
              refine n_iadd c_163_110 rfl ?_
              refine n_ialoadV c_163_111 sc_117.n rfl rfl rfl (by omega) (t_117 hS (by omega)) ?_
              intro z295 ez295 f296
              refine n_iadd c_163_112 rfl ?_
              refine n_istore (L2 := [some (2, 112), some (0, a), some (0, 9), some (0, x), some (0, y), some (0, w), some (0, s), some (0, z1), some (0, ((((0 * 3) + z275) * 3) + z295)), some (0, ((9 - 1) + (-1))), some (0, ((((z279 * 3) + z285) * 3) + z291))]) c_163_113 rfl rfl ?_
              refine n_iinc (L2 := [some (2, 112), some (0, a), some (0, 9), some (0, x), some (0, y), some (0, w), some (0, s), some (0, z1), some (0, ((((0 * 3) + z275) * 3) + z295)), some (0, (((9 - 1) + (-1)) + (-1))), some (0, ((((z279 * 3) + z285) * 3) + z291))]) c_163_115 rfl rfl rfl ?_
              refine n_goto c_163_118 ?_
              refine n_iload c_163_16 rfl ?_
              refine n_if0_lt c_163_18 (by omega) ?_ ?_
              · intro h297
                exfalso; omega
              · intro h298
                refine n_aload_n c_163_21 rfl ?_
                refine n_getR c_163_22 sc_112.n rfl rfl rfl r_112_18 ?_
                refine n_bipush c_163_25 rfl ?_
                refine n_iload_n c_163_27 rfl ?_
                refine n_imul c_163_28 rfl ?_
                refine n_iload c_163_29 rfl ?_
                refine n_iadd c_163_31 rfl ?_
                refine n_ialoadV c_163_32 sc_126.n rfl rfl rfl (by omega) (t_126 hS (by omega)) ?_
                intro z299 ez299 f300
                refine n_istore (L2 := [some (2, 112), some (0, a), some (0, 9), some (0, x), some (0, y), some (0, w), some (0, s), some (0, z1), some (0, ((((0 * 3) + z275) * 3) + z295)), some (0, (((9 - 1) + (-1)) + (-1))), some (0, z299)]) c_163_33 rfl rfl ?_
                refine n_iload c_163_35 rfl ?_
                refine n_iconst c_163_37 ?_
                refine n_if2_le c_163_38 (by omega) (by omega) ?_ ?_
                · intro h301
                  exfalso; omega
                · intro h302
                  refine n_iload c_163_41 rfl ?_
                  refine n_aload_n c_163_43 rfl ?_
                  refine n_getV (bi := 0) c_163_44 sc_112.n rfl rfl rfl (t_dm hS hdm) ?_
                  intro z303 ez303 f304
                  obtain rfl : z303 = 3 := by omega
                  refine n_imul c_163_47 rfl ?_
                  refine n_aload_n c_163_48 rfl ?_
                  refine n_getR c_163_49 sc_112.n rfl rfl rfl r_112_18 ?_
                  refine n_bipush c_163_52 rfl ?_
                  refine n_iload c_163_54 rfl ?_
                  refine n_imul c_163_56 rfl ?_
                  refine n_iload c_163_57 rfl ?_
                  refine n_iadd c_163_59 rfl ?_
                  refine n_ialoadV c_163_60 sc_126.n rfl rfl rfl (by omega) (t_126 hS (by omega)) ?_
                  intro z305 ez305 f306
                  refine n_iadd c_163_61 rfl ?_
                  refine n_istore (L2 := [some (2, 112), some (0, a), some (0, 9), some (0, x), some (0, y), some (0, w), some (0, s), some (0, z1), some (0, ((((0 * 3) + z275) * 3) + z295)), some (0, (((9 - 1) + (-1)) + (-1))), some (0, ((z299 * 3) + z305))]) c_163_62 rfl rfl ?_
                  refine n_iload c_163_64 rfl ?_
                  refine n_iconst c_163_66 ?_
                  refine n_if2_le c_163_67 (by omega) (by omega) ?_ ?_
                  · intro h307
                    exfalso; omega
                  · intro h308
                    refine n_iload c_163_70 rfl ?_
                    refine n_aload_n c_163_72 rfl ?_
                    refine n_getV (bi := 0) c_163_73 sc_112.n rfl rfl rfl (t_dm hS hdm) ?_
                    intro z309 ez309 f310
                    obtain rfl : z309 = 3 := by omega
                    refine n_imul c_163_76 rfl ?_
                    refine n_aload_n c_163_77 rfl ?_
                    refine n_getR c_163_78 sc_112.n rfl rfl rfl r_112_18 ?_
                    refine n_bipush c_163_81 rfl ?_
                    refine n_iload c_163_83 rfl ?_
                    refine n_imul c_163_85 rfl ?_
                    refine n_iload c_163_86 rfl ?_
                    refine n_iadd c_163_88 rfl ?_
                    refine n_ialoadV c_163_89 sc_126.n rfl rfl rfl (by omega) (t_126 hS (by omega)) ?_
                    intro z311 ez311 f312
                    refine n_iadd c_163_90 rfl ?_
                    refine n_istore (L2 := [some (2, 112), some (0, a), some (0, 9), some (0, x), some (0, y), some (0, w), some (0, s), some (0, z1), some (0, ((((0 * 3) + z275) * 3) + z295)), some (0, (((9 - 1) + (-1)) + (-1))), some (0, ((((z299 * 3) + z305) * 3) + z311))]) c_163_91 rfl rfl ?_
                    refine n_iload c_163_93 rfl ?_
                    refine n_aload_n c_163_95 rfl ?_
                    refine n_getV (bi := 0) c_163_96 sc_112.n rfl rfl rfl (t_dm hS hdm) ?_
                    intro z313 ez313 f314
                    obtain rfl : z313 = 3 := by omega
                    refine n_imul c_163_99 rfl ?_
                    refine n_aload_n c_163_100 rfl ?_
                    refine n_getR c_163_101 sc_112.n rfl rfl rfl r_112_6 ?_
                    refine n_bipush c_163_104 rfl ?_
                    refine n_iload_n c_163_106 rfl ?_
                    refine n_imul c_163_107 rfl ?_
                    refine n_iload c_163_108 rfl ?_
                    refine n_iadd c_163_110 rfl ?_
                    refine n_ialoadV c_163_111 sc_117.n rfl rfl rfl (by omega) (t_117 hS (by omega)) ?_
                    intro z315 ez315 f316
                    refine n_iadd c_163_112 rfl ?_
                    refine n_istore (L2 := [some (2, 112), some (0, a), some (0, 9), some (0, x), some (0, y), some (0, w), some (0, s), some (0, z1), some (0, ((((((0 * 3) + z275) * 3) + z295) * 3) + z315)), some (0, (((9 - 1) + (-1)) + (-1))), some (0, ((((z299 * 3) + z305) * 3) + z311))]) c_163_113 rfl rfl ?_
                    refine n_iinc (L2 := [some (2, 112), some (0, a), some (0, 9), some (0, x), some (0, y), some (0, w), some (0, s), some (0, z1), some (0, ((((((0 * 3) + z275) * 3) + z295) * 3) + z315)), some (0, ((((9 - 1) + (-1)) + (-1)) + (-1))), some (0, ((((z299 * 3) + z305) * 3) + z311))]) c_163_115 rfl rfl rfl ?_
                    refine n_goto c_163_118 ?_
                    refine n_iload c_163_16 rfl ?_
                    refine n_if0_lt c_163_18 (by omega) ?_ ?_
                    · intro h317
                      exfalso; omega
                    · intro h318
                      refine n_aload_n c_163_21 rfl ?_
                      refine n_getR c_163_22 sc_112.n rfl rfl rfl r_112_18 ?_
                      refine n_bipush c_163_25 rfl ?_
                      refine n_iload_n c_163_27 rfl ?_
                      refine n_imul c_163_28 rfl ?_
                      refine n_iload c_163_29 rfl ?_
                      refine n_iadd c_163_31 rfl ?_
                      refine n_ialoadV c_163_32 sc_126.n rfl rfl rfl (by omega) (t_126 hS (by omega)) ?_
                      intro z319 ez319 f320
                      refine n_istore (L2 := [some (2, 112), some (0, a), some (0, 9), some (0, x), some (0, y), some (0, w), some (0, s), some (0, z1), some (0, ((((((0 * 3) + z275) * 3) + z295) * 3) + z315)), some (0, ((((9 - 1) + (-1)) + (-1)) + (-1))), some (0, z319)]) c_163_33 rfl rfl ?_
                      refine n_iload c_163_35 rfl ?_
                      refine n_iconst c_163_37 ?_
                      refine n_if2_le c_163_38 (by omega) (by omega) ?_ ?_
                      · intro h321
                        exfalso; omega
                      · intro h322
                        refine n_iload c_163_41 rfl ?_
                        refine n_aload_n c_163_43 rfl ?_
                        refine n_getV (bi := 0) c_163_44 sc_112.n rfl rfl rfl (t_dm hS hdm) ?_
                        intro z323 ez323 f324
                        obtain rfl : z323 = 3 := by omega
                        refine n_imul c_163_47 rfl ?_
                        refine n_aload_n c_163_48 rfl ?_
                        refine n_getR c_163_49 sc_112.n rfl rfl rfl r_112_18 ?_
                        refine n_bipush c_163_52 rfl ?_
                        refine n_iload c_163_54 rfl ?_
                        refine n_imul c_163_56 rfl ?_
                        refine n_iload c_163_57 rfl ?_
                        refine n_iadd c_163_59 rfl ?_
                        refine n_ialoadV c_163_60 sc_126.n rfl rfl rfl (by omega) (t_126 hS (by omega)) ?_
                        intro z325 ez325 f326
                        refine n_iadd c_163_61 rfl ?_
                        refine n_istore (L2 := [some (2, 112), some (0, a), some (0, 9), some (0, x), some (0, y), some (0, w), some (0, s), some (0, z1), some (0, ((((((0 * 3) + z275) * 3) + z295) * 3) + z315)), some (0, ((((9 - 1) + (-1)) + (-1)) + (-1))), some (0, ((z319 * 3) + z325))]) c_163_62 rfl rfl ?_
                        refine n_iload c_163_64 rfl ?_
                        refine n_iconst c_163_66 ?_
                        refine n_if2_le c_163_67 (by omega) (by omega) ?_ ?_
                        · intro h327
                          exfalso; omega
                        · intro h328
                          refine n_iload c_163_70 rfl ?_
                          refine n_aload_n c_163_72 rfl ?_
                          refine n_getV (bi := 0) c_163_73 sc_112.n rfl rfl rfl (t_dm hS hdm) ?_
                          intro z329 ez329 f330
                          obtain rfl : z329 = 3 := by omega
                          refine n_imul c_163_76 rfl ?_
                          refine n_aload_n c_163_77 rfl ?_
                          refine n_getR c_163_78 sc_112.n rfl rfl rfl r_112_18 ?_
                          refine n_bipush c_163_81 rfl ?_
                          refine n_iload c_163_83 rfl ?_
                          refine n_imul c_163_85 rfl ?_
                          refine n_iload c_163_86 rfl ?_
                          refine n_iadd c_163_88 rfl ?_
                          refine n_ialoadV c_163_89 sc_126.n rfl rfl rfl (by omega) (t_126 hS (by omega)) ?_
                          intro z331 ez331 f332
                          refine n_iadd c_163_90 rfl ?_
                          refine n_istore (L2 := [some (2, 112), some (0, a), some (0, 9), some (0, x), some (0, y), some (0, w), some (0, s), some (0, z1), some (0, ((((((0 * 3) + z275) * 3) + z295) * 3) + z315)), some (0, ((((9 - 1) + (-1)) + (-1)) + (-1))), some (0, ((((z319 * 3) + z325) * 3) + z331))]) c_163_91 rfl rfl ?_
                          refine n_iload c_163_93 rfl ?_
                          refine n_aload_n c_163_95 rfl ?_
                          refine n_getV (bi := 0) c_163_96 sc_112.n rfl rfl rfl (t_dm hS hdm) ?_
                          intro z333 ez333 f334
                          obtain rfl : z333 = 3 := by omega
                          refine n_imul c_163_99 rfl ?_
                          refine n_aload_n c_163_100 rfl ?_
                          refine n_getR c_163_101 sc_112.n rfl rfl rfl r_112_6 ?_
                          refine n_bipush c_163_104 rfl ?_
                          refine n_iload_n c_163_106 rfl ?_
                          refine n_imul c_163_107 rfl ?_
                          refine n_iload c_163_108 rfl ?_
                          refine n_iadd c_163_110 rfl ?_
                          refine n_ialoadV c_163_111 sc_117.n rfl rfl rfl (by omega) (t_117 hS (by omega)) ?_
                          intro z335 ez335 f336
                          refine n_iadd c_163_112 rfl ?_
                          refine n_istore (L2 := [some (2, 112), some (0, a), some (0, 9), some (0, x), some (0, y), some (0, w), some (0, s), some (0, z1), some (0, ((((((((0 * 3) + z275) * 3) + z295) * 3) + z315) * 3) + z335)), some (0, ((((9 - 1) + (-1)) + (-1)) + (-1))), some (0, ((((z319 * 3) + z325) * 3) + z331))]) c_163_113 rfl rfl ?_
                          refine n_iinc (L2 := [some (2, 112), some (0, a), some (0, 9), some (0, x), some (0, y), some (0, w), some (0, s), some (0, z1), some (0, ((((((((0 * 3) + z275) * 3) + z295) * 3) + z315) * 3) + z335)), some (0, (((((9 - 1) + (-1)) + (-1)) + (-1)) + (-1))), some (0, ((((z319 * 3) + z325) * 3) + z331))]) c_163_115 rfl rfl rfl ?_
                          refine n_goto c_163_118 ?_
                          refine n_iload c_163_16 rfl ?_
                          refine n_if0_lt c_163_18 (by omega) ?_ ?_
                          · intro h337
                            exfalso; omega
                          · intro h338
                            refine n_aload_n c_163_21 rfl ?_
                            refine n_getR c_163_22 sc_112.n rfl rfl rfl r_112_18 ?_
                            refine n_bipush c_163_25 rfl ?_
                            refine n_iload_n c_163_27 rfl ?_
                            refine n_imul c_163_28 rfl ?_
                            refine n_iload c_163_29 rfl ?_
                            refine n_iadd c_163_31 rfl ?_
                            refine n_ialoadV c_163_32 sc_126.n rfl rfl rfl (by omega) (t_126 hS (by omega)) ?_
                            intro z339 ez339 f340
                            refine n_istore (L2 := [some (2, 112), some (0, a), some (0, 9), some (0, x), some (0, y), some (0, w), some (0, s), some (0, z1), some (0, ((((((((0 * 3) + z275) * 3) + z295) * 3) + z315) * 3) + z335)), some (0, (((((9 - 1) + (-1)) + (-1)) + (-1)) + (-1))), some (0, z339)]) c_163_33 rfl rfl ?_
                            refine n_iload c_163_35 rfl ?_
                            refine n_iconst c_163_37 ?_
                            refine n_if2_le c_163_38 (by omega) (by omega) ?_ ?_
                            · intro h341
                              exfalso; omega
                            · intro h342
                              refine n_iload c_163_41 rfl ?_
                              refine n_aload_n c_163_43 rfl ?_
                              refine n_getV (bi := 0) c_163_44 sc_112.n rfl rfl rfl (t_dm hS hdm) ?_
                              intro z343 ez343 f344
                              obtain rfl : z343 = 3 := by omega
                              refine n_imul c_163_47 rfl ?_
                              refine n_aload_n c_163_48 rfl ?_
                              refine n_getR c_163_49 sc_112.n rfl rfl rfl r_112_18 ?_
                              refine n_bipush c_163_52 rfl ?_
                              refine n_iload c_163_54 rfl ?_
                              refine n_imul c_163_56 rfl ?_
                              refine n_iload c_163_57 rfl ?_
                              refine n_iadd c_163_59 rfl ?_
                              refine n_ialoadV c_163_60 sc_126.n rfl rfl rfl (by omega) (t_126 hS (by omega)) ?_
                              intro z345 ez345 f346
                              refine n_iadd c_163_61 rfl ?_
                              refine n_istore (L2 := [some (2, 112), some (0, a), some (0, 9), some (0, x), some (0, y), some (0, w), some (0, s), some (0, z1), some (0, ((((((((0 * 3) + z275) * 3) + z295) * 3) + z315) * 3) + z335)), some (0, (((((9 - 1) + (-1)) + (-1)) + (-1)) + (-1))), some (0, ((z339 * 3) + z345))]) c_163_62 rfl rfl ?_
                              refine n_iload c_163_64 rfl ?_
                              refine n_iconst c_163_66 ?_
                              refine n_if2_le c_163_67 (by omega) (by omega) ?_ ?_
                              · intro h347
                                exfalso; omega
                              · intro h348
                                refine n_iload c_163_70 rfl ?_
                                refine n_aload_n c_163_72 rfl ?_
                                refine n_getV (bi := 0) c_163_73 sc_112.n rfl rfl rfl (t_dm hS hdm) ?_
                                intro z349 ez349 f350
                                obtain rfl : z349 = 3 := by omega
                                refine n_imul c_163_76 rfl ?_
                                refine n_aload_n c_163_77 rfl ?_
                                refine n_getR c_163_78 sc_112.n rfl rfl rfl r_112_18 ?_
                                refine n_bipush c_163_81 rfl ?_
                                refine n_iload c_163_83 rfl ?_
                                refine n_imul c_163_85 rfl ?_
                                refine n_iload c_163_86 rfl ?_
                                refine n_iadd c_163_88 rfl ?_
                                refine n_ialoadV c_163_89 sc_126.n rfl rfl rfl (by omega) (t_126 hS (by omega)) ?_
                                intro z351 ez351 f352
                                refine n_iadd c_163_90 rfl ?_
                                refine n_istore (L2 := [some (2, 112), some (0, a), some (0, 9), some (0, x), some (0, y), some (0, w), some (0, s), some (0, z1), some (0, ((((((((0 * 3) + z275) * 3) + z295) * 3) + z315) * 3) + z335)), some (0, (((((9 - 1) + (-1)) + (-1)) + (-1)) + (-1))), some (0, ((((z339 * 3) + z345) * 3) + z351))]) c_163_91 rfl rfl ?_
                                refine n_iload c_163_93 rfl ?_
                                refine n_aload_n c_163_95 rfl ?_
                                refine n_getV (bi := 0) c_163_96 sc_112.n rfl rfl rfl (t_dm hS hdm) ?_
                                intro z353 ez353 f354
                                obtain rfl : z353 = 3 := by omega
                                refine n_imul c_163_99 rfl ?_
                                refine n_aload_n c_163_100 rfl ?_
                                refine n_getR c_163_101 sc_112.n rfl rfl rfl r_112_6 ?_
                                refine n_bipush c_163_104 rfl ?_
                                refine n_iload_n c_163_106 rfl ?_
                                refine n_imul c_163_107 rfl ?_
                                refine n_iload c_163_108 rfl ?_
                                refine n_iadd c_163_110 rfl ?_
                                refine n_ialoadV c_163_111 sc_117.n rfl rfl rfl (by omega) (t_117 hS (by omega)) ?_
                                intro z355 ez355 f356
                                refine n_iadd c_163_112 rfl ?_
                                refine n_istore (L2 := [some (2, 112), some (0, a), some (0, 9), some (0, x), some (0, y), some (0, w), some (0, s), some (0, z1), some (0, ((((((((((0 * 3) + z275) * 3) + z295) * 3) + z315) * 3) + z335) * 3) + z355)), some (0, (((((9 - 1) + (-1)) + (-1)) + (-1)) + (-1))), some (0, ((((z339 * 3) + z345) * 3) + z351))]) c_163_113 rfl rfl ?_
                                refine n_iinc (L2 := [some (2, 112), some (0, a), some (0, 9), some (0, x), some (0, y), some (0, w), some (0, s), some (0, z1), some (0, ((((((((((0 * 3) + z275) * 3) + z295) * 3) + z315) * 3) + z335) * 3) + z355)), some (0, ((((((9 - 1) + (-1)) + (-1)) + (-1)) + (-1)) + (-1))), some (0, ((((z339 * 3) + z345) * 3) + z351))]) c_163_115 rfl rfl rfl ?_
                                refine n_goto c_163_118 ?_
                                refine n_iload c_163_16 rfl ?_
                                refine n_if0_lt c_163_18 (by omega) ?_ ?_
                                · intro h357
                                  exfalso; omega
                                · intro h358
                                  refine n_aload_n c_163_21 rfl ?_
                                  refine n_getR c_163_22 sc_112.n rfl rfl rfl r_112_18 ?_
                                  refine n_bipush c_163_25 rfl ?_
                                  refine n_iload_n c_163_27 rfl ?_
                                  refine n_imul c_163_28 rfl ?_
                                  refine n_iload c_163_29 rfl ?_
                                  refine n_iadd c_163_31 rfl ?_
                                  refine n_ialoadV c_163_32 sc_126.n rfl rfl rfl (by omega) (t_126 hS (by omega)) ?_
                                  intro z359 ez359 f360
                                  refine n_istore (L2 := [some (2, 112), some (0, a), some (0, 9), some (0, x), some (0, y), some (0, w), some (0, s), some (0, z1), some (0, ((((((((((0 * 3) + z275) * 3) + z295) * 3) + z315) * 3) + z335) * 3) + z355)), some (0, ((((((9 - 1) + (-1)) + (-1)) + (-1)) + (-1)) + (-1))), some (0, z359)]) c_163_33 rfl rfl ?_
                                  refine n_iload c_163_35 rfl ?_
                                  refine n_iconst c_163_37 ?_
                                  refine n_if2_le c_163_38 (by omega) (by omega) ?_ ?_
                                  · intro h361
                                    exfalso; omega
                                  · intro h362
                                    refine n_iload c_163_41 rfl ?_
                                    refine n_aload_n c_163_43 rfl ?_
                                    refine n_getV (bi := 0) c_163_44 sc_112.n rfl rfl rfl (t_dm hS hdm) ?_
                                    intro z363 ez363 f364
                                    obtain rfl : z363 = 3 := by omega
                                    refine n_imul c_163_47 rfl ?_
                                    refine n_aload_n c_163_48 rfl ?_
                                    refine n_getR c_163_49 sc_112.n rfl rfl rfl r_112_18 ?_
                                    refine n_bipush c_163_52 rfl ?_
                                    refine n_iload c_163_54 rfl ?_
                                    refine n_imul c_163_56 rfl ?_
                                    refine n_iload c_163_57 rfl ?_
                                    refine n_iadd c_163_59 rfl ?_
                                    refine n_ialoadV c_163_60 sc_126.n rfl rfl rfl (by omega) (t_126 hS (by omega)) ?_
                                    intro z365 ez365 f366
                                    refine n_iadd c_163_61 rfl ?_
                                    refine n_istore (L2 := [some (2, 112), some (0, a), some (0, 9), some (0, x), some (0, y), some (0, w), some (0, s), some (0, z1), some (0, ((((((((((0 * 3) + z275) * 3) + z295) * 3) + z315) * 3) + z335) * 3) + z355)), some (0, ((((((9 - 1) + (-1)) + (-1)) + (-1)) + (-1)) + (-1))), some (0, ((z359 * 3) + z365))]) c_163_62 rfl rfl ?_
                                    refine n_iload c_163_64 rfl ?_
                                    refine n_iconst c_163_66 ?_
                                    refine n_if2_le c_163_67 (by omega) (by omega) ?_ ?_
                                    · intro h367
                                      exfalso; omega
                                    · intro h368
                                      refine n_iload c_163_70 rfl ?_
                                      refine n_aload_n c_163_72 rfl ?_
                                      refine n_getV (bi := 0) c_163_73 sc_112.n rfl rfl rfl (t_dm hS hdm) ?_
                                      intro z369 ez369 f370
                                      obtain rfl : z369 = 3 := by omega
                                      refine n_imul c_163_76 rfl ?_
                                      refine n_aload_n c_163_77 rfl ?_
                                      refine n_getR c_163_78 sc_112.n rfl rfl rfl r_112_18 ?_
                                      refine n_bipush c_163_81 rfl ?_
                                      refine n_iload c_163_83 rfl ?_
                                      refine n_imul c_163_85 rfl ?_
                                      refine n_iload c_163_86 rfl ?_
                                      refine n_iadd c_163_88 rfl ?_
                                      refine n_ialoadV c_163_89 sc_126.n rfl rfl rfl (by omega) (t_126 hS (by omega)) ?_
                                      intro z371 ez371 f372
                                      refine n_iadd c_163_90 rfl ?_
                                      refine n_istore (L2 := [some (2, 112), some (0, a), some (0, 9), some (0, x), some (0, y), some (0, w), some (0, s), some (0, z1), some (0, ((((((((((0 * 3) + z275) * 3) + z295) * 3) + z315) * 3) + z335) * 3) + z355)), some (0, ((((((9 - 1) + (-1)) + (-1)) + (-1)) + (-1)) + (-1))), some (0, ((((z359 * 3) + z365) * 3) + z371))]) c_163_91 rfl rfl ?_
                                      refine n_iload c_163_93 rfl ?_
                                      refine n_aload_n c_163_95 rfl ?_
                                      refine n_getV (bi := 0) c_163_96 sc_112.n rfl rfl rfl (t_dm hS hdm) ?_
                                      intro z373 ez373 f374
                                      obtain rfl : z373 = 3 := by omega
                                      refine n_imul c_163_99 rfl ?_
                                      refine n_aload_n c_163_100 rfl ?_
                                      refine n_getR c_163_101 sc_112.n rfl rfl rfl r_112_6 ?_
                                      refine n_bipush c_163_104 rfl ?_
                                      refine n_iload_n c_163_106 rfl ?_
                                      refine n_imul c_163_107 rfl ?_
                                      refine n_iload c_163_108 rfl ?_
                                      refine n_iadd c_163_110 rfl ?_
                                      refine n_ialoadV c_163_111 sc_117.n rfl rfl rfl (by omega) (t_117 hS (by omega)) ?_
                                      intro z375 ez375 f376
                                      refine n_iadd c_163_112 rfl ?_
                                      refine n_istore (L2 := [some (2, 112), some (0, a), some (0, 9), some (0, x), some (0, y), some (0, w), some (0, s), some (0, z1), some (0, ((((((((((((0 * 3) + z275) * 3) + z295) * 3) + z315) * 3) + z335) * 3) + z355) * 3) + z375)), some (0, ((((((9 - 1) + (-1)) + (-1)) + (-1)) + (-1)) + (-1))), some (0, ((((z359 * 3) + z365) * 3) + z371))]) c_163_113 rfl rfl ?_
                                      refine n_iinc (L2 := [some (2, 112), some (0, a), some (0, 9), some (0, x), some (0, y), some (0, w), some (0, s), some (0, z1), some (0, ((((((((((((0 * 3) + z275) * 3) + z295) * 3) + z315) * 3) + z335) * 3) + z355) * 3) + z375)), some (0, (((((((9 - 1) + (-1)) + (-1)) + (-1)) + (-1)) + (-1)) + (-1))), some (0, ((((z359 * 3) + z365) * 3) + z371))]) c_163_115 rfl rfl rfl ?_
                                      refine n_goto c_163_118 ?_
                                      refine n_iload c_163_16 rfl ?_
                                      refine n_if0_lt c_163_18 (by omega) ?_ ?_
                                      · intro h377
                                        exfalso; omega
                                      · intro h378
                                        refine n_aload_n c_163_21 rfl ?_
                                        refine n_getR c_163_22 sc_112.n rfl rfl rfl r_112_18 ?_
                                        refine n_bipush c_163_25 rfl ?_
                                        refine n_iload_n c_163_27 rfl ?_
                                        refine n_imul c_163_28 rfl ?_
                                        refine n_iload c_163_29 rfl ?_
                                        refine n_iadd c_163_31 rfl ?_
                                        refine n_ialoadV c_163_32 sc_126.n rfl rfl rfl (by omega) (t_126 hS (by omega)) ?_
                                        intro z379 ez379 f380
                                        refine n_istore (L2 := [some (2, 112), some (0, a), some (0, 9), some (0, x), some (0, y), some (0, w), some (0, s), some (0, z1), some (0, ((((((((((((0 * 3) + z275) * 3) + z295) * 3) + z315) * 3) + z335) * 3) + z355) * 3) + z375)), some (0, (((((((9 - 1) + (-1)) + (-1)) + (-1)) + (-1)) + (-1)) + (-1))), some (0, z379)]) c_163_33 rfl rfl ?_
                                        refine n_iload c_163_35 rfl ?_
                                        refine n_iconst c_163_37 ?_
                                        refine n_if2_le c_163_38 (by omega) (by omega) ?_ ?_
                                        · intro h381
                                          exfalso; omega
                                        · intro h382
                                          refine n_iload c_163_41 rfl ?_
                                          refine n_aload_n c_163_43 rfl ?_
                                          refine n_getV (bi := 0) c_163_44 sc_112.n rfl rfl rfl (t_dm hS hdm) ?_
                                          intro z383 ez383 f384
                                          obtain rfl : z383 = 3 := by omega
                                          refine n_imul c_163_47 rfl ?_
                                          refine n_aload_n c_163_48 rfl ?_
                                          refine n_getR c_163_49 sc_112.n rfl rfl rfl r_112_18 ?_
                                          refine n_bipush c_163_52 rfl ?_
                                          refine n_iload c_163_54 rfl ?_
                                          refine n_imul c_163_56 rfl ?_
                                          refine n_iload c_163_57 rfl ?_
                                          refine n_iadd c_163_59 rfl ?_
                                          refine n_ialoadV c_163_60 sc_126.n rfl rfl rfl (by omega) (t_126 hS (by omega)) ?_
                                          intro z385 ez385 f386
                                          refine n_iadd c_163_61 rfl ?_
                                          refine n_istore (L2 := [some (2, 112), some (0, a), some (0, 9), some (0, x), some (0, y), some (0, w), some (0, s), some (0, z1), some (0, ((((((((((((0 * 3) + z275) * 3) + z295) * 3) + z315) * 3) + z335) * 3) + z355) * 3) + z375)), some (0, (((((((9 - 1) + (-1)) + (-1)) + (-1)) + (-1)) + (-1)) + (-1))), some (0, ((z379 * 3) + z385))]) c_163_62 rfl rfl ?_
                                          refine n_iload c_163_64 rfl ?_
                                          refine n_iconst c_163_66 ?_
                                          refine n_if2_le c_163_67 (by omega) (by omega) ?_ ?_
                                          · intro h387
                                            exfalso; omega
                                          · intro h388
                                            refine n_iload c_163_70 rfl ?_
                                            refine n_aload_n c_163_72 rfl ?_
                                            refine n_getV (bi := 0) c_163_73 sc_112.n rfl rfl rfl (t_dm hS hdm) ?_
                                            intro z389 ez389 f390
                                            obtain rfl : z389 = 3 := by omega
                                            refine n_imul c_163_76 rfl ?_
                                            refine n_aload_n c_163_77 rfl ?_
                                            refine n_getR c_163_78 sc_112.n rfl rfl rfl r_112_18 ?_
                                            refine n_bipush c_163_81 rfl ?_
                                            refine n_iload c_163_83 rfl ?_
                                            refine n_imul c_163_85 rfl ?_
                                            refine n_iload c_163_86 rfl ?_
                                            refine n_iadd c_163_88 rfl ?_
                                            refine n_ialoadV c_163_89 sc_126.n rfl rfl rfl (by omega) (t_126 hS (by omega)) ?_
                                            intro z391 ez391 f392
                                            refine n_iadd c_163_90 rfl ?_
                                            refine n_istore (L2 := [some (2, 112), some (0, a), some (0, 9), some (0, x), some (0, y), some (0, w), some (0, s), some (0, z1), some (0, ((((((((((((0 * 3) + z275) * 3) + z295) * 3) + z315) * 3) + z335) * 3) + z355) * 3) + z375)), some (0, (((((((9 - 1) + (-1)) + (-1)) + (-1)) + (-1)) + (-1)) + (-1))), some (0, ((((z379 * 3) + z385) * 3) + z391))]) c_163_91 rfl rfl ?_
                                            refine n_iload c_163_93 rfl ?_
                                            refine n_aload_n c_163_95 rfl ?_
                                            refine n_getV (bi := 0) c_163_96 sc_112.n rfl rfl rfl (t_dm hS hdm) ?_
                                            intro z393 ez393 f394
                                            obtain rfl : z393 = 3 := by omega
                                            refine n_imul c_163_99 rfl ?_
                                            refine n_aload_n c_163_100 rfl ?_
                                            refine n_getR c_163_101 sc_112.n rfl rfl rfl r_112_6 ?_
                                            refine n_bipush c_163_104 rfl ?_
                                            refine n_iload_n c_163_106 rfl ?_
                                            refine n_imul c_163_107 rfl ?_
                                            refine n_iload c_163_108 rfl ?_
                                            refine n_iadd c_163_110 rfl ?_
                                            refine n_ialoadV c_163_111 sc_117.n rfl rfl rfl (by omega) (t_117 hS (by omega)) ?_
                                            intro z395 ez395 f396
                                            refine n_iadd c_163_112 rfl ?_
                                            refine n_istore (L2 := [some (2, 112), some (0, a), some (0, 9), some (0, x), some (0, y), some (0, w), some (0, s), some (0, z1), some (0, ((((((((((((((0 * 3) + z275) * 3) + z295) * 3) + z315) * 3) + z335) * 3) + z355) * 3) + z375) * 3) + z395)), some (0, (((((((9 - 1) + (-1)) + (-1)) + (-1)) + (-1)) + (-1)) + (-1))), some (0, ((((z379 * 3) + z385) * 3) + z391))]) c_163_113 rfl rfl ?_
                                            refine n_iinc (L2 := [some (2, 112), some (0, a), some (0, 9), some (0, x), some (0, y), some (0, w), some (0, s), some (0, z1), some (0, ((((((((((((((0 * 3) + z275) * 3) + z295) * 3) + z315) * 3) + z335) * 3) + z355) * 3) + z375) * 3) + z395)), some (0, ((((((((9 - 1) + (-1)) + (-1)) + (-1)) + (-1)) + (-1)) + (-1)) + (-1))), some (0, ((((z379 * 3) + z385) * 3) + z391))]) c_163_115 rfl rfl rfl ?_
                                            refine n_goto c_163_118 ?_
                                            refine n_iload c_163_16 rfl ?_
                                            refine n_if0_lt c_163_18 (by omega) ?_ ?_
                                            · intro h397
                                              exfalso; omega
                                            · intro h398
                                              refine n_aload_n c_163_21 rfl ?_
                                              refine n_getR c_163_22 sc_112.n rfl rfl rfl r_112_18 ?_
                                              refine n_bipush c_163_25 rfl ?_
                                              refine n_iload_n c_163_27 rfl ?_
                                              refine n_imul c_163_28 rfl ?_
                                              refine n_iload c_163_29 rfl ?_
                                              refine n_iadd c_163_31 rfl ?_
                                              refine n_ialoadV c_163_32 sc_126.n rfl rfl rfl (by omega) (t_126 hS (by omega)) ?_
                                              intro z399 ez399 f400
                                              refine n_istore (L2 := [some (2, 112), some (0, a), some (0, 9), some (0, x), some (0, y), some (0, w), some (0, s), some (0, z1), some (0, ((((((((((((((0 * 3) + z275) * 3) + z295) * 3) + z315) * 3) + z335) * 3) + z355) * 3) + z375) * 3) + z395)), some (0, ((((((((9 - 1) + (-1)) + (-1)) + (-1)) + (-1)) + (-1)) + (-1)) + (-1))), some (0, z399)]) c_163_33 rfl rfl ?_
                                              refine n_iload c_163_35 rfl ?_
                                              refine n_iconst c_163_37 ?_
                                              refine n_if2_le c_163_38 (by omega) (by omega) ?_ ?_
                                              · intro h401
                                                exfalso; omega
                                              · intro h402
                                                refine n_iload c_163_41 rfl ?_
                                                refine n_aload_n c_163_43 rfl ?_
                                                refine n_getV (bi := 0) c_163_44 sc_112.n rfl rfl rfl (t_dm hS hdm) ?_
                                                intro z403 ez403 f404
                                                obtain rfl : z403 = 3 := by omega
                                                refine n_imul c_163_47 rfl ?_
                                                refine n_aload_n c_163_48 rfl ?_
                                                refine n_getR c_163_49 sc_112.n rfl rfl rfl r_112_18 ?_
                                                refine n_bipush c_163_52 rfl ?_
                                                refine n_iload c_163_54 rfl ?_
                                                refine n_imul c_163_56 rfl ?_
                                                refine n_iload c_163_57 rfl ?_
                                                refine n_iadd c_163_59 rfl ?_
                                                refine n_ialoadV c_163_60 sc_126.n rfl rfl rfl (by omega) (t_126 hS (by omega)) ?_
                                                intro z405 ez405 f406
                                                refine n_iadd c_163_61 rfl ?_
                                                refine n_istore (L2 := [some (2, 112), some (0, a), some (0, 9), some (0, x), some (0, y), some (0, w), some (0, s), some (0, z1), some (0, ((((((((((((((0 * 3) + z275) * 3) + z295) * 3) + z315) * 3) + z335) * 3) + z355) * 3) + z375) * 3) + z395)), some (0, ((((((((9 - 1) + (-1)) + (-1)) + (-1)) + (-1)) + (-1)) + (-1)) + (-1))), some (0, ((z399 * 3) + z405))]) c_163_62 rfl rfl ?_
                                                refine n_iload c_163_64 rfl ?_
                                                refine n_iconst c_163_66 ?_
                                                refine n_if2_le c_163_67 (by omega) (by omega) ?_ ?_
                                                · intro h407
                                                  exfalso; omega
                                                · intro h408
                                                  refine n_iload c_163_70 rfl ?_
                                                  refine n_aload_n c_163_72 rfl ?_
                                                  refine n_getV (bi := 0) c_163_73 sc_112.n rfl rfl rfl (t_dm hS hdm) ?_
                                                  intro z409 ez409 f410
                                                  obtain rfl : z409 = 3 := by omega
                                                  refine n_imul c_163_76 rfl ?_
                                                  refine n_aload_n c_163_77 rfl ?_
                                                  refine n_getR c_163_78 sc_112.n rfl rfl rfl r_112_18 ?_
                                                  refine n_bipush c_163_81 rfl ?_
                                                  refine n_iload c_163_83 rfl ?_
                                                  refine n_imul c_163_85 rfl ?_
                                                  refine n_iload c_163_86 rfl ?_
                                                  refine n_iadd c_163_88 rfl ?_
                                                  refine n_ialoadV c_163_89 sc_126.n rfl rfl rfl (by omega) (t_126 hS (by omega)) ?_
                                                  intro z411 ez411 f412
                                                  refine n_iadd c_163_90 rfl ?_
                                                  refine n_istore (L2 := [some (2, 112), some (0, a), some (0, 9), some (0, x), some (0, y), some (0, w), some (0, s), some (0, z1), some (0, ((((((((((((((0 * 3) + z275) * 3) + z295) * 3) + z315) * 3) + z335) * 3) + z355) * 3) + z375) * 3) + z395)), some (0, ((((((((9 - 1) + (-1)) + (-1)) + (-1)) + (-1)) + (-1)) + (-1)) + (-1))), some (0, ((((z399 * 3) + z405) * 3) + z411))]) c_163_91 rfl rfl ?_
                                                  refine n_iload c_163_93 rfl ?_
                                                  refine n_aload_n c_163_95 rfl ?_
                                                  refine n_getV (bi := 0) c_163_96 sc_112.n rfl rfl rfl (t_dm hS hdm) ?_
                                                  intro z413 ez413 f414
                                                  obtain rfl : z413 = 3 := by omega
                                                  refine n_imul c_163_99 rfl ?_
                                                  refine n_aload_n c_163_100 rfl ?_
                                                  refine n_getR c_163_101 sc_112.n rfl rfl rfl r_112_6 ?_
                                                  refine n_bipush c_163_104 rfl ?_
                                                  refine n_iload_n c_163_106 rfl ?_
                                                  refine n_imul c_163_107 rfl ?_
                                                  refine n_iload c_163_108 rfl ?_
                                                  refine n_iadd c_163_110 rfl ?_
                                                  refine n_ialoadV c_163_111 sc_117.n rfl rfl rfl (by omega) (t_117 hS (by omega)) ?_
                                                  intro z415 ez415 f416
                                                  refine n_iadd c_163_112 rfl ?_
                                                  refine n_istore (L2 := [some (2, 112), some (0, a), some (0, 9), some (0, x), some (0, y), some (0, w), some (0, s), some (0, z1), some (0, ((((((((((((((((0 * 3) + z275) * 3) + z295) * 3) + z315) * 3) + z335) * 3) + z355) * 3) + z375) * 3) + z395) * 3) + z415)), some (0, ((((((((9 - 1) + (-1)) + (-1)) + (-1)) + (-1)) + (-1)) + (-1)) + (-1))), some (0, ((((z399 * 3) + z405) * 3) + z411))]) c_163_113 rfl rfl ?_
                                                  refine n_iinc (L2 := [some (2, 112), some (0, a), some (0, 9), some (0, x), some (0, y), some (0, w), some (0, s), some (0, z1), some (0, ((((((((((((((((0 * 3) + z275) * 3) + z295) * 3) + z315) * 3) + z335) * 3) + z355) * 3) + z375) * 3) + z395) * 3) + z415)), some (0, (((((((((9 - 1) + (-1)) + (-1)) + (-1)) + (-1)) + (-1)) + (-1)) + (-1)) + (-1))), some (0, ((((z399 * 3) + z405) * 3) + z411))]) c_163_115 rfl rfl rfl ?_
                                                  refine n_goto c_163_118 ?_
                                                  refine n_iload c_163_16 rfl ?_
                                                  refine n_if0_lt c_163_18 (by omega) ?_ ?_
                                                  · intro h417
                                                    exfalso; omega
                                                  · intro h418
                                                    refine n_aload_n c_163_21 rfl ?_
                                                    refine n_getR c_163_22 sc_112.n rfl rfl rfl r_112_18 ?_
                                                    refine n_bipush c_163_25 rfl ?_
                                                    refine n_iload_n c_163_27 rfl ?_
                                                    refine n_imul c_163_28 rfl ?_
                                                    refine n_iload c_163_29 rfl ?_
                                                    refine n_iadd c_163_31 rfl ?_
                                                    refine n_ialoadV c_163_32 sc_126.n rfl rfl rfl (by omega) (t_126 hS (by omega)) ?_
                                                    intro z419 ez419 f420
                                                    refine n_istore (L2 := [some (2, 112), some (0, a), some (0, 9), some (0, x), some (0, y), some (0, w), some (0, s), some (0, z1), some (0, ((((((((((((((((0 * 3) + z275) * 3) + z295) * 3) + z315) * 3) + z335) * 3) + z355) * 3) + z375) * 3) + z395) * 3) + z415)), some (0, (((((((((9 - 1) + (-1)) + (-1)) + (-1)) + (-1)) + (-1)) + (-1)) + (-1)) + (-1))), some (0, z419)]) c_163_33 rfl rfl ?_
                                                    refine n_iload c_163_35 rfl ?_
                                                    refine n_iconst c_163_37 ?_
                                                    refine n_if2_le c_163_38 (by omega) (by omega) ?_ ?_
                                                    · intro h421
                                                      exfalso; omega
                                                    · intro h422
                                                      refine n_iload c_163_41 rfl ?_
                                                      refine n_aload_n c_163_43 rfl ?_
                                                      refine n_getV (bi := 0) c_163_44 sc_112.n rfl rfl rfl (t_dm hS hdm) ?_
                                                      intro z423 ez423 f424
                                                      obtain rfl : z423 = 3 := by omega
                                                      refine n_imul c_163_47 rfl ?_
                                                      refine n_aload_n c_163_48 rfl ?_
                                                      refine n_getR c_163_49 sc_112.n rfl rfl rfl r_112_18 ?_
                                                      refine n_bipush c_163_52 rfl ?_
                                                      refine n_iload c_163_54 rfl ?_
                                                      refine n_imul c_163_56 rfl ?_
                                                      refine n_iload c_163_57 rfl ?_
                                                      refine n_iadd c_163_59 rfl ?_
                                                      refine n_ialoadV c_163_60 sc_126.n rfl rfl rfl (by omega) (t_126 hS (by omega)) ?_
                                                      intro z425 ez425 f426
                                                      refine n_iadd c_163_61 rfl ?_
                                                      refine n_istore (L2 := [some (2, 112), some (0, a), some (0, 9), some (0, x), some (0, y), some (0, w), some (0, s), some (0, z1), some (0, ((((((((((((((((0 * 3) + z275) * 3) + z295) * 3) + z315) * 3) + z335) * 3) + z355) * 3) + z375) * 3) + z395) * 3) + z415)), some (0, (((((((((9 - 1) + (-1)) + (-1)) + (-1)) + (-1)) + (-1)) + (-1)) + (-1)) + (-1))), some (0, ((z419 * 3) + z425))]) c_163_62 rfl rfl ?_
                                                      refine n_iload c_163_64 rfl ?_
                                                      refine n_iconst c_163_66 ?_
                                                      refine n_if2_le c_163_67 (by omega) (by omega) ?_ ?_
                                                      · intro h427
                                                        exfalso; omega
                                                      · intro h428
                                                        refine n_iload c_163_70 rfl ?_
                                                        refine n_aload_n c_163_72 rfl ?_
                                                        refine n_getV (bi := 0) c_163_73 sc_112.n rfl rfl rfl (t_dm hS hdm) ?_
                                                        intro z429 ez429 f430
                                                        obtain rfl : z429 = 3 := by omega
                                                        refine n_imul c_163_76 rfl ?_
                                                        refine n_aload_n c_163_77 rfl ?_
                                                        refine n_getR c_163_78 sc_112.n rfl rfl rfl r_112_18 ?_
                                                        refine n_bipush c_163_81 rfl ?_
                                                        refine n_iload c_163_83 rfl ?_
                                                        refine n_imul c_163_85 rfl ?_
                                                        refine n_iload c_163_86 rfl ?_
                                                        refine n_iadd c_163_88 rfl ?_
                                                        refine n_ialoadV c_163_89 sc_126.n rfl rfl rfl (by omega) (t_126 hS (by omega)) ?_
                                                        intro z431 ez431 f432
                                                        refine n_iadd c_163_90 rfl ?_
                                                        refine n_istore (L2 := [some (2, 112), some (0, a), some (0, 9), some (0, x), some (0, y), some (0, w), some (0, s), some (0, z1), some (0, ((((((((((((((((0 * 3) + z275) * 3) + z295) * 3) + z315) * 3) + z335) * 3) + z355) * 3) + z375) * 3) + z395) * 3) + z415)), some (0, (((((((((9 - 1) + (-1)) + (-1)) + (-1)) + (-1)) + (-1)) + (-1)) + (-1)) + (-1))), some (0, ((((z419 * 3) + z425) * 3) + z431))]) c_163_91 rfl rfl ?_
                                                        refine n_iload c_163_93 rfl ?_
                                                        refine n_aload_n c_163_95 rfl ?_
                                                        refine n_getV (bi := 0) c_163_96 sc_112.n rfl rfl rfl (t_dm hS hdm) ?_
                                                        intro z433 ez433 f434
                                                        obtain rfl : z433 = 3 := by omega
                                                        refine n_imul c_163_99 rfl ?_
                                                        refine n_aload_n c_163_100 rfl ?_
                                                        refine n_getR c_163_101 sc_112.n rfl rfl rfl r_112_6 ?_
                                                        refine n_bipush c_163_104 rfl ?_
                                                        refine n_iload_n c_163_106 rfl ?_
                                                        refine n_imul c_163_107 rfl ?_
                                                        refine n_iload c_163_108 rfl ?_
                                                        refine n_iadd c_163_110 rfl ?_
                                                        refine n_ialoadV c_163_111 sc_117.n rfl rfl rfl (by omega) (t_117 hS (by omega)) ?_
                                                        intro z435 ez435 f436
                                                        refine n_iadd c_163_112 rfl ?_
                                                        refine n_istore (L2 := [some (2, 112), some (0, a), some (0, 9), some (0, x), some (0, y), some (0, w), some (0, s), some (0, z1), some (0, ((((((((((((((((((0 * 3) + z275) * 3) + z295) * 3) + z315) * 3) + z335) * 3) + z355) * 3) + z375) * 3) + z395) * 3) + z415) * 3) + z435)), some (0, (((((((((9 - 1) + (-1)) + (-1)) + (-1)) + (-1)) + (-1)) + (-1)) + (-1)) + (-1))), some (0, ((((z419 * 3) + z425) * 3) + z431))]) c_163_113 rfl rfl ?_
                                                        refine n_iinc (L2 := [some (2, 112), some (0, a), some (0, 9), some (0, x), some (0, y), some (0, w), some (0, s), some (0, z1), some (0, ((((((((((((((((((0 * 3) + z275) * 3) + z295) * 3) + z315) * 3) + z335) * 3) + z355) * 3) + z375) * 3) + z395) * 3) + z415) * 3) + z435)), some (0, ((((((((((9 - 1) + (-1)) + (-1)) + (-1)) + (-1)) + (-1)) + (-1)) + (-1)) + (-1)) + (-1))), some (0, ((((z419 * 3) + z425) * 3) + z431))]) c_163_115 rfl rfl rfl ?_
                                                        refine n_goto c_163_118 ?_
                                                        refine n_iload c_163_16 rfl ?_
                                                        refine n_if0_lt c_163_18 (by omega) ?_ ?_
                                                        · intro h437
                                                          refine n_aload_n c_163_121 rfl ?_
                                                          refine n_getR c_163_122 sc_112.n rfl rfl rfl r_112_17 ?_
                                                          refine n_iload c_163_125 rfl ?_
                                                          refine n_ialoadV c_163_127 sc_125.n rfl rfl rfl (by omega) (t_125 hS (by omega)) ?_
                                                          intro z438 ez438 f439
                                                          refine n_if0_eq c_163_128 (by omega) ?_ ?_
                                                          · intro h440
                                                            refine n_fg (le_s (le_n (le_n (le_n (le_n (le_n (le_s (le_n (le_s (le_n (le_n le_0))))))))))) ?_
                                                            exact (mjoined9_3_c hS hdm ha hx hy hw hs 14).1 _ M hS (by omega) (by omega)
                                                          · intro h441
                                                            refine n_aload_n c_163_131 rfl ?_
                                                            refine n_getR c_163_132 sc_112.n rfl rfl rfl r_112_17 ?_
                                                            refine n_iload c_163_135 rfl ?_
                                                            refine n_ialoadV c_163_137 sc_125.n rfl rfl rfl (by omega) (t_125 hS (by omega)) ?_
                                                            intro z442 ez442 f443
                                                            refine n_iload c_163_138 rfl ?_
                                                            refine n_iconst c_163_140 ?_
                                                            refine n_iadd c_163_141 rfl ?_
                                                            refine n_if2_le c_163_142 (by omega) (by omega) ?_ ?_
                                                            · intro h444
                                                              refine n_fg (le_n (le_n (le_n (le_n (le_n (le_n (le_n (le_n (le_n (le_n (le_n le_0))))))))))) ?_
                                                              exact (mjoined9_3_c hS hdm ha hx hy hw hs 14).2  M hS  (by omega)
                                                            · intro h445
                                                              refine n_fg (le_s (le_n (le_n (le_n (le_n (le_n (le_s (le_n (le_s (le_n (le_n le_0))))))))))) ?_
                                                              exact (mjoined9_3_c hS hdm ha hx hy hw hs 14).1 _ M hS (by omega) (by omega)
                                                        · intro h446
                                                          exfalso; omega

set_option maxHeartbeats 4000000 in
theorem mjoins3_3_c {xs : List Int32} {e : Nat} {ac : Int} {M0 M : nM} {n t : Int} (hS : Sf 3 ac M0 M) (hdm : M0 112 0 = 3) (hn : 1 ≤ n ∧ n ≤ 2) (ht : 0 ≤ t ∧ t ≤ 255) : ∀ nn : Nat, (∀ (x4 x5 : Int) (M : nM), Sf 3 ac M0 M → (0 ≤ x4 ∧ x4 ≤ 1000000) → (0 ≤ x5 ∧ x5 ≤ 8) → (8 - x5) * 67082 + 67082 < (nn : Int) → nW xs (e + 1) 165 11 [some (2, 112), some (0, n), some (0, 3), some (0, t), some (0, x4), some (0, x5), none, none, none, none] [] M (nPV fun M1 => Sf 3 ac M0 M1)) ∧ (∀ (x4 x5 x6 : Int) (M : nM), Sf 3 ac M0 M → (0 ≤ x4 ∧ x4 ≤ 1000000) → (0 ≤ x5 ∧ x5 ≤ 7) → (0 ≤ x6 ∧ x6 ≤ 256) → (8 - x5) * 67082 + (256 - x6) * 260 + 261 < (nn : Int) → nW xs (e + 1) 165 56 [some (2, 112), some (0, n), some (0, 3), some (0, t), some (0, x4), some (0, x5), some (0, x6), none, none, none] [] M (nPV fun M1 => Sf 3 ac M0 M1)) ∧ (∀ (x4 x5 x6 x7 x8 : Int) (M : nM), Sf 3 ac M0 M → (0 ≤ x4 ∧ x4 ≤ 1000000) → (0 ≤ x5 ∧ x5 ≤ 7) → (0 ≤ x6 ∧ x6 ≤ 255) → (1 ≤ x7 ∧ x7 ≤ 1000000) → (0 ≤ x8 ∧ x8 ≤ 256) → (8 - x5) * 67082 + (256 - x6) * 260 + (256 - x8) * 1 + 3 < (nn : Int) → nW xs (e + 1) 165 124 [some (2, 112), some (0, n), some (0, 3), some (0, t), some (0, x4), some (0, x5), some (0, x6), some (0, x7), some (0, x8), none] [] M (nPV fun M1 => Sf 3 ac M0 M1)) ∧ (∀ (x4 x5 x6 : Int) (M : nM), Sf 3 ac M0 M → (0 ≤ x4 ∧ x4 ≤ 1000000) → (0 ≤ x5 ∧ x5 ≤ 7) → (0 ≤ x6 ∧ x6 ≤ 255) → (8 - x5) * 67082 + (256 - x6) * 260 + 2 < (nn : Int) → nW xs (e + 1) 165 195 [some (2, 112), some (0, n), some (0, 3), some (0, t), some (0, x4), some (0, x5), some (0, x6), none, none, none] [] M (nPV fun M1 => Sf 3 ac M0 M1)) ∧ (∀ (x4 x5 : Int) (M : nM), Sf 3 ac M0 M → (0 ≤ x4 ∧ x4 ≤ 1000000) → (0 ≤ x5 ∧ x5 ≤ 7) → (8 - x5) * 67082 + 1 < (nn : Int) → nW xs (e + 1) 165 201 [some (2, 112), some (0, n), some (0, 3), some (0, t), some (0, x4), some (0, x5), none, none, none, none] [] M (nPV fun M1 => Sf 3 ac M0 M1)) := by
  have hd : (3 : Int) = 2 ∨ (3 : Int) = 3 := by decide
  have hac := hS.2.2.2.2
  intro nn
  induction nn with
  | zero => refine ⟨?_, ?_, ?_, ?_, ?_⟩ <;> (intros; omega)
  | succ nn ih =>
    refine ⟨?_, ?_, ?_, ?_, ?_⟩
    · intro x4 x5 M hS k4 k5 hnn
      refine n_iload c_165_11 rfl ?_
      refine n_aload_n c_165_13 rfl ?_
      refine n_getV (bi := 4) c_165_14 sc_112.n rfl rfl rfl (t_112_4 hS) ?_
      intro z1 ez1 f2
      refine n_if2_ge c_165_17 (by omega) (by omega) ?_ ?_
      · intro h3
        exact n_rV c_165_207 rfl hS
      · intro h4
        refine n_aload_n c_165_20 rfl ?_
        refine n_getR c_165_21 sc_112.n rfl rfl rfl r_112_5 ?_
        refine n_iload c_165_24 rfl ?_
        refine n_ialoadV c_165_26 sc_116.n rfl rfl rfl (by omega) (t_116 hS (by omega)) ?_
        intro z5 ez5 f6
        refine n_iconst c_165_27 ?_
        refine n_if2_ne c_165_28 (by omega) (by omega) ?_ ?_
        · intro h7
          refine n_iconst c_165_53 ?_
          refine n_istore (L2 := [some (2, 112), some (0, n), some (0, 3), some (0, t), some (0, x4), some (0, x5), some (0, 0), none, none, none]) c_165_54 rfl rfl ?_
          refine n_fg (le_s (le_s (le_s (le_s (le_s (le_s (le_s (le_n (le_n (le_n le_0)))))))))) ?_
          exact ih.2.1 _ _ _ M hS (by omega) (by omega) (by omega) (by omega)
        · intro h8
          refine n_aload_n c_165_31 rfl ?_
          refine n_iload c_165_32 rfl ?_
          refine n_iload_n c_165_34 rfl ?_
          refine n_iload_n c_165_35 rfl ?_
          refine n_iconst c_165_36 ?_
          refine n_iconst c_165_37 ?_
          refine n_ldc (n := 1000000) c_165_38 rfl ?_
          refine n_iload c_165_40 rfl ?_
          refine n_iconst c_165_42 ?_
          refine n_iadd c_165_43 rfl ?_
          refine n_s2I c_165_44 rfl rfl rfl rfl (imin_3 (x := 1000000) (y := (x4 + 1)) hS (by omega) (by omega)) ?_
          intro z9 M10 hP11
          obtain ⟨eM, f11, f11p0⟩ := hP11
          subst eM
          refine n_v6V c_165_47 rfl sc_112.n rfl rfl rfl rfl (mjoined3_3 (a := x5) (x := t) (y := 0) (w := 0) (s := z9) hS hdm (by omega) (by omega) (by omega) (by omega) (by omega)) ?_
          intro  M12 hP13
          have hS12 := hP13
          refine n_goto c_165_50 ?_
          refine n_fg (le_s (le_s (le_s (le_s (le_s (le_s (le_n (le_n (le_n (le_n le_0)))))))))) ?_
          exact ih.2.2.2.2 _ _ M12 hS12 (by omega) (by omega) (by omega)
    · intro x4 x5 x6 M hS k4 k5 k6 hnn
      refine n_iload c_165_56 rfl ?_
      refine n_iload_n c_165_58 rfl ?_
      refine n_if2_gt c_165_59 (by omega) (by omega) ?_ ?_
      · intro h1
        refine n_fg (le_s (le_s (le_s (le_s (le_s (le_s (le_n (le_n (le_n (le_n le_0)))))))))) ?_
        exact ih.2.2.2.2 _ _ M hS (by omega) (by omega) (by omega)
      · intro h2
        refine n_ldc (n := 1000000) c_165_62 rfl ?_
        refine n_iload c_165_64 rfl ?_
        refine n_aload_n c_165_66 rfl ?_
        refine n_iload_n c_165_67 rfl ?_
        refine n_iload c_165_68 rfl ?_
        refine n_v2I c_165_70 rfl sc_112.n rfl rfl rfl rfl (msizeOf_3 (n := n) (i := x6) hS hdm (by omega) (by omega)) ?_
        intro z3 M4 hP5
        obtain ⟨eM, f5⟩ := hP5
        subst eM
        refine n_iadd c_165_73 rfl ?_
        refine n_iconst c_165_74 ?_
        refine n_iadd c_165_75 rfl ?_
        refine n_s2I c_165_76 rfl rfl rfl rfl (imin_3 (x := 1000000) (y := ((x4 + z3) + 1)) hS (by omega) (by omega)) ?_
        intro z6 M7 hP8
        obtain ⟨eM, f8, f8p0⟩ := hP8
        subst eM
        refine n_istore (L2 := [some (2, 112), some (0, n), some (0, 3), some (0, t), some (0, x4), some (0, x5), some (0, x6), some (0, z6), none, none]) c_165_79 rfl rfl ?_
        refine n_aload_n c_165_81 rfl ?_
        refine n_getR c_165_82 sc_112.n rfl rfl rfl r_112_5 ?_
        refine n_iload c_165_85 rfl ?_
        refine n_ialoadV c_165_87 sc_116.n rfl rfl rfl (by omega) (t_116 hS (by omega)) ?_
        intro z9 ez9 f10
        refine n_iconst c_165_88 ?_
        refine n_if2_ne c_165_89 (by omega) (by omega) ?_ ?_
        · intro h11
          refine n_iconst c_165_121 ?_
          refine n_istore (L2 := [some (2, 112), some (0, n), some (0, 3), some (0, t), some (0, x4), some (0, x5), some (0, x6), some (0, z6), some (0, 0), none]) c_165_122 rfl rfl ?_
          refine n_fg (le_s (le_s (le_s (le_s (le_s (le_s (le_s (le_s (le_s (le_n le_0)))))))))) ?_
          exact ih.2.2.1 _ _ _ _ _ M hS (by omega) (by omega) (by omega) (by omega) (by omega) (by omega)
        · intro h12
          refine n_aload_n c_165_92 rfl ?_
          refine n_iload c_165_93 rfl ?_
          refine n_iload_n c_165_95 rfl ?_
          refine n_iload_n c_165_96 rfl ?_
          refine n_iload c_165_97 rfl ?_
          refine n_iconst c_165_99 ?_
          refine n_iload c_165_100 rfl ?_
          refine n_v6V c_165_102 rfl sc_112.n rfl rfl rfl rfl (mjoined3_3 (a := x5) (x := t) (y := x6) (w := 0) (s := z6) hS hdm (by omega) (by omega) (by omega) (by omega) (by omega)) ?_
          intro  M13 hP14
          have hS13 := hP14
          refine n_aload_n c_165_105 rfl ?_
          refine n_iload c_165_106 rfl ?_
          refine n_iload_n c_165_108 rfl ?_
          refine n_iload c_165_109 rfl ?_
          refine n_iload_n c_165_111 rfl ?_
          refine n_iconst c_165_112 ?_
          refine n_iload c_165_113 rfl ?_
          refine n_v6V c_165_115 rfl sc_112.n rfl rfl rfl rfl (mjoined3_3 (a := x5) (x := x6) (y := t) (w := 0) (s := z6) hS13 hdm (by omega) (by omega) (by omega) (by omega) (by omega)) ?_
          intro  M15 hP16
          have hS15 := hP16
          refine n_goto c_165_118 ?_
          refine n_fg (le_s (le_s (le_s (le_s (le_s (le_s (le_s (le_n (le_n (le_n le_0)))))))))) ?_
          exact ih.2.2.2.1 _ _ _ M15 hS15 (by omega) (by omega) (by omega) (by omega)
    · intro x4 x5 x6 x7 x8 M hS k4 k5 k6 k7 k8 hnn
      refine n_iload c_165_124 rfl ?_
      refine n_iload_n c_165_126 rfl ?_
      refine n_if2_gt c_165_127 (by omega) (by omega) ?_ ?_
      · intro h1
        refine n_fg (le_s (le_s (le_s (le_s (le_s (le_s (le_s (le_n (le_n (le_n le_0)))))))))) ?_
        exact ih.2.2.2.1 _ _ _ M hS (by omega) (by omega) (by omega) (by omega)
      · intro h2
        refine n_ldc (n := 1000000) c_165_130 rfl ?_
        refine n_iload c_165_132 rfl ?_
        refine n_aload_n c_165_134 rfl ?_
        refine n_iload_n c_165_135 rfl ?_
        refine n_iload c_165_136 rfl ?_
        refine n_v2I c_165_138 rfl sc_112.n rfl rfl rfl rfl (msizeOf_3 (n := n) (i := x8) hS hdm (by omega) (by omega)) ?_
        intro z3 M4 hP5
        obtain ⟨eM, f5⟩ := hP5
        subst eM
        refine n_iadd c_165_141 rfl ?_
        refine n_s2I c_165_142 rfl rfl rfl rfl (imin_3 (x := 1000000) (y := (x7 + z3)) hS (by omega) (by omega)) ?_
        intro z6 M7 hP8
        obtain ⟨eM, f8, f8p0⟩ := hP8
        subst eM
        refine n_istore (L2 := [some (2, 112), some (0, n), some (0, 3), some (0, t), some (0, x4), some (0, x5), some (0, x6), some (0, x7), some (0, x8), some (0, z6)]) c_165_145 rfl rfl ?_
        refine n_aload_n c_165_147 rfl ?_
        refine n_iload c_165_148 rfl ?_
        refine n_iload_n c_165_150 rfl ?_
        refine n_iload_n c_165_151 rfl ?_
        refine n_iload c_165_152 rfl ?_
        refine n_iload c_165_154 rfl ?_
        refine n_iload c_165_156 rfl ?_
        refine n_v6V c_165_158 rfl sc_112.n rfl rfl rfl rfl (mjoined3_3 (a := x5) (x := t) (y := x6) (w := x8) (s := z6) hS hdm (by omega) (by omega) (by omega) (by omega) (by omega)) ?_
        intro  M9 hP10
        have hS9 := hP10
        refine n_aload_n c_165_161 rfl ?_
        refine n_iload c_165_162 rfl ?_
        refine n_iload_n c_165_164 rfl ?_
        refine n_iload c_165_165 rfl ?_
        refine n_iload_n c_165_167 rfl ?_
        refine n_iload c_165_168 rfl ?_
        refine n_iload c_165_170 rfl ?_
        refine n_v6V c_165_172 rfl sc_112.n rfl rfl rfl rfl (mjoined3_3 (a := x5) (x := x6) (y := t) (w := x8) (s := z6) hS9 hdm (by omega) (by omega) (by omega) (by omega) (by omega)) ?_
        intro  M11 hP12
        have hS11 := hP12
        refine n_aload_n c_165_175 rfl ?_
        refine n_iload c_165_176 rfl ?_
        refine n_iload_n c_165_178 rfl ?_
        refine n_iload c_165_179 rfl ?_
        refine n_iload c_165_181 rfl ?_
        refine n_iload_n c_165_183 rfl ?_
        refine n_iload c_165_184 rfl ?_
        refine n_v6V c_165_186 rfl sc_112.n rfl rfl rfl rfl (mjoined3_3 (a := x5) (x := x6) (y := x8) (w := t) (s := z6) hS11 hdm (by omega) (by omega) (by omega) (by omega) (by omega)) ?_
        intro  M13 hP14
        have hS13 := hP14
        refine n_iinc (L2 := [some (2, 112), some (0, n), some (0, 3), some (0, t), some (0, x4), some (0, x5), some (0, x6), some (0, x7), some (0, (x8 + 1)), some (0, z6)]) c_165_189 rfl rfl rfl ?_
        refine n_goto c_165_192 ?_
        refine n_fg (le_s (le_s (le_s (le_s (le_s (le_s (le_s (le_s (le_s (le_n le_0)))))))))) ?_
        exact ih.2.2.1 _ _ _ _ _ M13 hS13 (by omega) (by omega) (by omega) (by omega) (by omega) (by omega)
    · intro x4 x5 x6 M hS k4 k5 k6 hnn
      refine n_iinc (L2 := [some (2, 112), some (0, n), some (0, 3), some (0, t), some (0, x4), some (0, x5), some (0, (x6 + 1)), none, none, none]) c_165_195 rfl rfl rfl ?_
      refine n_goto c_165_198 ?_
      refine n_fg (le_s (le_s (le_s (le_s (le_s (le_s (le_s (le_n (le_n (le_n le_0)))))))))) ?_
      exact ih.2.1 _ _ _ M hS (by omega) (by omega) (by omega) (by omega)
    · intro x4 x5 M hS k4 k5 hnn
      refine n_iinc (L2 := [some (2, 112), some (0, n), some (0, 3), some (0, t), some (0, x4), some (0, (x5 + 1)), none, none, none, none]) c_165_201 rfl rfl rfl ?_
      refine n_goto c_165_204 ?_
      refine n_fg (le_s (le_s (le_s (le_s (le_s (le_s (le_n (le_n (le_n (le_n le_0)))))))))) ?_
      exact ih.1 _ _ M hS (by omega) (by omega) (by omega)
set_option maxHeartbeats 4000000 in
theorem mjoins3_3 {xs : List Int32} {e : Nat} {ac : Int} {M0 M : nM} {n t : Int} (hS : Sf 3 ac M0 M) (hdm : M0 112 0 = 3) (hn : 1 ≤ n ∧ n ≤ 2) (ht : 0 ≤ t ∧ t ≤ 255) : nW xs (e + 1) 165 0 [some (2, 112), some (0, n), some (0, 3), some (0, t), none, none, none, none, none, none] [] M (nPV fun M1 => Sf 3 ac M0 M1) := by
  have hd : (3 : Int) = 2 ∨ (3 : Int) = 3 := by decide
  have hac := hS.2.2.2.2
  refine n_aload_n c_165_0 rfl ?_
  refine n_iload_n c_165_1 rfl ?_
  refine n_iload_n c_165_2 rfl ?_
  refine n_v2I c_165_3 rfl sc_112.n rfl rfl rfl rfl (msizeOf_3 (n := n) (i := t) hS hdm (by omega) (by omega)) ?_
  intro z1 M2 hP3
  obtain ⟨eM, f3⟩ := hP3
  subst eM
  refine n_istore (L2 := [some (2, 112), some (0, n), some (0, 3), some (0, t), some (0, z1), none, none, none, none, none]) c_165_6 rfl rfl ?_
  refine n_iconst c_165_8 ?_
  refine n_istore (L2 := [some (2, 112), some (0, n), some (0, 3), some (0, t), some (0, z1), some (0, 0), none, none, none, none]) c_165_9 rfl rfl ?_
  refine n_fg (le_s (le_s (le_s (le_s (le_s (le_s (le_n (le_n (le_n (le_n le_0)))))))))) ?_
  exact (mjoins3_3_c hS hdm hn ht 1341650).1 _ _ M hS (by omega) (by omega) (by omega)

set_option maxHeartbeats 4000000 in
theorem mjoins9_3_c {xs : List Int32} {e : Nat} {ac : Int} {M0 M : nM} {n t : Int} (hS : Sf 3 ac M0 M) (hdm : M0 112 0 = 3) (hn : 1 ≤ n ∧ n ≤ 2) (ht : 0 ≤ t ∧ t ≤ 255) : ∀ nn : Nat, (∀ (x4 x5 : Int) (M : nM), Sf 3 ac M0 M → (0 ≤ x4 ∧ x4 ≤ 1000000) → (0 ≤ x5 ∧ x5 ≤ 8) → (8 - x5) * 67082 + 67082 < (nn : Int) → nW xs (e + 1) 165 11 [some (2, 112), some (0, n), some (0, 9), some (0, t), some (0, x4), some (0, x5), none, none, none, none] [] M (nPV fun M1 => Sf 3 ac M0 M1)) ∧ (∀ (x4 x5 x6 : Int) (M : nM), Sf 3 ac M0 M → (0 ≤ x4 ∧ x4 ≤ 1000000) → (0 ≤ x5 ∧ x5 ≤ 7) → (0 ≤ x6 ∧ x6 ≤ 256) → (8 - x5) * 67082 + (256 - x6) * 260 + 261 < (nn : Int) → nW xs (e + 1) 165 56 [some (2, 112), some (0, n), some (0, 9), some (0, t), some (0, x4), some (0, x5), some (0, x6), none, none, none] [] M (nPV fun M1 => Sf 3 ac M0 M1)) ∧ (∀ (x4 x5 x6 x7 x8 : Int) (M : nM), Sf 3 ac M0 M → (0 ≤ x4 ∧ x4 ≤ 1000000) → (0 ≤ x5 ∧ x5 ≤ 7) → (0 ≤ x6 ∧ x6 ≤ 255) → (1 ≤ x7 ∧ x7 ≤ 1000000) → (0 ≤ x8 ∧ x8 ≤ 256) → (8 - x5) * 67082 + (256 - x6) * 260 + (256 - x8) * 1 + 3 < (nn : Int) → nW xs (e + 1) 165 124 [some (2, 112), some (0, n), some (0, 9), some (0, t), some (0, x4), some (0, x5), some (0, x6), some (0, x7), some (0, x8), none] [] M (nPV fun M1 => Sf 3 ac M0 M1)) ∧ (∀ (x4 x5 x6 : Int) (M : nM), Sf 3 ac M0 M → (0 ≤ x4 ∧ x4 ≤ 1000000) → (0 ≤ x5 ∧ x5 ≤ 7) → (0 ≤ x6 ∧ x6 ≤ 255) → (8 - x5) * 67082 + (256 - x6) * 260 + 2 < (nn : Int) → nW xs (e + 1) 165 195 [some (2, 112), some (0, n), some (0, 9), some (0, t), some (0, x4), some (0, x5), some (0, x6), none, none, none] [] M (nPV fun M1 => Sf 3 ac M0 M1)) ∧ (∀ (x4 x5 : Int) (M : nM), Sf 3 ac M0 M → (0 ≤ x4 ∧ x4 ≤ 1000000) → (0 ≤ x5 ∧ x5 ≤ 7) → (8 - x5) * 67082 + 1 < (nn : Int) → nW xs (e + 1) 165 201 [some (2, 112), some (0, n), some (0, 9), some (0, t), some (0, x4), some (0, x5), none, none, none, none] [] M (nPV fun M1 => Sf 3 ac M0 M1)) := by
  have hd : (3 : Int) = 2 ∨ (3 : Int) = 3 := by decide
  have hac := hS.2.2.2.2
  intro nn
  induction nn with
  | zero => refine ⟨?_, ?_, ?_, ?_, ?_⟩ <;> (intros; omega)
  | succ nn ih =>
    refine ⟨?_, ?_, ?_, ?_, ?_⟩
    · intro x4 x5 M hS k4 k5 hnn
      refine n_iload c_165_11 rfl ?_
      refine n_aload_n c_165_13 rfl ?_
      refine n_getV (bi := 4) c_165_14 sc_112.n rfl rfl rfl (t_112_4 hS) ?_
      intro z1 ez1 f2
      refine n_if2_ge c_165_17 (by omega) (by omega) ?_ ?_
      · intro h3
        exact n_rV c_165_207 rfl hS
      · intro h4
        refine n_aload_n c_165_20 rfl ?_
        refine n_getR c_165_21 sc_112.n rfl rfl rfl r_112_5 ?_
        refine n_iload c_165_24 rfl ?_
        refine n_ialoadV c_165_26 sc_116.n rfl rfl rfl (by omega) (t_116 hS (by omega)) ?_
        intro z5 ez5 f6
        refine n_iconst c_165_27 ?_
        refine n_if2_ne c_165_28 (by omega) (by omega) ?_ ?_
        · intro h7
          refine n_iconst c_165_53 ?_
          refine n_istore (L2 := [some (2, 112), some (0, n), some (0, 9), some (0, t), some (0, x4), some (0, x5), some (0, 0), none, none, none]) c_165_54 rfl rfl ?_
          refine n_fg (le_s (le_s (le_s (le_s (le_s (le_s (le_s (le_n (le_n (le_n le_0)))))))))) ?_
          exact ih.2.1 _ _ _ M hS (by omega) (by omega) (by omega) (by omega)
        · intro h8
          refine n_aload_n c_165_31 rfl ?_
          refine n_iload c_165_32 rfl ?_
          refine n_iload_n c_165_34 rfl ?_
          refine n_iload_n c_165_35 rfl ?_
          refine n_iconst c_165_36 ?_
          refine n_iconst c_165_37 ?_
          refine n_ldc (n := 1000000) c_165_38 rfl ?_
          refine n_iload c_165_40 rfl ?_
          refine n_iconst c_165_42 ?_
          refine n_iadd c_165_43 rfl ?_
          refine n_s2I c_165_44 rfl rfl rfl rfl (imin_3 (x := 1000000) (y := (x4 + 1)) hS (by omega) (by omega)) ?_
          intro z9 M10 hP11
          obtain ⟨eM, f11, f11p0⟩ := hP11
          subst eM
          refine n_v6V c_165_47 rfl sc_112.n rfl rfl rfl rfl (mjoined9_3 (a := x5) (x := t) (y := 0) (w := 0) (s := z9) hS hdm (by omega) (by omega) (by omega) (by omega) (by omega)) ?_
          intro  M12 hP13
          have hS12 := hP13
          refine n_goto c_165_50 ?_
          refine n_fg (le_s (le_s (le_s (le_s (le_s (le_s (le_n (le_n (le_n (le_n le_0)))))))))) ?_
          exact ih.2.2.2.2 _ _ M12 hS12 (by omega) (by omega) (by omega)
    · intro x4 x5 x6 M hS k4 k5 k6 hnn
      refine n_iload c_165_56 rfl ?_
      refine n_iload_n c_165_58 rfl ?_
      refine n_if2_gt c_165_59 (by omega) (by omega) ?_ ?_
      · intro h1
        refine n_fg (le_s (le_s (le_s (le_s (le_s (le_s (le_n (le_n (le_n (le_n le_0)))))))))) ?_
        exact ih.2.2.2.2 _ _ M hS (by omega) (by omega) (by omega)
      · intro h2
        refine n_ldc (n := 1000000) c_165_62 rfl ?_
        refine n_iload c_165_64 rfl ?_
        refine n_aload_n c_165_66 rfl ?_
        refine n_iload_n c_165_67 rfl ?_
        refine n_iload c_165_68 rfl ?_
        refine n_v2I c_165_70 rfl sc_112.n rfl rfl rfl rfl (msizeOf_3 (n := n) (i := x6) hS hdm (by omega) (by omega)) ?_
        intro z3 M4 hP5
        obtain ⟨eM, f5⟩ := hP5
        subst eM
        refine n_iadd c_165_73 rfl ?_
        refine n_iconst c_165_74 ?_
        refine n_iadd c_165_75 rfl ?_
        refine n_s2I c_165_76 rfl rfl rfl rfl (imin_3 (x := 1000000) (y := ((x4 + z3) + 1)) hS (by omega) (by omega)) ?_
        intro z6 M7 hP8
        obtain ⟨eM, f8, f8p0⟩ := hP8
        subst eM
        refine n_istore (L2 := [some (2, 112), some (0, n), some (0, 9), some (0, t), some (0, x4), some (0, x5), some (0, x6), some (0, z6), none, none]) c_165_79 rfl rfl ?_
        refine n_aload_n c_165_81 rfl ?_
        refine n_getR c_165_82 sc_112.n rfl rfl rfl r_112_5 ?_
        refine n_iload c_165_85 rfl ?_
        refine n_ialoadV c_165_87 sc_116.n rfl rfl rfl (by omega) (t_116 hS (by omega)) ?_
        intro z9 ez9 f10
        refine n_iconst c_165_88 ?_
        refine n_if2_ne c_165_89 (by omega) (by omega) ?_ ?_
        · intro h11
          refine n_iconst c_165_121 ?_
          refine n_istore (L2 := [some (2, 112), some (0, n), some (0, 9), some (0, t), some (0, x4), some (0, x5), some (0, x6), some (0, z6), some (0, 0), none]) c_165_122 rfl rfl ?_
          refine n_fg (le_s (le_s (le_s (le_s (le_s (le_s (le_s (le_s (le_s (le_n le_0)))))))))) ?_
          exact ih.2.2.1 _ _ _ _ _ M hS (by omega) (by omega) (by omega) (by omega) (by omega) (by omega)
        · intro h12
          refine n_aload_n c_165_92 rfl ?_
          refine n_iload c_165_93 rfl ?_
          refine n_iload_n c_165_95 rfl ?_
          refine n_iload_n c_165_96 rfl ?_
          refine n_iload c_165_97 rfl ?_
          refine n_iconst c_165_99 ?_
          refine n_iload c_165_100 rfl ?_
          refine n_v6V c_165_102 rfl sc_112.n rfl rfl rfl rfl (mjoined9_3 (a := x5) (x := t) (y := x6) (w := 0) (s := z6) hS hdm (by omega) (by omega) (by omega) (by omega) (by omega)) ?_
          intro  M13 hP14
          have hS13 := hP14
          refine n_aload_n c_165_105 rfl ?_
          refine n_iload c_165_106 rfl ?_
          refine n_iload_n c_165_108 rfl ?_
          refine n_iload c_165_109 rfl ?_
          refine n_iload_n c_165_111 rfl ?_
          refine n_iconst c_165_112 ?_
          refine n_iload c_165_113 rfl ?_
          refine n_v6V c_165_115 rfl sc_112.n rfl rfl rfl rfl (mjoined9_3 (a := x5) (x := x6) (y := t) (w := 0) (s := z6) hS13 hdm (by omega) (by omega) (by omega) (by omega) (by omega)) ?_
          intro  M15 hP16
          have hS15 := hP16
          refine n_goto c_165_118 ?_
          refine n_fg (le_s (le_s (le_s (le_s (le_s (le_s (le_s (le_n (le_n (le_n le_0)))))))))) ?_
          exact ih.2.2.2.1 _ _ _ M15 hS15 (by omega) (by omega) (by omega) (by omega)
    · intro x4 x5 x6 x7 x8 M hS k4 k5 k6 k7 k8 hnn
      refine n_iload c_165_124 rfl ?_
      refine n_iload_n c_165_126 rfl ?_
      refine n_if2_gt c_165_127 (by omega) (by omega) ?_ ?_
      · intro h1
        refine n_fg (le_s (le_s (le_s (le_s (le_s (le_s (le_s (le_n (le_n (le_n le_0)))))))))) ?_
        exact ih.2.2.2.1 _ _ _ M hS (by omega) (by omega) (by omega) (by omega)
      · intro h2
        refine n_ldc (n := 1000000) c_165_130 rfl ?_
        refine n_iload c_165_132 rfl ?_
        refine n_aload_n c_165_134 rfl ?_
        refine n_iload_n c_165_135 rfl ?_
        refine n_iload c_165_136 rfl ?_
        refine n_v2I c_165_138 rfl sc_112.n rfl rfl rfl rfl (msizeOf_3 (n := n) (i := x8) hS hdm (by omega) (by omega)) ?_
        intro z3 M4 hP5
        obtain ⟨eM, f5⟩ := hP5
        subst eM
        refine n_iadd c_165_141 rfl ?_
        refine n_s2I c_165_142 rfl rfl rfl rfl (imin_3 (x := 1000000) (y := (x7 + z3)) hS (by omega) (by omega)) ?_
        intro z6 M7 hP8
        obtain ⟨eM, f8, f8p0⟩ := hP8
        subst eM
        refine n_istore (L2 := [some (2, 112), some (0, n), some (0, 9), some (0, t), some (0, x4), some (0, x5), some (0, x6), some (0, x7), some (0, x8), some (0, z6)]) c_165_145 rfl rfl ?_
        refine n_aload_n c_165_147 rfl ?_
        refine n_iload c_165_148 rfl ?_
        refine n_iload_n c_165_150 rfl ?_
        refine n_iload_n c_165_151 rfl ?_
        refine n_iload c_165_152 rfl ?_
        refine n_iload c_165_154 rfl ?_
        refine n_iload c_165_156 rfl ?_
        refine n_v6V c_165_158 rfl sc_112.n rfl rfl rfl rfl (mjoined9_3 (a := x5) (x := t) (y := x6) (w := x8) (s := z6) hS hdm (by omega) (by omega) (by omega) (by omega) (by omega)) ?_
        intro  M9 hP10
        have hS9 := hP10
        refine n_aload_n c_165_161 rfl ?_
        refine n_iload c_165_162 rfl ?_
        refine n_iload_n c_165_164 rfl ?_
        refine n_iload c_165_165 rfl ?_
        refine n_iload_n c_165_167 rfl ?_
        refine n_iload c_165_168 rfl ?_
        refine n_iload c_165_170 rfl ?_
        refine n_v6V c_165_172 rfl sc_112.n rfl rfl rfl rfl (mjoined9_3 (a := x5) (x := x6) (y := t) (w := x8) (s := z6) hS9 hdm (by omega) (by omega) (by omega) (by omega) (by omega)) ?_
        intro  M11 hP12
        have hS11 := hP12
        refine n_aload_n c_165_175 rfl ?_
        refine n_iload c_165_176 rfl ?_
        refine n_iload_n c_165_178 rfl ?_
        refine n_iload c_165_179 rfl ?_
        refine n_iload c_165_181 rfl ?_
        refine n_iload_n c_165_183 rfl ?_
        refine n_iload c_165_184 rfl ?_
        refine n_v6V c_165_186 rfl sc_112.n rfl rfl rfl rfl (mjoined9_3 (a := x5) (x := x6) (y := x8) (w := t) (s := z6) hS11 hdm (by omega) (by omega) (by omega) (by omega) (by omega)) ?_
        intro  M13 hP14
        have hS13 := hP14
        refine n_iinc (L2 := [some (2, 112), some (0, n), some (0, 9), some (0, t), some (0, x4), some (0, x5), some (0, x6), some (0, x7), some (0, (x8 + 1)), some (0, z6)]) c_165_189 rfl rfl rfl ?_
        refine n_goto c_165_192 ?_
        refine n_fg (le_s (le_s (le_s (le_s (le_s (le_s (le_s (le_s (le_s (le_n le_0)))))))))) ?_
        exact ih.2.2.1 _ _ _ _ _ M13 hS13 (by omega) (by omega) (by omega) (by omega) (by omega) (by omega)
    · intro x4 x5 x6 M hS k4 k5 k6 hnn
      refine n_iinc (L2 := [some (2, 112), some (0, n), some (0, 9), some (0, t), some (0, x4), some (0, x5), some (0, (x6 + 1)), none, none, none]) c_165_195 rfl rfl rfl ?_
      refine n_goto c_165_198 ?_
      refine n_fg (le_s (le_s (le_s (le_s (le_s (le_s (le_s (le_n (le_n (le_n le_0)))))))))) ?_
      exact ih.2.1 _ _ _ M hS (by omega) (by omega) (by omega) (by omega)
    · intro x4 x5 M hS k4 k5 hnn
      refine n_iinc (L2 := [some (2, 112), some (0, n), some (0, 9), some (0, t), some (0, x4), some (0, (x5 + 1)), none, none, none, none]) c_165_201 rfl rfl rfl ?_
      refine n_goto c_165_204 ?_
      refine n_fg (le_s (le_s (le_s (le_s (le_s (le_s (le_n (le_n (le_n (le_n le_0)))))))))) ?_
      exact ih.1 _ _ M hS (by omega) (by omega) (by omega)
set_option maxHeartbeats 4000000 in
theorem mjoins9_3 {xs : List Int32} {e : Nat} {ac : Int} {M0 M : nM} {n t : Int} (hS : Sf 3 ac M0 M) (hdm : M0 112 0 = 3) (hn : 1 ≤ n ∧ n ≤ 2) (ht : 0 ≤ t ∧ t ≤ 255) : nW xs (e + 1) 165 0 [some (2, 112), some (0, n), some (0, 9), some (0, t), none, none, none, none, none, none] [] M (nPV fun M1 => Sf 3 ac M0 M1) := by
  have hd : (3 : Int) = 2 ∨ (3 : Int) = 3 := by decide
  have hac := hS.2.2.2.2
  refine n_aload_n c_165_0 rfl ?_
  refine n_iload_n c_165_1 rfl ?_
  refine n_iload_n c_165_2 rfl ?_
  refine n_v2I c_165_3 rfl sc_112.n rfl rfl rfl rfl (msizeOf_3 (n := n) (i := t) hS hdm (by omega) (by omega)) ?_
  intro z1 M2 hP3
  obtain ⟨eM, f3⟩ := hP3
  subst eM
  refine n_istore (L2 := [some (2, 112), some (0, n), some (0, 9), some (0, t), some (0, z1), none, none, none, none, none]) c_165_6 rfl rfl ?_
  refine n_iconst c_165_8 ?_
  refine n_istore (L2 := [some (2, 112), some (0, n), some (0, 9), some (0, t), some (0, z1), some (0, 0), none, none, none, none]) c_165_9 rfl rfl ?_
  refine n_fg (le_s (le_s (le_s (le_s (le_s (le_s (le_n (le_n (le_n (le_n le_0)))))))))) ?_
  exact (mjoins9_3_c hS hdm hn ht 1341650).1 _ _ M hS (by omega) (by omega) (by omega)
